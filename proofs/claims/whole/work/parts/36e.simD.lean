/-- what is written when a piece comes under the next number: nothing else of the two sides -/
def nwE (S S2 : St) (N : Int) : Prop := ∀ (a b : Nat) (i : Int), ¬ (a = 0 ∧ ((b = 0 ∧ (i = 14 ∨ i = 27)) ∨ ((b = 16 ∨ b = 17 ∨ b = 18 ∨ b = 21) ∧ i = N) ∨ ((b = 22 ∨ b = 23 ∨ b = 24) ∧ 24 * N ≤ i ∧ i < 24 * N + 24) ∨ ((b = 25 ∨ b = 26 ∨ b = 27) ∧ 240 * N ≤ i ∧ i < 240 * N + 240))) → ¬ (a = 3 ∧ b = 1) → ¬ (a = 1 ∧ ((b = 6 ∧ i = N) ∨ (b = 0 ∧ i = 6))) → a ≠ 10 + N.toNat → S2 a b i = S a b i
set_option maxHeartbeats 4000000 in
theorem sim_loom {S S1 S2 : St} {ad ad1 ad2 : Nat → Nat → Nat} {r1 r2 : Option Value} {x n : Int} {mir : Prop} (hI : Inv S) (hrn : rng x) (hrn2 : rng n) (h1 : lhP ad (ceC S x) (1 ≤ n ∧ n ≤ 4 ∧ n ≤ S (4 + x.toNat) 0 0) (1 ≤ S (4 + x.toNat) 0 1 ∧ S 1 0 6 < 20) S (st (lmS S x n mir) 3 1 0 (wr (S 1 0 6))) r1 ad1 S1) (h2 : (mP ad1 (isC S1 x) (((1 ≤ n ∧ n ≤ 4) ∧ (¬ (isC S1 x)) ∧ (n ≤ (S1 0 4 0))) ∨ ((1 ≤ n ∧ n ≤ 4) ∧ (isC S1 x) ∧ (n ≤ (S1 0 4 x)))) ((isC S1 x) ∧ (0 < (S1 0 5 x)) ∧ ((S1 0 0 14) < 20)) S1 (some (.int (i32 (((S1 0 0 14) + 1) - 1)))) (fun Z => ∀ (a1 b1 : Nat) (i1 : Int), Z a1 b1 i1 = if a1 = 0 ∧ b1 = 0 ∧ i1 = 14 then (S1 0 0 14) + 1 else lmF (st (st (st (st (st S1 0 0 27 (thr (isC S1 x) (((1 ≤ n ∧ n ≤ 4) ∧ (¬ (isC S1 x)) ∧ (n ≤ (S1 0 4 0))) ∨ ((1 ≤ n ∧ n ≤ 4) ∧ (isC S1 x) ∧ (n ≤ (S1 0 4 x)))) ((isC S1 x) ∧ (0 < (S1 0 5 x)) ∧ ((S1 0 0 14) < 20)))) 0 16 (S1 0 0 14) (S1 0 4 x)) 0 21 (S1 0 0 14) (S1 0 4 x)) 0 17 (S1 0 0 14) (S1 0 5 x)) 0 18 (S1 0 0 14) n) (S1 0 0 14) (S1 0 5 x) (S1 0 4 x) 0 (S1 0 4 x) (fun r1 c1 => drM S1 x r1 (cif mir (S1 0 4 x - 1 - c1) c1)) a1 b1 i1)) r2 ad2 S2) : Gd ad (thr (ceC S x) (1 ≤ n ∧ n ≤ 4 ∧ n ≤ S (4 + x.toNat) 0 0) (1 ≤ S (4 + x.toNat) 0 1 ∧ S 1 0 6 < 20)) r2 ad2 S2 := by
  have hw := hI.p.1
  have e0 := lhP_0 h1 zk_loom.1
  have ek := (lhP_k h1).2
  have hk : thr (isC S1 x) (((1 ≤ n ∧ n ≤ 4) ∧ (¬ (isC S1 x)) ∧ (n ≤ (S1 0 4 0))) ∨ ((1 ≤ n ∧ n ≤ 4) ∧ (isC S1 x) ∧ (n ≤ (S1 0 4 x)))) ((isC S1 x) ∧ (0 < (S1 0 5 x)) ∧ ((S1 0 0 14) < 20)) = thr (ceC S x) (1 ≤ n ∧ n ≤ 4 ∧ n ≤ S (4 + x.toNat) 0 0) (1 ≤ S (4 + x.toNat) 0 1 ∧ S 1 0 6 < 20) := by
    have hc1 := propext (isC_e e0 x)
    rw [hc1, e0]
    refine thr_c (by rw [hI.ce]) (fun y => ?_) (fun y _ => ?_)
    · have hx := hI.ce.mp y
      obtain ⟨-, g4, -⟩ := hI.c.2.2.1 x hx.1 hx.2
      rw [g4]
      exact ⟨fun u => Or.inr ⟨⟨u.1, u.2.1⟩, hx, u.2.2⟩, fun u => by
        rcases u with u | u
        · exact absurd hx u.2.1
        · exact ⟨u.1.1, u.1.2, u.2.2⟩⟩
    · have hx := hI.ce.mp y
      obtain ⟨-, -, g5, -⟩ := hI.c.2.2.1 x hx.1 hx.2
      rw [g5, hw]
      exact ⟨fun u => ⟨hx, by omega, u.2⟩, fun u => ⟨by omega, u.2.2⟩⟩
  rcases h1.2 with ⟨hn, ha, hs⟩ | ⟨hc, ha, hs⟩
  · rw [ha, hs] at h2
    rw [hs] at hk
    exact sim_no hI hk hn h2
  · obtain ⟨h3, h4, h5⟩ := mP_y (hk.trans (thr_z.mpr hc)) h2
    rw [h3]
    rw [hk] at h5
    have hx := hI.ce.mp hc.1
    have hcs := hI.m.cs
    have hps := hI.m.ps
    have hx0 := hx.1
    have hx1 := hx.2
    have hC := hI.c.2.2.1 x hx0 hx1
    obtain ⟨⟨ga, gw, gh⟩, g4, g5, -⟩ := id hC
    have hn := hc.2.1
    have hH := hc.2.2
    rw [g4] at hn gw
    rw [g5] at hH gh
    rw [hw] at hH
    generalize hT : thr (ceC S x) (1 ≤ n ∧ n ≤ 4 ∧ n ≤ S (4 + x.toNat) 0 0) (1 ≤ S (4 + x.toNat) 0 1 ∧ S 1 0 6 < 20) = T at h5 ⊢
    have hdr : ∀ r q, drM S1 x r q = drM S x r q := fun r q => by unfold drM; rw [e0]
    simp only [e0, hdr] at h4 h5
    have hcol : ∀ r q, 0 ≤ r → r < 10 → 0 ≤ q → q < 12 → 0 ≤ drM S x r q ∧ drM S x r q ≤ 5 := fun r q r0 r1 q0 q1 => by
      obtain ⟨-, -, -, -, -, k6, k7, -⟩ := hC
      have k8 := hI.c.2.2.2.1 (120 * x + 12 * r + q) (by omega) (by omega)
      unfold drM
      by_cases h6 : S 0 8 (120 * x + 12 * r + q) = 6
      · rw [cif_t h6]
        by_cases h7 : (r + q) % 2 = 0
        · rw [cif_t h7]; exact k6
        · rw [cif_f h7]; exact k7
      · rw [cif_f h6]; omega
    unfold lmS at hs
    rw [hw, g4, g5] at hs
    obtain ⟨N, hN⟩ : ∃ N, S 0 0 14 = N := ⟨_, rfl⟩
    obtain ⟨W, hWe⟩ : ∃ W, S 0 4 x = W := ⟨_, rfl⟩
    obtain ⟨H, hHe⟩ : ∃ H, S 0 5 x = H := ⟨_, rfl⟩
    rw [hN] at h4 h5 hs hH hps hw
    rw [hWe] at h5 hs hn gw
    rw [hHe] at h5 hs hH gh
    have hun := hI.p.2.2.2.1
    rw [hN] at hun
    obtain ⟨n18, n19, n20, n27⟩ := hun N (Int.le_refl _) (by omega)
    have dcx : ∀ r q, 0 ≤ r → r < 10 → 0 ≤ q → q < 12 → dcF (nwS S (10 + N.toNat) (fun i => if i = -1 then 1 else if i = 1 then H else if i = 2 then n else 0)) (4 + x.toNat) r q = drM S x r q := fun r q r0 r1 q0 q1 => by
      rw [← dc_eq hC r0 r1 q0 q1]
      unfold dcF
      rw [nwS_n (by omega), nwS_n (by omega), nwS_n (by omega)]
    have w0 : nwS S (10 + N.toNat) (fun i => if i = -1 then 1 else if i = 1 then H else if i = 2 then n else 0) (4 + x.toNat) 0 0 = W := by rw [nwS_n (by omega), g4, hWe]
    -- the class's side
    have c_n : ∀ (a b : Nat) (i : Int), ¬ (a = 3 ∧ b = 1) → ¬ (a = 1 ∧ ((b = 6 ∧ i = N) ∨ (b = 0 ∧ i = 6))) → a ≠ 10 + N.toNat → S1 a b i = S a b i := fun a b i y1 y2 y3 => by
      rw [hs, st_at, if_neg (by omega), st_at, if_neg (by omega), st_at, if_neg (by omega), dfF_x y3, nwS_n y3]
    have c_o : ∀ (b : Nat) (i : Int), S1 (10 + N.toNat) b i = dfF (nwS S (10 + N.toNat) (fun i => if i = -1 then 1 else if i = 1 then H else if i = 2 then n else 0)) (10 + N.toNat) (4 + x.toNat) mir N H W 0 W (10 + N.toNat) b i := fun b i => by
      rw [hs, st_at, if_neg (by omega), st_at, if_neg (by omega), st_at, if_neg (by omega)]
    have c16 : S1 1 6 N = 1 := by rw [hs, st_at, if_neg (by omega), st_at, if_neg (by omega), st_at, if_pos ⟨rfl, rfl, rfl⟩]
    have c106 : S1 1 0 6 = N + 1 := by rw [hs, st_at, if_neg (by omega), st_at, if_pos ⟨rfl, rfl, rfl⟩]
    have c31 : S1 3 1 0 = wr N := by rw [hs, st_at, if_pos ⟨rfl, rfl, rfl⟩]
    have o0 : S1 (10 + N.toNat) 0 0 = W := by rw [c_o, dfF_0, w0]
    have oz : ∀ (b : Nat) (i : Int), b ≠ 5 ∧ b ≠ 6 ∧ b ≠ 8 → ¬ (b = 0 ∧ i = 0) → S1 (10 + N.toNat) b i = if b = 0 then (if i = -1 then 1 else if i = 1 then H else if i = 2 then n else 0) else 0 := fun b i y1 y2 => by
      rw [c_o, dfF_o y1 y2]
      unfold nwS
      rw [if_pos rfl]
    have oa : S1 (10 + N.toNat) 0 (-1) = 1 := by rw [oz _ _ (by decide) (by decide)]; simp
    have o1 : S1 (10 + N.toNat) 0 1 = H := by rw [oz _ _ (by decide) (by decide)]; simp
    have o2 : S1 (10 + N.toNat) 0 2 = n := by rw [oz _ _ (by decide) (by decide)]; simp
    have or0 : ∀ (b : Nat) (i : Int), b = 4 ∨ b = 7 ∨ b = 9 → S1 (10 + N.toNat) b i = 0 := fun b i y => by rw [oz _ _ (by omega) (by omega), if_neg (by omega)]
    have o8 : ∀ i, S1 (10 + N.toNat) 8 i = if 0 ≤ i ∧ i < W then N * 24 + i else 0 := fun i => by
      rw [c_o]
      unfold dfF
      rw [if_neg (by omega)]
      by_cases y : 0 ≤ i ∧ i < W
      · rw [if_pos ⟨rfl, rfl, y.1, y.2⟩, if_pos y]
      · rw [if_neg (fun u => y u.2.2), if_neg (by omega), if_neg (by omega), if_neg y, nwS_r (by decide)]
    have hpcd : ∀ r c, 0 ≤ r → r < H → 0 ≤ c → c < W → pcd H W 0 (r * 24 + c) := fun r c r0 r1 c0 c1 => by unfold pcd; omega
    have o5 : ∀ r c, 0 ≤ r → r < H → 0 ≤ c → c < W → S1 (10 + N.toNat) 5 (r * 24 + c) = drM S x r (cif mir (W - 1 - c) c) := fun r c r0 r1 c0 c1 => by
      rw [c_o]
      unfold dfF
      rw [if_neg (by omega), if_neg (by omega), if_pos ⟨rfl, rfl, hpcd r c r0 r1 c0 c1⟩, w0, show (r * 24 + c) / 24 = r by omega, show (r * 24 + c) % 24 = c by omega]
      refine dcx _ _ (by omega) (by omega) ?_ ?_
      · by_cases hm : mir
        · rw [cif_t hm]; omega
        · rw [cif_f hm]; exact c0
      · by_cases hm : mir
        · rw [cif_t hm]; omega
        · rw [cif_f hm]; omega
    have o6 : ∀ r c, 0 ≤ r → r < H → 0 ≤ c → c < W → S1 (10 + N.toNat) 6 (r * 24 + c) = -1 := fun r c r0 r1 c0 c1 => by
      rw [c_o]
      unfold dfF
      rw [if_neg (by omega), if_neg (by omega), if_neg (by omega), if_pos ⟨rfl, rfl, hpcd r c r0 r1 c0 c1⟩]
    clear hs c_o oz
    -- the reference's side
    have m_x : ∀ (a b : Nat) (i : Int), a ≠ 0 → S2 a b i = S1 a b i := fun a b i y => by
      rw [h5, if_neg (by omega)]
      unfold lmF
      rw [if_neg (by omega), if_neg (by omega), if_neg (by omega), if_neg (by omega), if_neg (by omega), st_at, if_neg (by omega), st_at, if_neg (by omega), st_at, if_neg (by omega), st_at, if_neg (by omega), st_at, if_neg (by omega)]
    have m_b : ∀ (b : Nat) (i : Int), ¬ (b = 0 ∧ i = 14) → S2 0 b i = lmF (st (st (st (st (st S1 0 0 27 T) 0 16 N W) 0 21 N W) 0 17 N H) 0 18 N n) N H W 0 W (fun r1 c1 => drM S x r1 (cif mir (W - 1 - c1) c1)) 0 b i := fun b i y => by rw [h5, if_neg (by omega)]
    have m14 : S2 0 0 14 = N + 1 := by rw [h5, if_pos ⟨rfl, rfl, rfl⟩]
    have m_o : ∀ (b : Nat) (i : Int), ¬ (b = 0 ∧ i = 14) → (b ≠ 22 ∧ b ≠ 23 ∧ b ≠ 24 ∧ b ≠ 25 ∧ b ≠ 26) → S2 0 b i = st (st (st (st (st S1 0 0 27 T) 0 16 N W) 0 21 N W) 0 17 N H) 0 18 N n 0 b i := fun b i y1 y2 => by rw [m_b b i y1, lmF_o _ _ _ _ _ _ _ y2]
    have m27 : S2 0 0 27 = T := by rw [m_o 0 27 (by decide) (by decide), st_at, if_neg (by omega), st_at, if_neg (by omega), st_at, if_neg (by omega), st_at, if_neg (by omega), st_at, if_pos ⟨rfl, rfl, rfl⟩]
    have m16 : S2 0 16 N = W := by rw [m_o 16 N (by omega) (by decide), st_at, if_neg (by omega), st_at, if_neg (by omega), st_at, if_neg (by omega), st_at, if_pos ⟨rfl, rfl, rfl⟩]
    have m21 : S2 0 21 N = W := by rw [m_o 21 N (by omega) (by decide), st_at, if_neg (by omega), st_at, if_neg (by omega), st_at, if_pos ⟨rfl, rfl, rfl⟩]
    have m17 : S2 0 17 N = H := by rw [m_o 17 N (by omega) (by decide), st_at, if_neg (by omega), st_at, if_pos ⟨rfl, rfl, rfl⟩]
    have m18 : S2 0 18 N = n := by rw [m_o 18 N (by omega) (by decide), st_at, if_pos ⟨rfl, rfl, rfl⟩]
    have m_n : ∀ (b : Nat) (i : Int), ¬ ((b = 0 ∧ (i = 14 ∨ i = 27)) ∨ ((b = 16 ∨ b = 17 ∨ b = 18 ∨ b = 21) ∧ i = N) ∨ ((b = 22 ∨ b = 23 ∨ b = 24) ∧ 24 * N ≤ i ∧ i < 24 * N + W) ∨ ((b = 25 ∨ b = 26) ∧ 240 * N ≤ i ∧ i < 240 * N + 240)) → S2 0 b i = S 0 b i := fun b i y => by
      rw [m_b b i (by omega)]
      unfold lmF
      rw [if_neg (by unfold lmR; omega), if_neg (by unfold lmR; omega), if_neg (by omega), if_neg (by omega), if_neg (by omega), st_at, if_neg (by omega), st_at, if_neg (by omega), st_at, if_neg (by omega), st_at, if_neg (by omega), st_at, if_neg (by omega), e0]
    have m22 : ∀ c, 0 ≤ c → c < W → S2 0 22 (24 * N + c) = N := fun c c0 c1 => by
      rw [m_b 22 _ (by omega)]
      unfold lmF
      rw [if_neg (by omega), if_neg (by omega), if_neg (by omega), if_neg (by omega), if_pos ⟨rfl, rfl, by omega, by omega⟩]
    have m23 : ∀ c, 0 ≤ c → c < W → S2 0 23 (24 * N + c) = c := fun c c0 c1 => by
      rw [m_b 23 _ (by omega)]
      unfold lmF
      rw [if_neg (by omega), if_neg (by omega), if_neg (by omega), if_pos ⟨rfl, rfl, by omega, by omega⟩]
      omega
    have m24 : ∀ c, 0 ≤ c → c < W → S2 0 24 (24 * N + c) = 0 := fun c c0 c1 => by
      rw [m_b 24 _ (by omega)]
      unfold lmF
      rw [if_neg (by omega), if_neg (by omega), if_pos ⟨rfl, rfl, by omega, by omega⟩]
    have hlm : ∀ r c, 0 ≤ r → r < H → 0 ≤ c → c < W → lmR N H W 0 (240 * N + 10 * c + r) := fun r c r0 r1 c0 c1 => by unfold lmR; omega
    have m25 : ∀ r c, 0 ≤ r → r < H → 0 ≤ c → c < W → S2 0 25 (240 * N + 10 * c + r) = drM S x r (cif mir (W - 1 - c) c) := fun r c r0 r1 c0 c1 => by
      rw [m_b 25 _ (by omega)]
      unfold lmF
      rw [if_neg (by omega), if_pos ⟨rfl, rfl, hlm r c r0 r1 c0 c1⟩, show (240 * N + 10 * c + r - 240 * N) % 10 = r by omega, show (240 * N + 10 * c + r - 240 * N) / 10 = c by omega]
    have m26 : ∀ r c, 0 ≤ r → r < H → 0 ≤ c → c < W → S2 0 26 (240 * N + 10 * c + r) = -1 := fun r c r0 r1 c0 c1 => by
      rw [m_b 26 _ (by omega)]
      unfold lmF
      rw [if_pos ⟨rfl, rfl, hlm r c r0 r1 c0 c1⟩]
    clear h5 m_b m_o
    have qE : nwE S S2 N := fun a b i y1 y2 y3 y4 => by
      by_cases ha0 : a = 0
      · rw [ha0]
        exact m_n b i (by omega)
      · rw [m_x a b i ha0]
        exact c_n a b i y2 y3 y4
    refine ⟨⟨_, h4, fun _ => by rw [m_x 3 1 0 (by decide), c31]; congr 1; omega⟩, m27, ?_, ek⟩
    have hL : lgr S S2 := lgr_e (fun b i y => qE 0 b i (by omega) (by omega) (by omega) (by omega))
    refine ⟨⟨by rw [qE _ _ _ (by omega) (by omega) (by omega) (by omega)]; exact hI.m.al, by rw [qE _ _ _ (by omega) (by omega) (by omega) (by omega)]; exact hI.m.le, by rw [qE _ _ _ (by omega) (by omega) (by omega) (by omega)]; exact hI.m.cs, by rw [qE _ _ _ (by omega) (by omega) (by omega) (by omega)]; exact hI.m.lt, by rw [m14]; omega, fun y h0 h1 => by rw [qE 0 4 _ (by omega) (by omega) (by omega) (by omega), qE 0 5 _ (by omega) (by omega) (by omega) (by omega)]; exact hI.m.cw y h0 h1, fun y h0 h1 => ?_, fun y h0 h1 => ?_, fun y h0 h1 => by rw [qE 0 20 _ (by omega) (by omega) (by omega) (by omega)]; exact hI.m.wv y h0 h1⟩, ⟨by rw [qE _ _ _ (by omega) (by omega) (by omega) (by omega)]; exact hI.a1, by rw [qE _ _ _ (by omega) (by omega) (by omega) (by omega)]; exact hI.a2, by rw [qE _ _ _ (by omega) (by omega) (by omega) (by omega)]; exact hI.a3⟩, iW_keep hI.w (fun a b i y => qE a b i (by omega) (by omega) (by omega) (by omega)), iCs_keep hI.c hI.m (fun a b i y => qE a b i (by omega) (by omega) (by omega) (by omega)), iL_keep hI.l (fun a b i y => qE a b i (by omega) (by omega) (by omega) (by omega)), iPs_gen hI.p hI.m hL (by rw [m_x 1 0 6 (by decide), c106, m14]) (fun j => ?_) (fun y hy => ?_) (fun y y0 y1 => ?_) (fun j j0 j1 => ?_)⟩
    · by_cases hy : y = N
      · rw [hy, m16, m17, m18, m21]; omega
      · rw [qE 0 16 y (by omega) (by omega) (by omega) (by omega), qE 0 17 y (by omega) (by omega) (by omega) (by omega), qE 0 18 y (by omega) (by omega) (by omega) (by omega), qE 0 21 y (by omega) (by omega) (by omega) (by omega)]
        exact hI.m.pc y h0 h1
    · rw [m14] at h1
      by_cases hy : y = N
      · rw [hy, m17]; omega
      · rw [qE 0 17 y (by omega) (by omega) (by omega) (by omega)]
        exact hI.m.pr y h0 (by omega)
    · rw [m14, qE 0 19 _ (by omega) (by omega) (by omega) (by omega)]
      by_cases hj : (j : Int) = N
      · rw [hj, m_x 1 6 N (by decide), c16, n19]
        omega
      · rw [qE 1 6 _ (by omega) (by omega) (by omega) (by omega), hI.p.2.1 j, hN]
        omega
    · unfold isP at hy
      rw [m14, qE 0 19 _ (by omega) (by omega) (by omega) (by omega)] at hy
      by_cases hyN : y = N
      · right
        rw [hyN]
        refine ⟨⟨by rw [m_x _ _ _ (by omega)]; exact oa, by rw [m_x _ _ _ (by omega), m16]; exact o0, by rw [m_x _ _ _ (by omega), m17]; exact o1, by rw [m_x _ _ _ (by omega), m18]; exact o2, by rw [m16]; omega, by rw [m17]; omega, fun w w0 w1 => by rw [m_x _ _ _ (by omega), or0 4 w (by omega), qE 0 20 _ (by omega) (by omega) (by omega) (by omega), n20 w w0 w1], fun j j0 j1 => by rw [m_x _ _ _ (by omega), or0 7 j (by omega)]; decide, fun j j0 j1 => by
          rw [m_x _ _ _ (by omega), o8]
          split <;> omega⟩, fun c r c0 c1 r0 r1 => ?_, fun c c0 c1 => ?_, Or.inr ⟨by rw [m16, m21], by rw [m16]; omega, by rw [m18]; omega, by rw [m18, m16]; omega, fun w w0 w1 => ?_, fun w c r w0 w1 c0 c1 r0 r1 => ?_⟩⟩
        · rw [m16] at c1
          rw [m17] at r1
          have hcc : 0 ≤ cif mir (W - 1 - c) c ∧ cif mir (W - 1 - c) c < 12 := by
            by_cases hm : mir
            · rw [cif_t hm]; omega
            · rw [cif_f hm]; omega
          rw [m_x (10 + N.toNat) 5 _ (by omega), m_x (10 + N.toNat) 6 _ (by omega), m_x (10 + N.toNat) 7 _ (by omega), o5 r c r0 r1 c0 c1, o6 r c r0 r1 c0 c1, or0 7 _ (by omega), m25 r c r0 r1 c0 c1, m26 r c r0 r1 c0 c1, m_n 27 _ (by omega), show 240 * N + 10 * c + r = 240 * N + (10 * c + r) by omega, n27 (10 * c + r) (by omega) (by omega)]
          exact ⟨rfl, rfl, rfl, hcol r _ r0 (by omega) hcc.1 hcc.2, Or.inl ⟨rfl, rfl⟩⟩
        · rw [m16] at c1
          rw [m_x (10 + N.toNat) 9 _ (by omega), m_x (10 + N.toNat) 8 _ (by omega), or0 9 c (by omega), o8, if_pos ⟨c0, c1⟩, m22 c c0 c1, m23 c c0 c1, m24 c c0 c1]
          omega
        · rw [m18] at w1
          rw [qE 0 20 _ (by omega) (by omega) (by omega) (by omega), n20 w w0 (by omega), m17]
          omega
        · rw [m18] at w1
          rw [m18, m21] at c0 c1
          rw [m17] at r1
          have hb := dvb w0 w1 (by omega) (show 0 ≤ W by omega) (show W ≤ 12 by omega)
          rw [m26 r c r0 r1 (by omega) (by omega), qE 0 20 _ (by omega) (by omega) (by omega) (by omega), n20 w w0 (by omega)]
          omega
      · left
        have hyn : y < N := by omega
        refine ⟨⟨hy.1, by rw [hN]; exact hyn, hy.2.2⟩, fun a b i z => qE a b i ?_ ?_ ?_ ?_⟩ <;> (have := hy.1; unfold pS at z; omega)
    · rw [m14] at y0
      obtain ⟨u1, u2, u3, u4⟩ := hun y (by omega) y1
      exact ⟨by rw [qE 0 18 _ (by omega) (by omega) (by omega) (by omega)]; exact u1, by rw [qE 0 19 _ (by omega) (by omega) (by omega) (by omega)]; exact u2, fun w w0 w1 => by rw [qE 0 20 _ (by omega) (by omega) (by omega) (by omega)]; exact u3 w w0 w1, fun k k0 k1 => by rw [qE 0 27 _ (by omega) (by omega) (by omega) (by omega)]; exact u4 k k0 k1⟩
    · by_cases hj : 24 * N ≤ j ∧ j < 24 * N + W
      · have := m23 (j - 24 * N) (by omega) (by omega)
        rw [show 24 * N + (j - 24 * N) = j by omega] at this
        omega
      · rw [m_n 23 j (by omega)]
        exact hI.hfc j j0 j1
