set_option maxHeartbeats 4000000 in
theorem sim_cut {S S1 S2 : St} {ad ad1 ad2 : Nat → Nat → Nat} {r1 r2 : Option Value} {x q : Int} (hI : Inv S) (hrn : rng x) (hrn2 : rng q) (h1 : lhP ad (peC S x ∧ (1 ≤ q ∧ q < S (10 + x.toNat) 0 0)) (dnC S (10 + x.toNat) ∧ S 1 0 6 < 20) (True) S (st (cuS S x q) 3 1 0 (wr (S 1 0 6))) r1 ad1 S1) (h2 : (mP ad1 (inM S1 x q) ((inM S1 x q) ∧ (dnM S1 x) ∧ ((S1 0 0 14) < 20)) (True) S1 (some (.int (i32 (((S1 0 0 14) + 1) - 1)))) (fun Z => ∀ (a1 b1 : Nat) (i1 : Int), Z a1 b1 i1 = if a1 = 0 ∧ b1 = 0 ∧ i1 = 14 then (S1 0 0 14) + 1 else if a1 = 0 ∧ b1 = 16 ∧ i1 = x then q else cmF (st (st (st S1 0 0 27 (thr (inM S1 x q) ((inM S1 x q) ∧ (dnM S1 x) ∧ ((S1 0 0 14) < 20)) (True))) 0 17 (S1 0 0 14) (S1 0 17 x)) 0 16 (S1 0 0 14) ((S1 0 16 x) - q)) x q (S1 0 0 14) 0 (S1 0 16 x - q) a1 b1 i1)) r2 ad2 S2) : Gd ad (thr (peC S x ∧ (1 ≤ q ∧ q < S (10 + x.toNat) 0 0)) (dnC S (10 + x.toNat) ∧ S 1 0 6 < 20) (True)) r2 ad2 S2 := by
  have hw := hI.p.1
  have e0 := lhP_0 h1 zk_cut.1
  have ek := (lhP_k h1).2
  have hk : thr (inM S1 x q) ((inM S1 x q) ∧ (dnM S1 x) ∧ ((S1 0 0 14) < 20)) True = thr (peC S x ∧ (1 ≤ q ∧ q < S (10 + x.toNat) 0 0)) (dnC S (10 + x.toNat) ∧ S 1 0 6 < 20) True := by
    have hA : peC S x ∧ (1 ≤ q ∧ q < S (10 + x.toNat) 0 0) ↔ inM S x q := by
      unfold inM
      rw [hI.pe]
      refine and_congr_right (fun y => ?_)
      obtain ⟨⟨-, g0, -⟩, -⟩ := hI.ip y
      rw [g0]
      omega
    rw [propext (inM_e e0 x q), propext (dnM_e e0 x), e0, hw]
    exact thr_c hA (fun y => by rw [hI.dn (hI.pe.mp y.1)]; exact ⟨fun u => ⟨hA.mp y, u.1, u.2⟩, fun u => ⟨u.2.1, u.2.2⟩⟩) (fun _ _ => Iff.rfl)
  rcases h1.2 with ⟨hn, ha, hs⟩ | ⟨hc, ha, hs⟩
  · rw [ha, hs] at h2
    rw [hs] at hk
    exact sim_no hI hk hn h2
  · obtain ⟨h3, h4, h5⟩ := mP_y (hk.trans (thr_z.mpr hc)) h2
    rw [h3]
    rw [hk] at h5
    have hx := hI.pe.mp hc.1.1
    have hx20 := hI.x20 hx
    have hps := hI.m.ps
    have hcs := hI.m.cs
    obtain ⟨hR, hX, hY, hQ⟩ := hI.ip hx
    obtain ⟨ga, g0, g1, g2, hW, hH, h4', h7', h8'⟩ := id hR
    have hp := hI.m.pc x hx20.1 hx20.2
    have hd := (hI.dn hx).mp hc.2.1.1
    have hal := hI.alw hx hd
    have hq := hc.1.2
    have hN20 := hc.2.1.2
    rw [g0] at hq
    rw [hw] at hN20
    generalize hT : thr (peC S x ∧ (1 ≤ q ∧ q < S (10 + x.toNat) 0 0)) (dnC S (10 + x.toNat) ∧ S 1 0 6 < 20) True = T at h5 ⊢
    simp only [e0] at h4 h5
    unfold cuS at hs
    rw [hw, g0, g1] at hs
    obtain ⟨N, hN⟩ : ∃ N, S 0 0 14 = N := ⟨_, rfl⟩
    have hxN : x < N := by rw [← hN]; exact hx.2.1
    obtain ⟨W, hWe⟩ : ∃ W, S 0 16 x = W := ⟨_, rfl⟩
    obtain ⟨H, hHe⟩ : ∃ H, S 0 17 x = H := ⟨_, rfl⟩
    rw [hN] at h4 h5 hs hN20 hps hw
    rw [hWe] at h5 hs hq g0 hW
    rw [hHe] at h5 hs g1 hH
    unfold pX at hX
    unfold pY at hY
    rw [hWe] at hX hY hal
    rw [hHe] at hX hal
    have hun := hI.p.2.2.2.1
    rw [hN] at hun
    obtain ⟨n18, n19, n20, n27⟩ := hun N (Int.le_refl _) (by omega)
    -- the class's side
    have c_n : ∀ (a b : Nat) (i : Int), ¬ (a = 3 ∧ b = 1) → ¬ (a = 1 ∧ ((b = 6 ∧ i = N) ∨ (b = 0 ∧ i = 6))) → a ≠ 10 + N.toNat → ¬ (a = 10 + x.toNat ∧ b = 0 ∧ i = 0) → S1 a b i = S a b i := fun a b i y1 y2 y3 y4 => by
      rw [hs, st_at, if_neg (by omega), st_at, if_neg (by omega), st_at, if_neg (by omega), st_at, if_neg y4, apF_x y3, nwS_n y3]
    have c_o : ∀ (b : Nat) (i : Int), S1 (10 + N.toNat) b i = apF (nwS S (10 + N.toNat) (fun i => if i = -1 then 1 else if i = 1 then H else if i = 2 then 0 else 0)) (10 + N.toNat) (10 + x.toNat) q 0 H (W - q) (10 + N.toNat) b i := fun b i => by
      rw [hs, st_at, if_neg (by omega), st_at, if_neg (by omega), st_at, if_neg (by omega), st_at, if_neg (by omega)]
    have c16 : S1 1 6 N = 1 := by rw [hs, st_at, if_neg (by omega), st_at, if_neg (by omega), st_at, if_pos ⟨rfl, rfl, rfl⟩]
    have c106 : S1 1 0 6 = N + 1 := by rw [hs, st_at, if_neg (by omega), st_at, if_pos ⟨rfl, rfl, rfl⟩]
    have c31 : S1 3 1 0 = wr N := by rw [hs, st_at, if_pos ⟨rfl, rfl, rfl⟩]
    have cx0 : S1 (10 + x.toNat) 0 0 = q := by rw [hs, st_at, if_neg (by omega), st_at, if_neg (by omega), st_at, if_neg (by omega), st_at, if_pos ⟨rfl, rfl, rfl⟩]
    have o0 : S1 (10 + N.toNat) 0 0 = W - q := by rw [c_o, apF_0]; omega
    have oz : ∀ (b : Nat) (i : Int), b ≠ 5 ∧ b ≠ 6 ∧ b ≠ 7 ∧ b ≠ 8 ∧ b ≠ 9 → ¬ (b = 0 ∧ i = 0) → S1 (10 + N.toNat) b i = if b = 0 then (if i = -1 then 1 else if i = 1 then H else if i = 2 then 0 else 0) else 0 := fun b i y1 y2 => by
      rw [c_o, apF_o y1 y2]
      unfold nwS
      rw [if_pos rfl]
    have oa : S1 (10 + N.toNat) 0 (-1) = 1 := by rw [oz _ _ (by decide) (by decide)]; simp
    have o1 : S1 (10 + N.toNat) 0 1 = H := by rw [oz _ _ (by decide) (by decide)]; simp
    have o2 : S1 (10 + N.toNat) 0 2 = 0 := by rw [oz _ _ (by decide) (by decide)]; simp
    have o4 : ∀ i, S1 (10 + N.toNat) 4 i = 0 := fun i => by rw [oz _ _ (by decide) (by omega), if_neg (by decide)]
    have o8 : ∀ i, S1 (10 + N.toNat) 8 i = if 0 ≤ i ∧ i < W - q then S (10 + x.toNat) 8 (i + q) else 0 := fun i => by
      rw [c_o]
      unfold apF
      rw [if_neg (by omega)]
      by_cases y : 0 ≤ i ∧ i < W - q
      · rw [if_pos ⟨rfl, rfl, y.1, by omega⟩, if_pos y, nwS_n (by omega), show i - 0 + q = i + q by omega]
      · rw [if_neg (by omega), if_neg (by omega), if_neg (by unfold col3; omega), if_neg y, nwS_r (by decide)]
    have o9 : ∀ c, 0 ≤ c → c < W - q → S1 (10 + N.toNat) 9 c = b2 (0 < c ∧ S (10 + x.toNat) 9 (c + q) ≠ 0) := fun c c0 c1 => by
      rw [c_o]
      unfold apF
      rw [if_neg (by omega), if_neg (by omega), if_pos ⟨rfl, rfl, c0, by omega⟩, nwS_n (by omega), show c - 0 + q = c + q by omega]
    have oc : ∀ (b : Nat) (j : Int), col3 b → S1 (10 + N.toNat) b j = if 0 ≤ j ∧ j % 24 < W - q ∧ j / 24 < H then S (10 + x.toNat) b (j + q) else 0 := fun b j hb => by
      rw [c_o]
      unfold apF
      have hb' := hb
      unfold col3 at hb'
      rw [if_neg (by omega), if_neg (by omega), if_neg (by omega)]
      by_cases y : 0 ≤ j ∧ j % 24 < W - q ∧ j / 24 < H
      · rw [if_pos ⟨rfl, hb, y.1, by omega, by omega, y.2.2⟩, if_pos y, nwS_n (by omega), show j - 0 + q = j + q by omega]
      · rw [if_neg (fun u => y ⟨u.2.2.1, by omega, u.2.2.2.2.2⟩), if_neg y, nwS_r (by omega)]
    have occ : ∀ (b : Nat) (r c : Int), (b = 5 ∨ b = 6 ∨ b = 7) → 0 ≤ r → r < H → 0 ≤ c → c < W - q → S1 (10 + N.toNat) b (r * 24 + c) = S (10 + x.toNat) b (r * 24 + (c + q)) := fun b r c hb r0 r1 c0 c1 => by
      rw [oc b _ hb, if_pos (by omega), show r * 24 + c + q = r * 24 + (c + q) by omega]
    have o7 : ∀ j, 0 ≤ j → j < 240 → 0 ≤ S1 (10 + N.toNat) 7 j ∧ S1 (10 + N.toNat) 7 j ≤ 100 := fun j j0 j1 => by
      rw [oc 7 j (by unfold col3; omega)]
      by_cases y : 0 ≤ j ∧ j % 24 < W - q ∧ j / 24 < H
      · rw [if_pos y]; exact h7' (j + q) (by omega) (by omega)
      · rw [if_neg y]; decide
    clear hs c_o oz oc
    -- the reference's side
    have m_x : ∀ (a b : Nat) (i : Int), a ≠ 0 → S2 a b i = S1 a b i := fun a b i y => by
      rw [h5, if_neg (by omega), if_neg (by omega)]
      unfold cmF
      rw [if_neg (by omega), if_neg (by omega), if_neg (by omega), st_at, if_neg (by omega), st_at, if_neg (by omega), st_at, if_neg (by omega)]
    have m14 : S2 0 0 14 = N + 1 := by rw [h5, if_pos ⟨rfl, rfl, rfl⟩]
    have m16x : S2 0 16 x = q := by rw [h5, if_neg (by omega), if_pos ⟨rfl, rfl, rfl⟩]
    have u17 : st (st (st S1 0 0 27 T) 0 17 N H) 0 16 N (W - q) 0 17 x = H := by rw [st_at, if_neg (by omega), st_at, if_neg (by omega), st_at, if_neg (by omega), e0, hHe]
    have m_b : ∀ (b : Nat) (i : Int), ¬ (b = 0 ∧ i = 14) → ¬ (b = 16 ∧ i = x) → S2 0 b i = cmF (st (st (st S1 0 0 27 T) 0 17 N H) 0 16 N (W - q)) x q N 0 (W - q) 0 b i := fun b i y1 y2 => by rw [h5, if_neg (by omega), if_neg (by omega)]
    have u_n : ∀ (b : Nat) (i : Int), b ≠ 0 → b ≠ 16 → b ≠ 17 → st (st (st S1 0 0 27 T) 0 17 N H) 0 16 N (W - q) 0 b i = S 0 b i := fun b i y1 y2 y3 => by
      rw [st_at, if_neg (by omega), st_at, if_neg (by omega), st_at, if_neg (by omega), e0]
    have m27 : S2 0 0 27 = T := by rw [m_b 0 27 (by omega) (by omega), cmF_o _ _ _ _ _ _ (by decide), st_at, if_neg (by omega), st_at, if_neg (by omega), st_at, if_pos ⟨rfl, rfl, rfl⟩]
    have m16 : S2 0 16 N = W - q := by rw [m_b 16 N (by omega) (by omega), cmF_o _ _ _ _ _ _ (by decide), st_at, if_pos ⟨rfl, rfl, rfl⟩]
    have m17 : S2 0 17 N = H := by rw [m_b 17 N (by omega) (by omega), cmF_o _ _ _ _ _ _ (by decide), st_at, if_neg (by omega), st_at, if_pos ⟨rfl, rfl, rfl⟩]
    have m_n : ∀ (b : Nat) (i : Int), ¬ ((b = 0 ∧ (i = 14 ∨ i = 27)) ∨ (b = 16 ∧ (i = x ∨ i = N)) ∨ (b = 17 ∧ i = N) ∨ ((b = 22 ∨ b = 23 ∨ b = 24) ∧ 24 * N ≤ i ∧ i < 24 * N + (W - q)) ∨ ((b = 25 ∨ b = 26 ∨ b = 27) ∧ 240 * N ≤ i ∧ i < 240 * N + 240)) → S2 0 b i = S 0 b i := fun b i y => by
      rw [m_b b i (by omega) (by omega)]
      unfold cmF
      rw [if_neg (by omega), if_neg (by omega), if_neg (by omega), st_at, if_neg (by omega), st_at, if_neg (by omega), st_at, if_neg (by omega), e0]
    have m22 : ∀ (b : Nat) (c : Int), (b = 22 ∨ b = 23) → 0 ≤ c → c < W - q → S2 0 b (24 * N + c) = S 0 b (24 * x + (c + q)) := fun b c hb c0 c1 => by
      rw [m_b b _ (by omega) (by omega)]
      unfold cmF
      rw [if_neg (by omega), if_pos ⟨rfl, hb, by omega, by omega⟩, u_n b _ (by omega) (by omega) (by omega), show 24 * x + q + (24 * N + c - (24 * N + 0)) = 24 * x + (c + q) by omega]
    have m24 : ∀ c, 0 ≤ c → c < W - q → S2 0 24 (24 * N + c) = b2 (0 < c ∧ S 0 24 (24 * x + (c + q)) ≠ 0) := fun c c0 c1 => by
      rw [m_b 24 _ (by omega) (by omega)]
      unfold cmF
      rw [if_pos ⟨rfl, rfl, by omega, by omega⟩, u_n 24 _ (by omega) (by omega) (by omega), show 24 * x + q + (24 * N + c - (24 * N + 0)) = 24 * x + (c + q) by omega]
      refine b2_c ⟨fun y => ⟨by omega, y.2.2⟩, fun y => ⟨by omega, by omega, y.2⟩⟩
    have mc : ∀ (b : Nat) (r c : Int), (b = 25 ∨ b = 26 ∨ b = 27) → 0 ≤ r → r < H → 0 ≤ c → c < W - q → S2 0 b (240 * N + 10 * c + r) = S 0 b (240 * x + 10 * (c + q) + r) := fun b r c hb r0 r1 c0 c1 => by
      rw [m_b b _ (by omega) (by omega)]
      unfold cmF
      rw [u17, if_neg (by omega), if_neg (by omega), if_pos ⟨rfl, hb, by omega, by omega, by omega⟩, u_n b _ (by omega) (by omega) (by omega), show 240 * x + 10 * q + (240 * N + 10 * c + r - (240 * N + 10 * 0)) = 240 * x + 10 * (c + q) + r by omega]
    clear h5 m_b u_n u17
    have qE : ∀ (a b : Nat) (i : Int), ¬ (a = 0 ∧ ((b = 0 ∧ (i = 14 ∨ i = 27)) ∨ (b = 16 ∧ (i = x ∨ i = N)) ∨ (b = 17 ∧ i = N) ∨ ((b = 22 ∨ b = 23 ∨ b = 24) ∧ 24 * N ≤ i ∧ i < 24 * N + 24) ∨ ((b = 25 ∨ b = 26 ∨ b = 27) ∧ 240 * N ≤ i ∧ i < 240 * N + 240))) → ¬ (a = 3 ∧ b = 1) → ¬ (a = 1 ∧ ((b = 6 ∧ i = N) ∨ (b = 0 ∧ i = 6))) → a ≠ 10 + N.toNat → ¬ (a = 10 + x.toNat ∧ b = 0 ∧ i = 0) → S2 a b i = S a b i := fun a b i y1 y2 y3 y4 y5 => by
      by_cases ha0 : a = 0
      · rw [ha0]
        exact m_n b i (by omega)
      · rw [m_x a b i ha0]
        exact c_n a b i y2 y3 y4 y5
    have qo : ∀ (b : Nat) (i : Int), ¬ (b = 0 ∧ i = 0) → S2 (10 + x.toNat) b i = S (10 + x.toNat) b i := fun b i y => qE _ b i (by omega) (by omega) (by omega) (by omega) (by omega)
    refine ⟨⟨_, h4, fun _ => by rw [m_x 3 1 0 (by decide), c31]; congr 1; omega⟩, m27, ?_, ek⟩
    have hL : lgr S S2 := lgr_e (fun b i y => m_n b i (by omega))
    refine ⟨⟨by rw [m_n _ _ (by omega)]; exact hI.m.al, by rw [m_n _ _ (by omega)]; exact hI.m.le, by rw [m_n _ _ (by omega)]; exact hI.m.cs, by rw [m_n _ _ (by omega)]; exact hI.m.lt, by rw [m14]; omega, fun y h0 h1 => by rw [m_n 4 _ (by omega), m_n 5 _ (by omega)]; exact hI.m.cw y h0 h1, fun y h0 h1 => ?_, fun y h0 h1 => ?_, fun y h0 h1 => by rw [m_n 20 _ (by omega)]; exact hI.m.wv y h0 h1⟩, ⟨by rw [qE _ _ _ (by omega) (by omega) (by omega) (by omega) (by omega)]; exact hI.a1, by rw [qE _ _ _ (by omega) (by omega) (by omega) (by omega) (by omega)]; exact hI.a2, by rw [qE _ _ _ (by omega) (by omega) (by omega) (by omega) (by omega)]; exact hI.a3⟩, iW_keep hI.w (fun a b i y => qE a b i (by omega) (by omega) (by omega) (by omega) (by omega)), iCs_keep hI.c hI.m (fun a b i y => qE a b i (by omega) (by omega) (by omega) (by omega) (by omega)), iL_keep hI.l (fun a b i y => qE a b i (by omega) (by omega) (by omega) (by omega) (by omega)), iPs_gen hI.p hI.m hL (by rw [m_x 1 0 6 (by decide), c106, m14]) (fun j => ?_) (fun y hy => ?_) (fun y y0 y1 => ?_) (fun j j0 j1 => ?_)⟩
    · have hpy := hI.m.pc y h0 h1
      by_cases hy : y = N
      · rw [hy] at hpy ⊢
        rw [m16, m17, m_n 18 N (by omega), m_n 21 N (by omega)]
        omega
      · by_cases hyx : y = x
        · rw [hyx] at hpy ⊢
          rw [m16x, m_n 17 x (by omega), m_n 18 x (by omega), m_n 21 x (by omega)]
          omega
        · rw [m_n 16 y (by omega), m_n 17 y (by omega), m_n 18 y (by omega), m_n 21 y (by omega)]
          exact hpy
    · rw [m14] at h1
      by_cases hy : y = N
      · rw [hy, m17]; omega
      · rw [m_n 17 y (by omega)]
        exact hI.m.pr y h0 (by omega)
    · rw [m14, m_n 19 _ (by omega)]
      by_cases hj : (j : Int) = N
      · rw [hj, m_x 1 6 N (by decide), c16, n19]
        omega
      · rw [qE 1 6 _ (by omega) (by omega) (by omega) (by omega) (by omega), hI.p.2.1 j, hN]
        omega
    · unfold isP at hy
      rw [m14, m_n 19 _ (by omega)] at hy
      by_cases hyN : y = N
      · right
        rw [hyN]
        refine ⟨⟨by rw [m_x _ _ _ (by omega)]; exact oa, by rw [m_x _ _ _ (by omega), m16]; exact o0, by rw [m_x _ _ _ (by omega), m17]; exact o1, by rw [m_x _ _ _ (by omega), m_n 18 N (by omega), n18]; exact o2, by rw [m16]; omega, by rw [m17]; omega, fun w w0 w1 => by rw [m_x _ _ _ (by omega), o4, m_n 20 _ (by omega), n20 w w0 w1], fun j j0 j1 => by rw [m_x _ _ _ (by omega)]; exact o7 j j0 j1, fun j j0 j1 => by
          rw [m_x _ _ _ (by omega), o8]
          by_cases u : 0 ≤ j ∧ j < W - q
          · rw [if_pos u]; exact h8' _ (by omega) (by omega)
          · rw [if_neg u]; decide⟩, fun c r c0 c1 r0 r1 => ?_, fun c c0 c1 => ?_, Or.inl ⟨fun j j0 j1 => ?_, fun c r c0 c1 r0 r1 => ?_⟩⟩
        · rw [m16] at c1
          rw [m17] at r1
          obtain ⟨a1, a2, a3, a4⟩ := hX (c + q) r (by omega) (by omega) r0 r1
          rw [m_x (10 + N.toNat) 5 _ (by omega), m_x (10 + N.toNat) 6 _ (by omega), m_x (10 + N.toNat) 7 _ (by omega), occ 5 r c (by omega) r0 r1 c0 c1, occ 6 r c (by omega) r0 r1 c0 c1, occ 7 r c (by omega) r0 r1 c0 c1, mc 25 r c (by omega) r0 r1 c0 c1, mc 26 r c (by omega) r0 r1 c0 c1, mc 27 r c (by omega) r0 r1 c0 c1]
          exact ⟨a1, a2, a3, okc_keep hL a4⟩
        · rw [m16] at c1
          obtain ⟨b1, b3, b4, b5⟩ := hY (c + q) (by omega) (by omega)
          rw [m_x (10 + N.toNat) 9 _ (by omega), m_x (10 + N.toNat) 8 _ (by omega), o9 c c0 c1, o8, if_pos ⟨c0, c1⟩, m22 22 c (by omega) c0 c1, m22 23 c (by omega) c0 c1, m24 c c0 c1, b1]
          exact ⟨rfl, b3, b4, b5⟩
        · rw [m_n 18 N (by omega), n18] at j1
          omega
        · rw [m16] at c1
          rw [m17] at r1
          rw [mc 26 r c (by omega) r0 r1 c0 c1]
          have := hal (c + q) r (by omega) (by omega) r0 r1
          omega
      · by_cases hyx : y = x
        · right
          rw [hyx]
          have f17 : S2 0 17 x = S 0 17 x := m_n _ _ (by omega)
          have f18 : S2 0 18 x = S 0 18 x := m_n _ _ (by omega)
          refine ⟨⟨by rw [qo _ _ (by omega)]; exact ga, by rw [m_x _ _ _ (by omega), m16x]; exact cx0, by rw [qo _ _ (by omega), f17, hHe]; exact g1, by rw [qo _ _ (by omega), f18]; exact g2, by rw [m16x]; omega, by rw [f17, hHe]; exact hH, fun w w0 w1 => by rw [qo _ _ (by omega), m_n 20 _ (by omega)]; exact h4' w w0 w1, fun j j0 j1 => by rw [qo _ _ (by omega)]; exact h7' j j0 j1, fun j j0 j1 => by rw [qo _ _ (by omega)]; exact h8' j j0 j1⟩, fun c r c0 c1 r0 r1 => ?_, fun c c0 c1 => ?_, Or.inl ⟨fun j j0 j1 => ?_, fun c r c0 c1 r0 r1 => ?_⟩⟩
          · rw [m16x] at c1
            rw [f17, hHe] at r1
            rw [qo 5 _ (by omega), qo 6 _ (by omega), qo 7 _ (by omega), m_n 25 _ (by omega), m_n 26 _ (by omega), m_n 27 _ (by omega)]
            obtain ⟨a1, a2, a3, a4⟩ := hX c r c0 (by omega) r0 r1
            exact ⟨a1, a2, a3, okc_keep hL a4⟩
          · rw [m16x] at c1
            rw [qo 8 _ (by omega), qo 9 _ (by omega), m_n 22 _ (by omega), m_n 23 _ (by omega), m_n 24 _ (by omega)]
            exact hY c c0 (by omega)
          · rw [f18] at j1
            rw [m_n 20 _ (by omega), f17]
            exact hd j j0 j1
          · rw [m16x] at c1
            rw [f17, hHe] at r1
            rw [m_n 26 _ (by omega)]
            have := hal c r c0 (by omega) r0 r1
            omega
        · left
          have hyn : y < N := by omega
          refine ⟨⟨hy.1, by rw [hN]; exact hyn, hy.2.2⟩, fun a b i z => qE a b i ?_ ?_ ?_ ?_ ?_⟩ <;> (have := hy.1; unfold pS at z; omega)
    · rw [m14] at y0
      obtain ⟨u1, u2, u3, u4⟩ := hun y (by omega) y1
      exact ⟨by rw [m_n 18 _ (by omega)]; exact u1, by rw [m_n 19 _ (by omega)]; exact u2, fun w w0 w1 => by rw [m_n 20 _ (by omega)]; exact u3 w w0 w1, fun k k0 k1 => by rw [m_n 27 _ (by omega)]; exact u4 k k0 k1⟩
    · by_cases hj : 24 * N ≤ j ∧ j < 24 * N + (W - q)
      · have := m22 23 (j - 24 * N) (by omega) (by omega) (by omega)
        rw [show 24 * N + (j - 24 * N) = j by omega] at this
        rw [this]
        exact hI.hfc _ (by omega) (by omega)
      · rw [m_n 23 j (by omega)]
        exact hI.hfc j j0 j1
