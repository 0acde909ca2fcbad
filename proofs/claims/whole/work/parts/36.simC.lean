theorem Inv.shade {S S2 : St} (hI : Inv S) {x : Int} (hx : isP S x) (hd : dnM S x) (e : ∀ (a b : Nat) (i : Int), ¬ ((a = 0 ∧ b = 0 ∧ i = 27) ∨ (a = 3 ∧ b = 1) ∨ (a = 10 + x.toNat ∧ b = 7) ∨ (a = 0 ∧ b = 27 ∧ 240 * x ≤ i ∧ i < 240 * x + 240)) → S2 a b i = S a b i) (h7 : ∀ j, 0 ≤ j → j < 240 → 0 ≤ S2 (10 + x.toNat) 7 j ∧ S2 (10 + x.toNat) 7 j ≤ 100)
    (hc : ∀ c r, 0 ≤ c → c < S 0 16 x → 0 ≤ r → r < S 0 17 x → S2 (10 + x.toNat) 7 (r * 24 + c) = S2 0 27 (240 * x + 10 * c + r)) : Inv S2 ∧ shC S2 (10 + x.toNat) = shM S2 x := by
  have hx20 := hI.x20 hx
  obtain ⟨hR, hX, hY, hQ⟩ := hI.ip hx
  have hp := hI.m.pc x hx20.1 hx20.2
  obtain ⟨ga, g0, g1, g2, hW, hH, h4, h7', h8⟩ := hR
  have hL : lgr S S2 := lgr_e (fun b i z => e 0 b i (by omega))
  have hR2 : pR S2 (10 + x.toNat) x := ⟨by rw [e _ _ _ (by omega)]; exact ga, by rw [e _ 0 _ (by omega), e 0 16 _ (by omega)]; exact g0, by rw [e _ 0 _ (by omega), e 0 17 _ (by omega)]; exact g1, by rw [e _ 0 _ (by omega), e 0 18 _ (by omega)]; exact g2, by rw [e 0 16 _ (by omega)]; exact hW, by rw [e 0 17 _ (by omega)]; exact hH, fun w w0 w1 => by rw [e _ 4 _ (by omega), e 0 20 _ (by omega)]; exact h4 w w0 w1, h7, fun j j0 j1 => by rw [e _ 8 _ (by omega)]; exact h8 j j0 j1⟩
  have hX2 : pX S2 (10 + x.toNat) x := by
    intro c r c0 c1 r0 r1
    rw [e 0 16 _ (by omega)] at c1
    rw [e 0 17 _ (by omega)] at r1
    obtain ⟨a1, a2, a3, a4, a5⟩ := hX c r c0 c1 r0 r1
    have hal := hI.alw hx hd c r c0 c1 r0 r1
    rw [e _ 5 _ (by omega), e _ 6 _ (by omega), e 0 25 _ (by omega), e 0 26 _ (by omega)]
    refine ⟨a1, a2, hc c r c0 c1 r0 r1, okc_keep hL ⟨a4, ?_⟩⟩
    rcases a5 with h | h
    · omega
    · exact Or.inr h
  refine ⟨⟨hI.m.keep (fun r j z => e 0 r j (by unfold wrow at z; omega)), ⟨by rw [e 1 0 _ (by omega)]; exact hI.a1, by rw [e 2 0 _ (by omega)]; exact hI.a2, by rw [e 3 0 _ (by omega)]; exact hI.a3⟩, iW_keep hI.w (fun a b i z => e a b i (by omega)), iCs_keep hI.c hI.m (fun a b i z => e a b i (by omega)), iL_keep hI.l (fun a b i z => e a b i (by omega)), iPs_one (x := x) hI.p hI.m hL (fun a b i z => e a b i (by omega)) hx ⟨hR2, hX2, pY_keep hY hW.2 (fun b i z => e _ b i (by omega)) (fun b i z => e 0 b i (by omega)), pQ_keep hQ hp.2.2.2.2.2.1 ⟨hW.1, hW.2, hH.2⟩ (fun b i z => e 0 b i (by omega))⟩⟩, sh_eq hR2 hX2⟩
theorem nrc {W H r c : Int} (r0 : 0 ≤ r) (r1 : r < H) (c0 : 0 ≤ c) (c1 : c < W) : 0 ≤ c * H + r ∧ c * H + r < W * H ∧ (c * H + r) / H = c ∧ (c * H + r) % H = r := by
  have h1 : 0 ≤ c * H := Int.mul_nonneg c0 (by omega)
  have h2 : (c + 1) * H ≤ W * H := Int.mul_le_mul_of_nonneg_right (by omega) (by omega)
  rw [Int.add_mul, Int.one_mul] at h2
  refine ⟨by omega, by omega, ?_, ?_⟩
  · rw [Int.add_comm, Int.add_mul_ediv_right _ _ (by omega), Int.ediv_eq_zero_of_lt r0 r1]; omega
  · rw [Int.add_comm, Int.add_mul_emod_self_right, Int.emod_eq_of_lt r0 r1]
theorem mx0_c {s k : Int} (_ : 0 ≤ k) (h0 : 0 ≤ s) : mx0 (s - k) = cif (s < k) 0 (s - k) := by
  unfold mx0
  by_cases h : s < k
  · rw [cif_t h, if_neg (by omega)]
  · rw [cif_f h]
    split <;> omega
theorem liM_e {S U : St} (e : U 0 = S 0) (x h n : Int) : liM U x h n = liM S x h n := by
  unfold liM
  rw [e]
theorem waM_e {S U : St} (e : U 0 = S 0) (x n : Int) : waM U x n = waM S x n := by
  unfold waM waL ruM
  rw [e]
theorem ru_nb {S : St} {o : Nat} {x r c dr dc i : Int} (hR : pR S o x) (hX : pX S o x) (hl6 : ∀ j, 0 ≤ j → j < 20 → S 2 6 j = S 0 14 j) (hlo : ∀ c r, 0 ≤ c → c < S 0 16 x → 0 ≤ r → r < S 0 17 x → 0 ≤ S 0 26 (240 * x + 10 * c + r) ∧ S 0 26 (240 * x + 10 * c + r) < 20) (r0 : 0 ≤ r) (r1 : r < S 0 17 x) (c0 : 0 ≤ c) (c1 : c < S 0 16 x) (hi : i = r * 24 + c) :
    ruM S x (c + dc) (r + dr) (S 0 26 (240 * x + 10 * c + r)) = 5 * b2 (nbP S o (S o 0 1) 0 i dr dc) := by
  obtain ⟨-, g0, g1, -, hW, hH, -⟩ := hR
  have e1 : i / 24 = r := by omega
  have e2 : i % 24 = c := by omega
  have key : ((0 ≤ c + dc ∧ c + dc ≤ S 0 16 x - 1) ∧ (0 ≤ r + dr ∧ r + dr ≤ S 0 17 x - 1) ∧ S 0 26 (240 * x + 10 * (c + dc) + (r + dr)) ≠ S 0 26 (240 * x + 10 * c + r) ∧ S 0 14 (S 0 26 (240 * x + 10 * (c + dc) + (r + dr))) ≠ 0) ↔ nbP S o (S o 0 1) 0 i dr dc := by
    unfold nbP
    rw [e1, e2, g0, g1, hi, (hX c r c0 c1 r0 r1).2.1]
    by_cases hin : (0 ≤ c + dc ∧ c + dc ≤ S 0 16 x - 1) ∧ (0 ≤ r + dr ∧ r + dr ≤ S 0 17 x - 1)
    · obtain ⟨⟨k1, k2⟩, k3, k4⟩ := hin
      have hl := hlo (c + dc) (r + dr) k1 (by omega) k3 (by omega)
      rw [(hX (c + dc) (r + dr) k1 (by omega) k3 (by omega)).2.1, hl6 _ hl.1 hl.2]
      exact ⟨fun y => ⟨⟨k3, by omega, k1, by omega⟩, Or.inl (by omega), y.2.2.2, fun z => y.2.2.1 z.symm⟩, fun y => ⟨⟨k1, k2⟩, ⟨k3, k4⟩, fun z => y.2.2.2 z.symm, y.2.2.1⟩⟩
    · exact ⟨fun y => absurd ⟨y.1, y.2.1⟩ hin, fun y => absurd ⟨⟨y.1.2.2.1, by omega⟩, y.1.1, by omega⟩ hin⟩
  unfold ruM
  by_cases hk : nbP S o (S o 0 1) 0 i dr dc
  · rw [b2_t hk, cif_t (key.mpr hk)]
    rfl
  · rw [b2_f hk, cif_f (fun y => hk (key.mp y))]
    rfl
set_option maxHeartbeats 4000000 in
theorem sim_light {S S1 S2 : St} {ad ad1 ad2 : Nat → Nat → Nat} {r1 r2 : Option Value} {x t : Int} (hI : Inv S) (hrn : rng x) (hrn2 : rng t) (h1 : lhP ad (peC S x) (1 ≤ t ∧ t ≤ 9999) (dnC S (10 + x.toNat)) S (st (ltS S (10 + x.toNat) t) 3 1 0 (wr (shC (ltS S (10 + x.toNat) t) (10 + x.toNat)))) r1 ad1 S1) (h2 : (mPz ad1 (isP S1 x) (1 ≤ t ∧ t ≤ 9999) ((isP S1 x) ∧ (dnM S1 x)) S1 (fun Z => some (.int (i32 (shM Z x)))) (fun Z => (∀ (a1 b1 : Nat) (i1 : Int), ¬ (a1 = 0 ∧ b1 = 27 ∧ 240 * x ≤ i1 ∧ i1 < 240 * x + 240) → Z a1 b1 i1 = (st S1 0 0 27 (thr (isP S1 x) (1 ≤ t ∧ t ≤ 9999) ((isP S1 x) ∧ (dnM S1 x)))) a1 b1 i1) ∧ (∀ n1, 0 ≤ n1 → n1 < S1 0 16 x * S1 0 17 x → Z 0 27 (240 * x + 10 * (n1 / S1 0 17 x) + n1 % S1 0 17 x) = liM S1 x t n1))) r2 ad2 S2) : Gd ad (thr (peC S x) (1 ≤ t ∧ t ≤ 9999) (dnC S (10 + x.toNat))) r2 ad2 S2 := by
  have e0 := lhP_0 h1 zk_light.1
  have ek := (lhP_k h1).2
  have hk : thr (isP S1 x) (1 ≤ t ∧ t ≤ 9999) (isP S1 x ∧ dnM S1 x) = thr (peC S x) (1 ≤ t ∧ t ≤ 9999) (dnC S (10 + x.toNat)) := by
    refine thr_c (by rw [isP_e e0, hI.pe]) (fun _ => Iff.rfl) (fun y _ => ?_)
    rw [isP_e e0, dnM_e e0, hI.dn (hI.pe.mp y)]
    exact ⟨fun u => ⟨hI.pe.mp y, u⟩, fun u => u.2⟩
  rcases h1.2 with ⟨hn, ha, hs⟩ | ⟨hc, ha, hs⟩
  · rw [ha, hs] at h2
    rw [hs] at hk
    exact sim_nz hI hk hn h2
  · obtain ⟨h3, h4, h5⟩ := mPz_y (hk.trans (thr_z.mpr hc)) h2
    rw [h3]
    have hx := hI.pe.mp hc.1
    have ht := hc.2.1
    have hd := (hI.dn hx).mp hc.2.2
    have hx20 := hI.x20 hx
    obtain ⟨hR, hX, hY, hQ⟩ := hI.ip hx
    obtain ⟨ga, g0, g1, g2, hW, hH, h4', h7', h8'⟩ := id hR
    have hlt := hI.m.lt
    rw [hk] at h5
    obtain ⟨q1, q2⟩ := h5
    generalize thr (peC S x) (1 ≤ t ∧ t ≤ 9999) (dnC S (10 + x.toNat)) = T at q1 ⊢
    have hfade : ∀ c r, 0 ≤ c → c < S 0 16 x → 0 ≤ r → r < S 0 17 x → 0 ≤ t * S 0 13 (S 0 26 (240 * x + 10 * c + r)) / 100 := fun c r c0 c1 r0 r1 => by
      have hal := hI.alw hx hd c r c0 c1 r0 r1
      have hf := hI.hfd _ hal.1 (by omega)
      exact Int.ediv_nonneg (Int.mul_nonneg (by omega) hf.1) (by decide)
    have hcel : ∀ c r, 0 ≤ c → c < S 0 16 x → 0 ≤ r → r < S 0 17 x → fdU S (10 + x.toNat) t (r * 24 + c) = mx0 (S 0 27 (240 * x + 10 * c + r) - t * S 0 13 (S 0 26 (240 * x + 10 * c + r)) / 100) := fun c r c0 c1 r0 r1 => by
      obtain ⟨a1, a2, a3, -⟩ := hX c r c0 c1 r0 r1
      have hal := hI.alw hx hd c r c0 c1 r0 r1
      unfold fdU
      rw [a2, a3, (hI.l.2 _ hal.1 (by omega)).2.2.2.1]
    have z7 : ∀ c r, 0 ≤ c → c < S 0 16 x → 0 ≤ r → r < S 0 17 x → ltS S (10 + x.toNat) t (10 + x.toNat) 7 (r * 24 + c) = fdU S (10 + x.toNat) t (r * 24 + c) := fun c r c0 c1 r0 r1 => by
      unfold ltS
      rw [clF_t (by unfold pcs; rw [g0, g1]; omega)]
    have zo : ∀ (a b : Nat) (i : Int), ¬ (a = 10 + x.toNat ∧ b = 7) → ltS S (10 + x.toNat) t a b i = S a b i := fun a b i z => by
      unfold ltS
      rw [clF_f (fun y => z ⟨y.1, y.2.1⟩)]
    have qo : ∀ b i, S2 (10 + x.toNat) b i = ltS S (10 + x.toNat) t (10 + x.toNat) b i := fun b i => by rw [q1 _ _ _ (by omega), st_at, if_neg (by omega), hs, st_at, if_neg (by omega)]
    obtain ⟨hI2, hsh⟩ := hI.shade (S2 := S2) hx hd (fun a b i z => by rw [q1 _ _ _ (by omega), st_at, if_neg (by omega), hs, st_at, if_neg (by omega), zo _ _ _ (by omega)]) (fun j j0 j1 => by
      rw [qo]
      by_cases hp : pcs (S (10 + x.toNat) 0 0) (S (10 + x.toNat) 0 1) 0 j
      · unfold pcs at hp
        rw [g0, g1] at hp
        have e : j = j / 24 * 24 + j % 24 := by omega
        have hr : j / 24 < S 0 17 x := by omega
        rw [e, z7 _ _ (by omega) (by omega) (by omega) hr, hcel _ _ (by omega) (by omega) (by omega) hr]
        have h1 := hfade (j % 24) (j / 24) (by omega) (by omega) (by omega) hr
        have h2 := h7' (j / 24 * 24 + j % 24) (by omega) (by omega)
        rw [(hX (j % 24) (j / 24) (by omega) (by omega) (by omega) hr).2.2.1] at h2
        exact mx0_b (by omega) (by decide)
      · unfold ltS
        rw [clF_f (fun y => hp y.2.2)]
        exact h7' j j0 j1) (fun c r c0 c1 r0 r1 => by
      obtain ⟨n0, n1, n2, n3⟩ := nrc r0 r1 c0 c1
      have h9 := q2 (c * S 0 17 x + r) n0 (by rw [e0]; exact n1)
      rw [liM_e e0, e0, n2, n3] at h9
      rw [qo, z7 c r c0 c1 r0 r1, hcel c r c0 c1 r0 r1, h9]
      unfold liM
      rw [n2, n3]
      have h2 := h7' (r * 24 + c) (by omega) (by omega)
      rw [(hX c r c0 c1 r0 r1).2.2.1] at h2
      exact mx0_c (hfade c r c0 c1 r0 r1) h2.1)
    refine ⟨⟨_, h4, fun _ => ?_⟩, by rw [q1 0 0 27 (by omega), st_at, if_pos ⟨rfl, rfl, rfl⟩], hI2, ek⟩
    rw [q1 3 1 0 (by omega), st_at, if_neg (by omega), hs, st_at, if_pos ⟨rfl, rfl, rfl⟩, ← hsh]
    have eo : S2 (10 + x.toNat) = ltS S (10 + x.toNat) t (10 + x.toNat) := by funext b i; exact qo b i
    unfold shC s2
    rw [eo]
set_option maxHeartbeats 4000000 in
theorem sim_wash {S S1 S2 : St} {ad ad1 ad2 : Nat → Nat → Nat} {r1 r2 : Option Value} {x : Int} (hI : Inv S) (hrn : rng x) (h1 : lhP ad (peC S x) (dnC S (10 + x.toNat)) (True) S (st (waS S (10 + x.toNat)) 3 1 0 (wr (shC (waS S (10 + x.toNat)) (10 + x.toNat)))) r1 ad1 S1) (h2 : (mPz ad1 (isP S1 x) ((isP S1 x) ∧ (dnM S1 x)) (True) S1 (fun Z => some (.int (i32 (shM Z x)))) (fun Z => (∀ (a1 b1 : Nat) (i1 : Int), ¬ (a1 = 0 ∧ b1 = 27 ∧ 240 * x ≤ i1 ∧ i1 < 240 * x + 240) → Z a1 b1 i1 = (st S1 0 0 27 (thr (isP S1 x) ((isP S1 x) ∧ (dnM S1 x)) (True))) a1 b1 i1) ∧ (∀ n1, 0 ≤ n1 → n1 < S1 0 16 x * S1 0 17 x → Z 0 27 (240 * x + 10 * (n1 / S1 0 17 x) + n1 % S1 0 17 x) = waM S1 x n1))) r2 ad2 S2) : Gd ad (thr (peC S x) (dnC S (10 + x.toNat)) (True)) r2 ad2 S2 := by
  have e0 := lhP_0 h1 zk_wash.1
  have ek := (lhP_k h1).2
  have hk : thr (isP S1 x) (isP S1 x ∧ dnM S1 x) True = thr (peC S x) (dnC S (10 + x.toNat)) True := by
    refine thr_c (by rw [isP_e e0, hI.pe]) (fun y => ?_) (fun _ _ => Iff.rfl)
    rw [isP_e e0, dnM_e e0, hI.dn (hI.pe.mp y)]
    exact ⟨fun u => ⟨hI.pe.mp y, u⟩, fun u => u.2⟩
  rcases h1.2 with ⟨hn, ha, hs⟩ | ⟨hc, ha, hs⟩
  · rw [ha, hs] at h2
    rw [hs] at hk
    exact sim_nz hI hk hn h2
  · obtain ⟨h3, h4, h5⟩ := mPz_y (hk.trans (thr_z.mpr hc)) h2
    rw [h3]
    have hx := hI.pe.mp hc.1
    have hd := (hI.dn hx).mp hc.2.1
    have hx20 := hI.x20 hx
    obtain ⟨hR, hX, hY, hQ⟩ := hI.ip hx
    obtain ⟨ga, g0, g1, g2, hW, hH, h4', h7', h8'⟩ := id hR
    have hlt := hI.m.lt
    rw [hk] at h5
    obtain ⟨q1, q2⟩ := h5
    generalize thr (peC S x) (dnC S (10 + x.toNat)) True = T at q1 ⊢
    have hcel : ∀ c r, 0 ≤ c → c < S 0 16 x → 0 ≤ r → r < S 0 17 x → waS S (10 + x.toNat) (10 + x.toNat) 7 (r * 24 + c) = mx0 (S 0 27 (240 * x + 10 * c + r) - 5 * nbK S (10 + x.toNat) (S (10 + x.toNat) 0 1) 0 (r * 24 + c)) := fun c r c0 c1 r0 r1 => by
      unfold waS
      rw [bst_t (by unfold inC; rw [g0, g1]; omega), (hX c r c0 c1 r0 r1).2.2.1]
    have zo : ∀ (a b : Nat) (i : Int), ¬ (a = 10 + x.toNat ∧ b = 7) → waS S (10 + x.toNat) a b i = S a b i := fun a b i z => by
      unfold waS
      rw [bst_f (fun y => z ⟨y.1, y.2.1⟩)]
    have qo : ∀ b i, S2 (10 + x.toNat) b i = waS S (10 + x.toNat) (10 + x.toNat) b i := fun b i => by rw [q1 _ _ _ (by omega), st_at, if_neg (by omega), hs, st_at, if_neg (by omega)]
    obtain ⟨hI2, hsh⟩ := hI.shade (S2 := S2) hx hd (fun a b i z => by rw [q1 _ _ _ (by omega), st_at, if_neg (by omega), hs, st_at, if_neg (by omega), zo _ _ _ (by omega)]) (fun j j0 j1 => by
      rw [qo]
      unfold waS
      by_cases hp : inC S (10 + x.toNat) j
      · rw [bst_t hp]
        have h1 := nbK_b S (10 + x.toNat) (S (10 + x.toNat) 0 1) 0 j
        have h2 := h7' j j0 j1
        exact mx0_b (by omega) (by decide)
      · rw [bst_f (fun y => hp y.2.2)]
        exact h7' j j0 j1) (fun c r c0 c1 r0 r1 => by
      obtain ⟨n0, n1, n2, n3⟩ := nrc r0 r1 c0 c1
      have h9 := q2 (c * S 0 17 x + r) n0 (by rw [e0]; exact n1)
      rw [waM_e e0, e0, n2, n3] at h9
      rw [qo, hcel c r c0 c1 r0 r1, h9]
      have h1 := nbK_b S (10 + x.toNat) (S (10 + x.toNat) 0 1) 0 (r * 24 + c)
      have hwl : waL S x (c * S 0 17 x + r) = 5 * nbK S (10 + x.toNat) (S (10 + x.toNat) 0 1) 0 (r * 24 + c) := by
        have k1 := ru_nb (dr := 0) (dc := -1) hR hX (fun j j0 j1 => (hI.l.2 j j0 j1).2.2.2.2.1) (hI.hlo x hx hd) r0 r1 c0 c1 rfl
        have k2 := ru_nb (dr := 0) (dc := 1) hR hX (fun j j0 j1 => (hI.l.2 j j0 j1).2.2.2.2.1) (hI.hlo x hx hd) r0 r1 c0 c1 rfl
        have k3 := ru_nb (dr := -1) (dc := 0) hR hX (fun j j0 j1 => (hI.l.2 j j0 j1).2.2.2.2.1) (hI.hlo x hx hd) r0 r1 c0 c1 rfl
        have k4 := ru_nb (dr := 1) (dc := 0) hR hX (fun j j0 j1 => (hI.l.2 j j0 j1).2.2.2.2.1) (hI.hlo x hx hd) r0 r1 c0 c1 rfl
        rw [show c + 0 = c by omega] at k3 k4
        rw [show r + 0 = r by omega] at k1 k2
        unfold waL nbK
        rw [n2, n3, show c - 1 = c + -1 by omega, show r - 1 = r + -1 by omega, k1, k2, k3, k4]
        omega
      unfold waM
      rw [hwl, n2, n3]
      have h2 := h7' (r * 24 + c) (by omega) (by omega)
      rw [(hX c r c0 c1 r0 r1).2.2.1] at h2
      exact mx0_c (by omega) h2.1)
    refine ⟨⟨_, h4, fun _ => ?_⟩, by rw [q1 0 0 27 (by omega), st_at, if_pos ⟨rfl, rfl, rfl⟩], hI2, ek⟩
    rw [q1 3 1 0 (by omega), st_at, if_neg (by omega), hs, st_at, if_pos ⟨rfl, rfl, rfl⟩, ← hsh]
    have eo : S2 (10 + x.toNat) = waS S (10 + x.toNat) (10 + x.toNat) := by funext b i; exact qo b i
    unfold shC s2
    rw [eo]
theorem sim_weave {S S1 S2 : St} {ad ad1 ad2 : Nat → Nat → Nat} {r1 r2 : Option Value} {x w : Int} (hI : Inv S) (hrn : rng x) (hrn2 : rng w) (h1 : lhP ad (peC S x ∧ (0 ≤ w ∧ w < S (10 + x.toNat) 0 2)) (maC S (10 + x.toNat) w ∧ tsC S (10 + x.toNat) w) (True) S (st (wvS S (10 + x.toNat) w) 3 1 0 (wr (S (10 + x.toNat) 4 w))) r1 ad1 S1) (h2 : (wqP ad1 S1 x w) r2 ad2 S2) : Gd ad (thr (peC S x ∧ (0 ≤ w ∧ w < S (10 + x.toNat) 0 2)) (maC S (10 + x.toNat) w ∧ tsC S (10 + x.toNat) w) (True)) r2 ad2 S2 := by
  sorry
