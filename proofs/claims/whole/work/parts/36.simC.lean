theorem Inv.shade {S S2 : St} (hI : Inv S) {x : Int} (hx : isP S x) (hd : dnM S x) (e : ∀ (a b : Nat) (i : Int), ¬ ((a = 0 ∧ b = 0 ∧ i = 27) ∨ (a = 3 ∧ b = 1) ∨ (a = 10 + x.toNat ∧ b = 7) ∨ (a = 0 ∧ b = 27 ∧ 240 * x ≤ i ∧ i < 240 * x + 240)) → S2 a b i = S a b i) (h7 : ∀ j, 0 ≤ j → j < 240 → 0 ≤ S2 (10 + x.toNat) 7 j ∧ S2 (10 + x.toNat) 7 j ≤ 100)
    (hc : ∀ c r, 0 ≤ c → c < S 0 16 x → 0 ≤ r → r < S 0 17 x → S2 (10 + x.toNat) 7 (r * 24 + c) = S2 0 27 (240 * x + 10 * c + r)) : Inv S2 ∧ shC S2 (10 + x.toNat) = shM S2 x := by
  have hx20 := hI.x20 hx
  obtain ⟨hR, hX, hY, hQ⟩ := hI.ip hx
  have hp := hI.m.pc x hx20.1 hx20.2
  obtain ⟨ga, g0, g1, g2, hW, hH, h4, h7', h8⟩ := hR
  have hL : lgr S S2 := lgr_e (fun b i z => e 0 b i (by omega))
  have hR2 : pR S2 (10 + x.toNat) x := ⟨by rw [e _ _ _ (by omega)]; exact ga, by rw [e _ 0 _ (by omega), e 0 16 _ (by omega)]; exact g0, by rw [e _ 0 _ (by omega), e 0 17 _ (by omega)]; exact g1, by rw [e _ 0 _ (by omega), e 0 18 _ (by omega)]; exact g2, by rw [e 0 16 _ (by omega)]; exact hW, by rw [e 0 17 _ (by omega)]; exact hH, fun w w0 w1 => by rw [e _ 4 _ (by omega), e 0 20 _ (by omega)]; exact h4 w w0 w1, h7, fun j j0 j1 => by rw [e _ 8 _ (by omega)]; exact h8 j j0 j1⟩
  have hX2 : pX S2 (10 + x.toNat) x := by
    intro c r c0 c1 r0 r1
    rw [e 0 16 _ (by omega)] at c1
    rw [e 0 17 _ (by omega)] at r1
    obtain ⟨a1, a2, a3, a4, a5⟩ := hX c r c0 c1 r0 r1
    have hal := hI.alw hx hd c r c0 c1 r0 r1
    rw [e _ 5 _ (by omega), e _ 6 _ (by omega), e 0 25 _ (by omega), e 0 26 _ (by omega)]
    refine ⟨a1, a2, hc c r c0 c1 r0 r1, okc_keep hL ⟨a4, ?_⟩⟩
    rcases a5 with h | h
    · omega
    · exact Or.inr h
  refine ⟨⟨hI.m.keep (fun r j z => e 0 r j (by unfold wrow at z; omega)), ⟨by rw [e 1 0 _ (by omega)]; exact hI.a1, by rw [e 2 0 _ (by omega)]; exact hI.a2, by rw [e 3 0 _ (by omega)]; exact hI.a3⟩, iW_keep hI.w (fun a b i z => e a b i (by omega)), iCs_keep hI.c hI.m (fun a b i z => e a b i (by omega)), iL_keep hI.l (fun a b i z => e a b i (by omega)), iPs_one (x := x) hI.p hI.m hL (fun a b i z => e a b i (by omega)) hx ⟨hR2, hX2, pY_keep hY hW.2 (fun b i z => e _ b i (by omega)) (fun b i z => e 0 b i (by omega)), pQ_keep hQ hp.2.2.2.2.2.1 ⟨hW.1, hW.2, hH.2⟩ (fun b i z => e 0 b i (by omega))⟩⟩, sh_eq hR2 hX2⟩
theorem nrc {W H r c : Int} (r0 : 0 ≤ r) (r1 : r < H) (c0 : 0 ≤ c) (c1 : c < W) : 0 ≤ c * H + r ∧ c * H + r < W * H ∧ (c * H + r) / H = c ∧ (c * H + r) % H = r := by
  have h1 : 0 ≤ c * H := Int.mul_nonneg c0 (by omega)
  have h2 : (c + 1) * H ≤ W * H := Int.mul_le_mul_of_nonneg_right (by omega) (by omega)
  rw [Int.add_mul, Int.one_mul] at h2
  refine ⟨by omega, by omega, ?_, ?_⟩
  · rw [Int.add_comm, Int.add_mul_ediv_right _ _ (by omega), Int.ediv_eq_zero_of_lt r0 r1]; omega
  · rw [Int.add_comm, Int.add_mul_emod_self_right, Int.emod_eq_of_lt r0 r1]
theorem mx0_c {s k : Int} (_ : 0 ≤ k) (h0 : 0 ≤ s) : mx0 (s - k) = cif (s < k) 0 (s - k) := by
  unfold mx0
  by_cases h : s < k
  · rw [cif_t h, if_neg (by omega)]
  · rw [cif_f h]
    split <;> omega
theorem liM_e {S U : St} (e : U 0 = S 0) (x h n : Int) : liM U x h n = liM S x h n := by
  unfold liM
  rw [e]
theorem waM_e {S U : St} (e : U 0 = S 0) (x n : Int) : waM U x n = waM S x n := by
  unfold waM waL ruM
  rw [e]
theorem ru_nb {S : St} {o : Nat} {x r c dr dc i : Int} (hR : pR S o x) (hX : pX S o x) (hl6 : ∀ j, 0 ≤ j → j < 20 → S 2 6 j = S 0 14 j) (hlo : ∀ c r, 0 ≤ c → c < S 0 16 x → 0 ≤ r → r < S 0 17 x → 0 ≤ S 0 26 (240 * x + 10 * c + r) ∧ S 0 26 (240 * x + 10 * c + r) < 20) (r0 : 0 ≤ r) (r1 : r < S 0 17 x) (c0 : 0 ≤ c) (c1 : c < S 0 16 x) (hi : i = r * 24 + c) :
    ruM S x (c + dc) (r + dr) (S 0 26 (240 * x + 10 * c + r)) = 5 * b2 (nbP S o (S o 0 1) 0 i dr dc) := by
  obtain ⟨-, g0, g1, -, hW, hH, -⟩ := hR
  have e1 : i / 24 = r := by omega
  have e2 : i % 24 = c := by omega
  have key : ((0 ≤ c + dc ∧ c + dc ≤ S 0 16 x - 1) ∧ (0 ≤ r + dr ∧ r + dr ≤ S 0 17 x - 1) ∧ S 0 26 (240 * x + 10 * (c + dc) + (r + dr)) ≠ S 0 26 (240 * x + 10 * c + r) ∧ S 0 14 (S 0 26 (240 * x + 10 * (c + dc) + (r + dr))) ≠ 0) ↔ nbP S o (S o 0 1) 0 i dr dc := by
    unfold nbP
    rw [e1, e2, g0, g1, hi, (hX c r c0 c1 r0 r1).2.1]
    by_cases hin : (0 ≤ c + dc ∧ c + dc ≤ S 0 16 x - 1) ∧ (0 ≤ r + dr ∧ r + dr ≤ S 0 17 x - 1)
    · obtain ⟨⟨k1, k2⟩, k3, k4⟩ := hin
      have hl := hlo (c + dc) (r + dr) k1 (by omega) k3 (by omega)
      rw [(hX (c + dc) (r + dr) k1 (by omega) k3 (by omega)).2.1, hl6 _ hl.1 hl.2]
      exact ⟨fun y => ⟨⟨k3, by omega, k1, by omega⟩, Or.inl (by omega), y.2.2.2, fun z => y.2.2.1 z.symm⟩, fun y => ⟨⟨k1, k2⟩, ⟨k3, k4⟩, fun z => y.2.2.2 z.symm, y.2.2.1⟩⟩
    · exact ⟨fun y => absurd ⟨y.1, y.2.1⟩ hin, fun y => absurd ⟨⟨y.1.2.2.1, by omega⟩, y.1.1, by omega⟩ hin⟩
  unfold ruM
  by_cases hk : nbP S o (S o 0 1) 0 i dr dc
  · rw [b2_t hk, cif_t (key.mpr hk)]
    rfl
  · rw [b2_f hk, cif_f (fun y => hk (key.mp y))]
    rfl
set_option maxHeartbeats 4000000 in
theorem sim_light {S S1 S2 : St} {ad ad1 ad2 : Nat → Nat → Nat} {r1 r2 : Option Value} {x t : Int} (hI : Inv S) (hrn : rng x) (hrn2 : rng t) (h1 : lhP ad (peC S x) (1 ≤ t ∧ t ≤ 9999) (dnC S (10 + x.toNat)) S (st (ltS S (10 + x.toNat) t) 3 1 0 (wr (shC (ltS S (10 + x.toNat) t) (10 + x.toNat)))) r1 ad1 S1) (h2 : (mPz ad1 (isP S1 x) (1 ≤ t ∧ t ≤ 9999) ((isP S1 x) ∧ (dnM S1 x)) S1 (fun Z => some (.int (i32 (shM Z x)))) (fun Z => (∀ (a1 b1 : Nat) (i1 : Int), ¬ (a1 = 0 ∧ b1 = 27 ∧ 240 * x ≤ i1 ∧ i1 < 240 * x + 240) → Z a1 b1 i1 = (st S1 0 0 27 (thr (isP S1 x) (1 ≤ t ∧ t ≤ 9999) ((isP S1 x) ∧ (dnM S1 x)))) a1 b1 i1) ∧ (∀ n1, 0 ≤ n1 → n1 < S1 0 16 x * S1 0 17 x → Z 0 27 (240 * x + 10 * (n1 / S1 0 17 x) + n1 % S1 0 17 x) = liM S1 x t n1))) r2 ad2 S2) : Gd ad (thr (peC S x) (1 ≤ t ∧ t ≤ 9999) (dnC S (10 + x.toNat))) r2 ad2 S2 := by
  have e0 := lhP_0 h1 zk_light.1
  have ek := (lhP_k h1).2
  have hk : thr (isP S1 x) (1 ≤ t ∧ t ≤ 9999) (isP S1 x ∧ dnM S1 x) = thr (peC S x) (1 ≤ t ∧ t ≤ 9999) (dnC S (10 + x.toNat)) := by
    refine thr_c (by rw [isP_e e0, hI.pe]) (fun _ => Iff.rfl) (fun y _ => ?_)
    rw [isP_e e0, dnM_e e0, hI.dn (hI.pe.mp y)]
    exact ⟨fun u => ⟨hI.pe.mp y, u⟩, fun u => u.2⟩
  rcases h1.2 with ⟨hn, ha, hs⟩ | ⟨hc, ha, hs⟩
  · rw [ha, hs] at h2
    rw [hs] at hk
    exact sim_nz hI hk hn h2
  · obtain ⟨h3, h4, h5⟩ := mPz_y (hk.trans (thr_z.mpr hc)) h2
    rw [h3]
    have hx := hI.pe.mp hc.1
    have ht := hc.2.1
    have hd := (hI.dn hx).mp hc.2.2
    have hx20 := hI.x20 hx
    obtain ⟨hR, hX, hY, hQ⟩ := hI.ip hx
    obtain ⟨ga, g0, g1, g2, hW, hH, h4', h7', h8'⟩ := id hR
    have hlt := hI.m.lt
    rw [hk] at h5
    obtain ⟨q1, q2⟩ := h5
    generalize thr (peC S x) (1 ≤ t ∧ t ≤ 9999) (dnC S (10 + x.toNat)) = T at q1 ⊢
    have hfade : ∀ c r, 0 ≤ c → c < S 0 16 x → 0 ≤ r → r < S 0 17 x → 0 ≤ t * S 0 13 (S 0 26 (240 * x + 10 * c + r)) / 100 := fun c r c0 c1 r0 r1 => by
      have hal := hI.alw hx hd c r c0 c1 r0 r1
      have hf := hI.hfd _ hal.1 (by omega)
      exact Int.ediv_nonneg (Int.mul_nonneg (by omega) hf.1) (by decide)
    have hcel : ∀ c r, 0 ≤ c → c < S 0 16 x → 0 ≤ r → r < S 0 17 x → fdU S (10 + x.toNat) t (r * 24 + c) = mx0 (S 0 27 (240 * x + 10 * c + r) - t * S 0 13 (S 0 26 (240 * x + 10 * c + r)) / 100) := fun c r c0 c1 r0 r1 => by
      obtain ⟨a1, a2, a3, -⟩ := hX c r c0 c1 r0 r1
      have hal := hI.alw hx hd c r c0 c1 r0 r1
      unfold fdU
      rw [a2, a3, (hI.l.2 _ hal.1 (by omega)).2.2.2.1]
    have z7 : ∀ c r, 0 ≤ c → c < S 0 16 x → 0 ≤ r → r < S 0 17 x → ltS S (10 + x.toNat) t (10 + x.toNat) 7 (r * 24 + c) = fdU S (10 + x.toNat) t (r * 24 + c) := fun c r c0 c1 r0 r1 => by
      unfold ltS
      rw [clF_t (by unfold pcs; rw [g0, g1]; omega)]
    have zo : ∀ (a b : Nat) (i : Int), ¬ (a = 10 + x.toNat ∧ b = 7) → ltS S (10 + x.toNat) t a b i = S a b i := fun a b i z => by
      unfold ltS
      rw [clF_f (fun y => z ⟨y.1, y.2.1⟩)]
    have qo : ∀ b i, S2 (10 + x.toNat) b i = ltS S (10 + x.toNat) t (10 + x.toNat) b i := fun b i => by rw [q1 _ _ _ (by omega), st_at, if_neg (by omega), hs, st_at, if_neg (by omega)]
    obtain ⟨hI2, hsh⟩ := hI.shade (S2 := S2) hx hd (fun a b i z => by rw [q1 _ _ _ (by omega), st_at, if_neg (by omega), hs, st_at, if_neg (by omega), zo _ _ _ (by omega)]) (fun j j0 j1 => by
      rw [qo]
      by_cases hp : pcs (S (10 + x.toNat) 0 0) (S (10 + x.toNat) 0 1) 0 j
      · unfold pcs at hp
        rw [g0, g1] at hp
        have e : j = j / 24 * 24 + j % 24 := by omega
        have hr : j / 24 < S 0 17 x := by omega
        rw [e, z7 _ _ (by omega) (by omega) (by omega) hr, hcel _ _ (by omega) (by omega) (by omega) hr]
        have h1 := hfade (j % 24) (j / 24) (by omega) (by omega) (by omega) hr
        have h2 := h7' (j / 24 * 24 + j % 24) (by omega) (by omega)
        rw [(hX (j % 24) (j / 24) (by omega) (by omega) (by omega) hr).2.2.1] at h2
        exact mx0_b (by omega) (by decide)
      · unfold ltS
        rw [clF_f (fun y => hp y.2.2)]
        exact h7' j j0 j1) (fun c r c0 c1 r0 r1 => by
      obtain ⟨n0, n1, n2, n3⟩ := nrc r0 r1 c0 c1
      have h9 := q2 (c * S 0 17 x + r) n0 (by rw [e0]; exact n1)
      rw [liM_e e0, e0, n2, n3] at h9
      rw [qo, z7 c r c0 c1 r0 r1, hcel c r c0 c1 r0 r1, h9]
      unfold liM
      rw [n2, n3]
      have h2 := h7' (r * 24 + c) (by omega) (by omega)
      rw [(hX c r c0 c1 r0 r1).2.2.1] at h2
      exact mx0_c (hfade c r c0 c1 r0 r1) h2.1)
    refine ⟨⟨_, h4, fun _ => ?_⟩, by rw [q1 0 0 27 (by omega), st_at, if_pos ⟨rfl, rfl, rfl⟩], hI2, ek⟩
    rw [q1 3 1 0 (by omega), st_at, if_neg (by omega), hs, st_at, if_pos ⟨rfl, rfl, rfl⟩, ← hsh]
    have eo : S2 (10 + x.toNat) = ltS S (10 + x.toNat) t (10 + x.toNat) := by funext b i; exact qo b i
    unfold shC s2
    rw [eo]
set_option maxHeartbeats 4000000 in
theorem sim_wash {S S1 S2 : St} {ad ad1 ad2 : Nat → Nat → Nat} {r1 r2 : Option Value} {x : Int} (hI : Inv S) (hrn : rng x) (h1 : lhP ad (peC S x) (dnC S (10 + x.toNat)) (True) S (st (waS S (10 + x.toNat)) 3 1 0 (wr (shC (waS S (10 + x.toNat)) (10 + x.toNat)))) r1 ad1 S1) (h2 : (mPz ad1 (isP S1 x) ((isP S1 x) ∧ (dnM S1 x)) (True) S1 (fun Z => some (.int (i32 (shM Z x)))) (fun Z => (∀ (a1 b1 : Nat) (i1 : Int), ¬ (a1 = 0 ∧ b1 = 27 ∧ 240 * x ≤ i1 ∧ i1 < 240 * x + 240) → Z a1 b1 i1 = (st S1 0 0 27 (thr (isP S1 x) ((isP S1 x) ∧ (dnM S1 x)) (True))) a1 b1 i1) ∧ (∀ n1, 0 ≤ n1 → n1 < S1 0 16 x * S1 0 17 x → Z 0 27 (240 * x + 10 * (n1 / S1 0 17 x) + n1 % S1 0 17 x) = waM S1 x n1))) r2 ad2 S2) : Gd ad (thr (peC S x) (dnC S (10 + x.toNat)) (True)) r2 ad2 S2 := by
  have e0 := lhP_0 h1 zk_wash.1
  have ek := (lhP_k h1).2
  have hk : thr (isP S1 x) (isP S1 x ∧ dnM S1 x) True = thr (peC S x) (dnC S (10 + x.toNat)) True := by
    refine thr_c (by rw [isP_e e0, hI.pe]) (fun y => ?_) (fun _ _ => Iff.rfl)
    rw [isP_e e0, dnM_e e0, hI.dn (hI.pe.mp y)]
    exact ⟨fun u => ⟨hI.pe.mp y, u⟩, fun u => u.2⟩
  rcases h1.2 with ⟨hn, ha, hs⟩ | ⟨hc, ha, hs⟩
  · rw [ha, hs] at h2
    rw [hs] at hk
    exact sim_nz hI hk hn h2
  · obtain ⟨h3, h4, h5⟩ := mPz_y (hk.trans (thr_z.mpr hc)) h2
    rw [h3]
    have hx := hI.pe.mp hc.1
    have hd := (hI.dn hx).mp hc.2.1
    have hx20 := hI.x20 hx
    obtain ⟨hR, hX, hY, hQ⟩ := hI.ip hx
    obtain ⟨ga, g0, g1, g2, hW, hH, h4', h7', h8'⟩ := id hR
    have hlt := hI.m.lt
    rw [hk] at h5
    obtain ⟨q1, q2⟩ := h5
    generalize thr (peC S x) (dnC S (10 + x.toNat)) True = T at q1 ⊢
    have hcel : ∀ c r, 0 ≤ c → c < S 0 16 x → 0 ≤ r → r < S 0 17 x → waS S (10 + x.toNat) (10 + x.toNat) 7 (r * 24 + c) = mx0 (S 0 27 (240 * x + 10 * c + r) - 5 * nbK S (10 + x.toNat) (S (10 + x.toNat) 0 1) 0 (r * 24 + c)) := fun c r c0 c1 r0 r1 => by
      unfold waS
      rw [bst_t (by unfold inC; rw [g0, g1]; omega), (hX c r c0 c1 r0 r1).2.2.1]
    have zo : ∀ (a b : Nat) (i : Int), ¬ (a = 10 + x.toNat ∧ b = 7) → waS S (10 + x.toNat) a b i = S a b i := fun a b i z => by
      unfold waS
      rw [bst_f (fun y => z ⟨y.1, y.2.1⟩)]
    have qo : ∀ b i, S2 (10 + x.toNat) b i = waS S (10 + x.toNat) (10 + x.toNat) b i := fun b i => by rw [q1 _ _ _ (by omega), st_at, if_neg (by omega), hs, st_at, if_neg (by omega)]
    obtain ⟨hI2, hsh⟩ := hI.shade (S2 := S2) hx hd (fun a b i z => by rw [q1 _ _ _ (by omega), st_at, if_neg (by omega), hs, st_at, if_neg (by omega), zo _ _ _ (by omega)]) (fun j j0 j1 => by
      rw [qo]
      unfold waS
      by_cases hp : inC S (10 + x.toNat) j
      · rw [bst_t hp]
        have h1 := nbK_b S (10 + x.toNat) (S (10 + x.toNat) 0 1) 0 j
        have h2 := h7' j j0 j1
        exact mx0_b (by omega) (by decide)
      · rw [bst_f (fun y => hp y.2.2)]
        exact h7' j j0 j1) (fun c r c0 c1 r0 r1 => by
      obtain ⟨n0, n1, n2, n3⟩ := nrc r0 r1 c0 c1
      have h9 := q2 (c * S 0 17 x + r) n0 (by rw [e0]; exact n1)
      rw [waM_e e0, e0, n2, n3] at h9
      rw [qo, hcel c r c0 c1 r0 r1, h9]
      have h1 := nbK_b S (10 + x.toNat) (S (10 + x.toNat) 0 1) 0 (r * 24 + c)
      have hwl : waL S x (c * S 0 17 x + r) = 5 * nbK S (10 + x.toNat) (S (10 + x.toNat) 0 1) 0 (r * 24 + c) := by
        have k1 := ru_nb (dr := 0) (dc := -1) hR hX (fun j j0 j1 => (hI.l.2 j j0 j1).2.2.2.2.1) (hI.hlo x hx hd) r0 r1 c0 c1 rfl
        have k2 := ru_nb (dr := 0) (dc := 1) hR hX (fun j j0 j1 => (hI.l.2 j j0 j1).2.2.2.2.1) (hI.hlo x hx hd) r0 r1 c0 c1 rfl
        have k3 := ru_nb (dr := -1) (dc := 0) hR hX (fun j j0 j1 => (hI.l.2 j j0 j1).2.2.2.2.1) (hI.hlo x hx hd) r0 r1 c0 c1 rfl
        have k4 := ru_nb (dr := 1) (dc := 0) hR hX (fun j j0 j1 => (hI.l.2 j j0 j1).2.2.2.2.1) (hI.hlo x hx hd) r0 r1 c0 c1 rfl
        rw [show c + 0 = c by omega] at k3 k4
        rw [show r + 0 = r by omega] at k1 k2
        unfold waL nbK
        rw [n2, n3, show c - 1 = c + -1 by omega, show r - 1 = r + -1 by omega, k1, k2, k3, k4]
        omega
      unfold waM
      rw [hwl, n2, n3]
      have h2 := h7' (r * 24 + c) (by omega) (by omega)
      rw [(hX c r c0 c1 r0 r1).2.2.1] at h2
      exact mx0_c (by omega) h2.1)
    refine ⟨⟨_, h4, fun _ => ?_⟩, by rw [q1 0 0 27 (by omega), st_at, if_pos ⟨rfl, rfl, rfl⟩], hI2, ek⟩
    rw [q1 3 1 0 (by omega), st_at, if_neg (by omega), hs, st_at, if_pos ⟨rfl, rfl, rfl⟩, ← hsh]
    have eo : S2 (10 + x.toNat) = waS S (10 + x.toNat) (10 + x.toNat) := by funext b i; exact qo b i
    unfold shC s2
    rw [eo]
theorem gf_c {φ ψ : Int → Prop} : ∀ (n : Nat) (lo : Int), (∀ k, lo ≤ k → k < lo + n → (φ k ↔ ψ k)) → gf φ n lo = gf ψ n lo
  | 0, _, _ => rfl
  | n + 1, lo, h => by
    show cif (φ lo) lo (gf φ n (lo + 1)) = cif (ψ lo) lo (gf ψ n (lo + 1))
    rw [propext (h lo (Int.le_refl _) (by omega)), gf_c n (lo + 1) (fun k h0 h1 => h k (by omega) (by omega))]
theorem gf_no {φ : Int → Prop} : ∀ (n : Nat) (lo : Int), 0 ≤ lo → gf φ n lo = -1 → ∀ k, lo ≤ k → k < lo + n → ¬ φ k
  | 0, _, _, _ => fun k h0 h1 => by omega
  | n + 1, lo, hl, h => by
    have e : gf φ (n + 1) lo = cif (φ lo) lo (gf φ n (lo + 1)) := rfl
    rw [e] at h
    by_cases p : φ lo
    · rw [cif_t p] at h; omega
    · rw [cif_f p] at h
      intro k h0 h1
      by_cases hk : k = lo
      · rw [hk]; exact p
      · exact gf_no n (lo + 1) (by omega) h k (by omega) (by omega)
theorem gvM_e {T U : St} (e : T 0 = U 0) (v : Int) : gvM T v = gvM U v := by
  unfold gvM gvP
  rw [e]
theorem gvM_in {S : St} (hl : 0 ≤ S 0 0 8) {v : Int} (h : gvM S v ≠ -1) : 0 ≤ gvM S v ∧ gvM S v < S 0 0 8 ∧ S 0 10 (gvM S v) = v ∧ 0 < S 0 12 (gvM S v) := by
  obtain ⟨h1, h2, h3⟩ := gf_b (gvP S v) (S 0 0 8).toNat 0 (by omega)
  obtain ⟨h4, h5, h6⟩ := h3 h
  exact ⟨h4, by unfold gvM; omega, h5, h6⟩
theorem wvF_e {S S1 : St} (e : S1 0 = S 0) (x r : Int) (G : Int → Int) (f c : Int) : wvF S1 x r G f c 0 = wvF S x r G f c 0 := by
  funext b i
  unfold wvF
  rw [e]
theorem wvG_e {S S1 : St} (e : S1 0 = S 0) {x r f c : Int} {G : Int → Int} (h : wvG S1 x r G f c) : wvG S x r G f c := fun j h0 h1 => by
  have := h j h0 h1
  rw [gvM_e (wvF_e e x r G f j), e] at this
  exact this
theorem sm_0z {f : Int → Int} {n : Nat} (h : ∀ i : Int, 0 ≤ i → i < n → f i = 0) : sm f n = 0 := by
  rw [sm_c (g := fun _ => 0) h, sm_zero]
theorem sm_pt {g : Int} {φ : Int → Prop} {n : Nat} (h0 : 0 ≤ g) (h1 : g < n) : sm (fun j => cif (φ j) (b2 (g = j)) 0) n = b2 (φ g) := by
  induction n with
  | zero => omega
  | succ n ih =>
    show sm (fun j => cif (φ j) (b2 (g = j)) 0) n + cif (φ n) (b2 (g = n)) 0 = b2 (φ g)
    by_cases hg : g = n
    · rw [sm_0z (fun i i0 i1 => by
        rw [b2_f (show ¬ g = i by omega)]
        by_cases hp : φ i
        · rw [cif_t hp]
        · rw [cif_f hp]), b2_t hg, hg]
      by_cases hp : φ n
      · rw [cif_t hp, b2_t hp]; rfl
      · rw [cif_f hp, b2_f hp]; rfl
    · rw [ih (by omega), b2_f hg]
      by_cases hp : φ n
      · rw [cif_t hp]; omega
      · rw [cif_f hp]; omega
theorem sm_le {f : Int → Int} {n m : Nat} (h : n ≤ m) (hf : ∀ i : Int, 0 ≤ i → i < m → 0 ≤ f i) : sm f n ≤ sm f m := by
  induction m with
  | zero => rw [show n = 0 by omega]; exact Int.le_refl _
  | succ m ih =>
    by_cases hn : n = m + 1
    · rw [hn]; exact Int.le_refl _
    · have h1 := ih (by omega) (fun i i0 i1 => hf i i0 (by omega))
      have h2 := hf m (by omega) (by omega)
      show sm f n ≤ sm f m + f m
      omega
/-- the threads of a colour that are left behind the columns f .. c - 1 -/
noncomputable def rmT (S : St) (G : Int → Int) (f c v : Int) : Int := sm (fun j => cif (S 0 10 j = v) (S 0 12 j - cn G j f c) 0) (S 0 0 8).toNat
theorem rm_s {S : St} {G : Int → Int} {f c v : Int} (hf : f ≤ c) (hg : 0 ≤ G c ∧ G c < S 0 0 8) : rmT S G f c v = rmT S G f (c + 1) v + b2 (S 0 10 (G c) = v) := by
  unfold rmT
  rw [← sm_pt (g := G c) (φ := fun k => S 0 10 k = v) (n := (S 0 0 8).toNat) hg.1 (by omega), ← sm_add]
  refine sm_c (fun j j0 j1 => ?_)
  rw [cn_r G j hf]
  by_cases hp : S 0 10 j = v
  · rw [cif_t hp, cif_t hp, cif_t hp]; omega
  · rw [cif_f hp, cif_f hp, cif_f hp]; rfl
theorem ch_in {S : St} {x r f c j : Int} {G : Int → Int} (hl : 0 ≤ S 0 0 8) (h : wvG S x r G f c) (h0 : f ≤ j) (h1 : j < c) : 0 ≤ G j ∧ G j < S 0 0 8 ∧ S 0 10 (G j) = S 0 25 (240 * x + 10 * j + r) ∧ 0 < S 0 12 (G j) - cn G (G j) f j := by
  obtain ⟨h2, h3⟩ := h j h0 h1
  have e8 : wvF S x r G f j 0 0 8 = S 0 0 8 := wvF_o _ _ _ _ _ _ (by decide)
  obtain ⟨h4, h5, h6, h7⟩ := gvM_in (S := wvF S x r G f j) (v := S 0 25 (240 * x + 10 * j + r)) (by rw [e8]; exact hl) (by rw [← h2]; exact h3)
  rw [← h2] at h4 h5 h6 h7
  rw [e8] at h5
  rw [wvF_o _ _ _ _ _ _ (by decide)] at h6
  rw [wvF_12] at h7
  exact ⟨h4, h5, h6, h7⟩
theorem rm_tot {S : St} {x r f c : Int} {G : Int → Int} (hl : 0 ≤ S 0 0 8) (h : wvG S x r G f c) (hc : f ≤ c) (v : Int) : rmT S G f f v = rmT S G f c v + sm (fun i => b2 (S 0 25 (240 * x + 10 * (f + i) + r) = v)) (c - f).toNat := by
  have key : ∀ n : Nat, f + n ≤ c → rmT S G f f v = rmT S G f (f + n) v + sm (fun i => b2 (S 0 25 (240 * x + 10 * (f + i) + r) = v)) n := by
    intro n
    induction n with
    | zero => intro _; rw [show f + ((0 : Nat) : Int) = f by omega]; show _ = _ + 0; omega
    | succ n ih =>
      intro hn
      obtain ⟨g1, g2, g3, -⟩ := ch_in (j := f + n) hl h (by omega) (by omega)
      rw [ih (by omega), rm_s (by omega) ⟨g1, g2⟩, g3, show f + ((n + 1 : Nat) : Int) = f + n + 1 by omega]
      show _ = _ + (sm (fun i => b2 (S 0 25 (240 * x + 10 * (f + i) + r) = v)) n + b2 (S 0 25 (240 * x + 10 * (f + n) + r) = v))
      omega
  have := key (c - f).toNat (by omega)
  rw [show f + ((c - f).toNat : Int) = c by omega] at this
  exact this
theorem ch_ge {S : St} {x r f c k : Int} {G : Int → Int} (hl : 0 ≤ S 0 0 8) (h : wvG S x r G f c) (hc : f ≤ c) (hk : 0 ≤ S 0 12 k) : 0 ≤ S 0 12 k - cn G k f c := by
  have key : ∀ n : Nat, f + n ≤ c → 0 ≤ S 0 12 k - cn G k f (f + n) := by
    intro n
    induction n with
    | zero => intro _; rw [show f + ((0 : Nat) : Int) = f by omega, cn_0]; omega
    | succ n ih =>
      intro hn
      have h1 := ih (by omega)
      obtain ⟨-, -, -, g4⟩ := ch_in (j := f + n) hl h (by omega) (by omega)
      rw [show f + ((n + 1 : Nat) : Int) = f + n + 1 by omega, cn_r G k (by omega)]
      by_cases hg : G (f + n) = k
      · rw [hg] at g4
        rw [b2_t hg]; omega
      · rw [b2_f hg]; omega
  have := key (c - f).toNat (by omega)
  rw [show f + ((c - f).toNat : Int) = c by omega] at this
  exact this
/-- the class's row woven takes the same lots -/
theorem wrI_d {S : St} {o : Nat} {x r f t : Int} {G : Int → Int} (h8 : S 2 0 0 = S 0 0 8) (hl : 0 ≤ S 0 0 8 ∧ S 0 0 8 ≤ 20) (hlt : ∀ j, 0 ≤ j → j < 20 → S 2 2 j = S 0 10 j ∧ S 2 4 j = S 0 12 j) (ho : o ≠ 2 ∧ o ≠ 0) (hG : wvG S x r G f t) (hcol : ∀ j, f ≤ j → j < t → S o 5 (r * 24 + j) = S 0 25 (240 * x + 10 * j + r)) :
    ∀ n : Nat, f + n ≤ t → ∀ (a b : Nat) (i : Int), wrI S o r f n a b i = if a = 2 ∧ b = 4 then S 2 4 i - cn G i f (f + n) else if a = o ∧ b = 6 ∧ r * 24 + f ≤ i ∧ i < r * 24 + (f + n) then G (i - r * 24) else if a = o ∧ b = 7 ∧ r * 24 + f ≤ i ∧ i < r * 24 + (f + n) then 100 else S a b i := by
  intro n
  induction n with
  | zero =>
    intro _ a b i
    show S a b i = _
    rw [show f + ((0 : Nat) : Int) = f by omega, cn_0]
    by_cases h : a = 2 ∧ b = 4
    · rw [if_pos h, h.1, h.2]; omega
    · rw [if_neg h, if_neg (by omega), if_neg (by omega)]
  | succ n ih =>
    intro hn a b i
    have ih := ih (by omega)
    generalize hT : wrI S o r f n = T at ih
    have hv : S o 5 (r * 24 + (f + n)) = S 0 25 (240 * x + 10 * (f + n) + r) := hcol (f + n) (by omega) (by omega)
    obtain ⟨g1, g2⟩ := hG (f + n) (by omega) (by omega)
    obtain ⟨g3, g4, -, -⟩ := ch_in hl.1 hG (j := f + n) (by omega) (by omega)
    have hgv : gvC T (S o 5 (r * 24 + (f + n))) = G (f + n) := by
      rw [g1, hv]
      unfold gvC gvM
      have e1 : T 2 0 0 = S 0 0 8 := by rw [ih, if_neg (by omega), if_neg (by omega), if_neg (by omega)]; exact h8
      rw [e1, wvF_o _ _ _ _ _ _ (by decide)]
      refine gf_c _ _ (fun k k0 k1 => ?_)
      unfold gvQ gvP
      obtain ⟨u1, u2⟩ := hlt k (by omega) (by omega)
      rw [ih 2 2 k, if_neg (by omega), if_neg (by omega), if_neg (by omega), ih 2 4 k, if_pos ⟨rfl, rfl⟩, wvF_12, wvF_o _ _ _ _ _ _ (by decide), u1, u2]
    have hw : wrI S o r f (n + 1) a b i = wr1 T o (r * 24 + (f + n)) (S o 5 (r * 24 + (f + n))) a b i := by
      rw [← hT]; rfl
    rw [hw]
    unfold wr1
    rw [tk_b hgv g3, hgv, show f + ((n + 1 : Nat) : Int) = f + n + 1 by omega, st_at, st_at, st_at]
    have hcn := cn_r G i (n := f) (c := f + n) (by omega)
    by_cases h24 : a = 2 ∧ b = 4
    · rw [if_neg (by omega), if_neg (by omega), if_pos h24, hcn]
      by_cases hi : i = G (f + n)
      · rw [if_pos ⟨h24.1, h24.2, hi⟩, ih, if_pos ⟨rfl, rfl⟩, b2_t hi.symm, hi]; omega
      · rw [if_neg (by omega), ih, if_pos h24, b2_f (fun y => hi y.symm)]; omega
    · rw [if_neg (c := a = 2 ∧ b = 4) h24]
      by_cases hi : i = r * 24 + (f + n)
      · by_cases h7 : a = o ∧ b = 7
        · rw [if_pos ⟨h7.1, h7.2, hi⟩, if_neg (by omega), if_pos ⟨h7.1, h7.2, by omega, by omega⟩]
        · rw [if_neg (by omega)]
          by_cases h6 : a = o ∧ b = 6
          · rw [if_pos ⟨h6.1, h6.2, hi⟩, if_pos ⟨h6.1, h6.2, by omega, by omega⟩, hi]
            congr 1; omega
          · rw [if_neg (by omega), if_neg (by omega), ih, if_neg h24, if_neg (by omega), if_neg (by omega), if_neg (by omega), if_neg (by omega)]
      · rw [if_neg (by omega), if_neg (by omega), if_neg (by omega), ih, if_neg h24]
        by_cases h6 : a = o ∧ b = 6 ∧ r * 24 + f ≤ i ∧ i < r * 24 + (f + n)
        · rw [if_pos h6, if_pos ⟨h6.1, h6.2.1, h6.2.2.1, by omega⟩]
        · rw [if_neg h6, if_neg (c := a = o ∧ b = 6 ∧ r * 24 + f ≤ i ∧ i < r * 24 + (f + n + 1)) (by omega)]
          by_cases h7 : a = o ∧ b = 7 ∧ r * 24 + f ≤ i ∧ i < r * 24 + (f + n)
          · rw [if_pos h7, if_pos ⟨h7.1, h7.2.1, h7.2.2.1, by omega⟩]
          · rw [if_neg h7, if_neg (c := a = o ∧ b = 7 ∧ r * 24 + f ≤ i ∧ i < r * 24 + (f + n + 1)) (by omega)]
theorem wv_core {S : St} {x w r f t : Int} (hI : Inv S) (hx : isP S x) (hw : 0 ≤ w ∧ w < S 0 18 x) (hr : S 0 20 (4 * x + w) = r) (hlt : r < S 0 17 x) (hf : w * S 0 21 x / S 0 18 x = f) (ht : (w + 1) * S 0 21 x / S 0 18 x = t) :
    (S 0 16 x = S 0 21 x ∧ S 0 16 x ≤ 12 ∧ 0 ≤ f ∧ f ≤ t ∧ t ≤ S 0 16 x ∧ 0 ≤ r) ∧ fcC S (10 + x.toNat) w = f ∧ fcC S (10 + x.toNat) (w + 1) = t ∧ S (10 + x.toNat) 4 w = r ∧ (∀ j, f ≤ j → j < t → S (10 + x.toNat) 5 (r * 24 + j) = S 0 25 (240 * x + 10 * j + r) ∧ 0 ≤ S 0 25 (240 * x + 10 * j + r) ∧ S 0 25 (240 * x + 10 * j + r) ≤ 5) := by
  have hx20 := hI.x20 hx
  obtain ⟨⟨ga, g0, g1, g2, hW, hH, h4, -⟩, hX, -, hQ⟩ := hI.ip hx
  have hp := hI.m.pc x hx20.1 hx20.2
  have hwv := hI.m.wv (4 * x + w) (by omega) (by omega)
  rw [hr] at hwv
  rcases hQ with ⟨hd, -⟩ | ⟨q1, q2, q3, q4, q5, q6⟩
  · have := hd w hw.1 hw.2
    omega
  · have hb := dvb hw.1 hw.2 hp.2.2.2.2.2.1 (show 0 ≤ S 0 21 x by omega) (show S 0 21 x ≤ 12 by omega)
    refine ⟨⟨q1, q2, by omega, by omega, by omega, by omega⟩, ?_, ?_, ?_, fun j j0 j1 => ?_⟩
    · unfold fcC; rw [g0, g2, q1]; exact hf
    · unfold fcC; rw [g0, g2, q1]; exact ht
    · rw [h4 w hw.1 (by omega)]; exact hr
    · obtain ⟨a1, -, -, a4, -⟩ := hX j r (by omega) (by omega) (by omega) hlt
      exact ⟨a1, a4⟩
theorem ma_eq {S : St} {x w : Int} (hI : Inv S) (hx : isP S x) (hw : 0 ≤ w ∧ w < S 0 18 x) : maC S (10 + x.toNat) w ↔ mwM S x w := by
  have hx20 := hI.x20 hx
  obtain ⟨⟨ga, g0, g1, g2, hW, hH, h4, -⟩, -⟩ := hI.ip hx
  have hp := hI.m.pc x hx20.1 hx20.2
  unfold maC mwM
  rw [g1, g2, h4 w hw.1 (by omega)]
  refine and_congr_right (fun _ => ?_)
  rw [not_or]
  refine and_congr (not_congr (and_congr_right (fun y => ?_))) (not_congr (and_congr_right (fun y => ?_)))
  · rw [h4 (w - 1) (by omega) (by omega), show 4 * x + (w - 1) = 4 * x + w - 1 by omega]
  · rw [h4 (w + 1) (by omega) (by omega), show 4 * x + (w + 1) = 4 * x + w + 1 by omega]
theorem th_eq {S : St} (hI : Inv S) (G : Int → Int) (f v : Int) : thC S v = rmT S G f f v := by
  unfold thC rmT
  have hl := hI.m.lt
  rw [hI.l.1]
  refine sm_c (fun j j0 j1 => ?_)
  obtain ⟨u1, -, u2, -⟩ := hI.l.2 j j0 (by omega)
  rw [u1, u2, cn_0, Int.sub_zero]
set_option maxHeartbeats 4000000 in
theorem sim_weave {S S1 S2 : St} {ad ad1 ad2 : Nat → Nat → Nat} {r1 r2 : Option Value} {x w : Int} (hI : Inv S) (hrn : rng x) (hrn2 : rng w) (h1 : lhP ad (peC S x ∧ (0 ≤ w ∧ w < S (10 + x.toNat) 0 2)) (maC S (10 + x.toNat) w ∧ tsC S (10 + x.toNat) w) (True) S (st (wvS S (10 + x.toNat) w) 3 1 0 (wr (S (10 + x.toNat) 4 w))) r1 ad1 S1) (h2 : (wqP ad1 S1 x w) r2 ad2 S2) : Gd ad (thr (peC S x ∧ (0 ≤ w ∧ w < S (10 + x.toNat) 0 2)) (maC S (10 + x.toNat) w ∧ tsC S (10 + x.toNat) w) (True)) r2 ad2 S2 := by
  have e0 := lhP_0 h1 zk_weave.1
  have ek := (lhP_k h1).2
  have hAe : peC S x ∧ (0 ≤ w ∧ w < S (10 + x.toNat) 0 2) ↔ isP S x ∧ (0 ≤ w ∧ w ≤ S 0 18 x - 1) := by
    rw [hI.pe]
    refine and_congr_right (fun y => ?_)
    obtain ⟨⟨-, -, -, g2, -⟩, -⟩ := hI.ip y
    rw [g2]
    omega
  have hlt := hI.m.lt
  obtain ⟨hda, h2⟩ := h2
  rw [hda]
  rcases h2 with ⟨n1, h4, h5⟩ | ⟨n1, n2, h4, h5⟩ | ⟨n1, n2, G, n3, h4, h5⟩
  · rw [isP_e e0, e0] at n1
    have hA := fun y => n1 (hAe.mp y)
    rw [thr_1 hA]
    rcases h1.2 with ⟨hn, ha, hs⟩ | ⟨hc, ha, hs⟩
    · rw [hs] at h5
      rw [h5]
      exact ⟨⟨0, h4, fun h => absurd h (by decide)⟩, by rw [st_at, if_pos ⟨rfl, rfl, rfl⟩], hI.s27 _, ek⟩
    · exact absurd hc.1 hA
  · rw [isP_e e0, e0] at n1
    have hA := hAe.mpr n1
    have hB : ¬ (maC S (10 + x.toNat) w ∧ tsC S (10 + x.toNat) w) := by
      rintro ⟨hma, hts⟩
      have hmw := (ma_eq hI n1.1 ⟨n1.2.1, by omega⟩).mp hma
      rcases n2 with n2 | ⟨G, c, c0, c1, k1, k2⟩
      · exact n2 (by unfold mwM; rw [e0]; exact hmw)
      · have k1 := wvG_e e0 k1
        rw [gvM_e (wvF_e e0 _ _ _ _ _)] at k2
        rw [e0] at c0 c1 k1 k2
        obtain ⟨r, hr⟩ : ∃ r, S 0 20 (4 * x + w) = r := ⟨_, rfl⟩
        obtain ⟨f, hf⟩ : ∃ f, w * S 0 21 x / S 0 18 x = f := ⟨_, rfl⟩
        obtain ⟨t, ht⟩ : ∃ t, (w + 1) * S 0 21 x / S 0 18 x = t := ⟨_, rfl⟩
        obtain ⟨⟨d1, d2, d3, d4, d5, d6⟩, d7, d8, d9, d10⟩ := wv_core hI n1.1 ⟨n1.2.1, by omega⟩ hr (by rw [← hr]; exact hmw.1) hf ht
        rw [hf] at c0 k1 k2
        rw [ht] at c1
        rw [hr] at k1 k2
        obtain ⟨-, v0, v1⟩ := d10 c c0 c1
        have hle := hts (S 0 25 (240 * x + 10 * c + r)) v0 (by omega)
        rw [th_eq hI G f, rm_tot (by omega) k1 c0] at hle
        unfold niC at hle
        rw [d7, d8, d9] at hle
        have e1 : sm (fun i => b2 (S (10 + x.toNat) 5 (r * 24 + (f + i)) = S 0 25 (240 * x + 10 * c + r))) (t - f).toNat = sm (fun i => b2 (S 0 25 (240 * x + 10 * (f + i) + r) = S 0 25 (240 * x + 10 * c + r))) (t - f).toNat := sm_c (fun i i0 i1 => by rw [(d10 (f + i) (by omega) (by omega)).1])
        rw [e1] at hle
        have e2 := sm_le (f := fun i => b2 (S 0 25 (240 * x + 10 * (f + i) + r) = S 0 25 (240 * x + 10 * c + r))) (n := (c - f + 1).toNat) (m := (t - f).toNat) (by omega) (fun i _ _ => (b2_b _).1)
        rw [sm_1 _ (by omega), show f + (c - f) = c by omega, b2_t rfl] at e2
        have e3 : rmT S G f c (S 0 25 (240 * x + 10 * c + r)) ≤ 0 := by
          unfold rmT
          have hz := sm_ge (f := fun j => cif (S 0 10 j = S 0 25 (240 * x + 10 * c + r)) (S 0 12 j - cn G j f c) 0) (g := fun _ => 0) (n := (S 0 0 8).toNat) (fun j j0 j1 => by
            by_cases hp : S 0 10 j = S 0 25 (240 * x + 10 * c + r)
            · rw [cif_t hp]
              unfold gvM at k2
              rw [wvF_o _ _ _ _ _ _ (by decide)] at k2
              have hno := gf_no _ _ (Int.le_refl 0) k2 j j0 (by omega)
              unfold gvP at hno
              rw [wvF_o _ _ _ _ _ _ (by decide), wvF_12] at hno
              exact Int.not_lt.mp (fun y => hno ⟨hp, y⟩)
            · rw [cif_f hp]; exact Int.le_refl _)
          rw [sm_zero] at hz
          exact hz
        omega
    rw [thr_2 hA hB]
    rcases h1.2 with ⟨hn, ha, hs⟩ | ⟨hc, ha, hs⟩
    · rw [hs] at h5
      rw [h5]
      exact ⟨⟨0, h4, fun h => absurd h (by decide)⟩, by rw [st_at, if_pos ⟨rfl, rfl, rfl⟩], hI.s27 _, ek⟩
    · exact absurd hc.2.1 hB
  · rw [isP_e e0, e0] at n1
    have hA := hAe.mpr n1
    have hmw : mwM S x w := by unfold mwM at n2 ⊢; rw [e0] at n2; exact n2
    have hma := (ma_eq hI n1.1 ⟨n1.2.1, by omega⟩).mpr hmw
    have n3 := wvG_e e0 n3
    rw [e0] at n3 h4 h5
    obtain ⟨r, hr⟩ : ∃ r, S 0 20 (4 * x + w) = r := ⟨_, rfl⟩
    obtain ⟨f, hf⟩ : ∃ f, w * S 0 21 x / S 0 18 x = f := ⟨_, rfl⟩
    obtain ⟨t, ht⟩ : ∃ t, (w + 1) * S 0 21 x / S 0 18 x = t := ⟨_, rfl⟩
    obtain ⟨⟨d1, d2, d3, d4, d5, d6⟩, d7, d8, d9, d10⟩ := wv_core hI n1.1 ⟨n1.2.1, by omega⟩ hr (by rw [← hr]; exact hmw.1) hf ht
    rw [hf, ht, hr] at n3 h5
    rw [hr] at h4
    have hrl : r < S 0 17 x := by rw [← hr]; exact hmw.1
    have hge : ∀ k, 0 ≤ k → k < 20 → 0 ≤ S 0 12 k - cn G k f t := fun k k0 k1 => ch_ge (by omega) n3 d4 (hI.hla k k0 k1).1
    have hts : tsC S (10 + x.toNat) w := by
      intro v v0 v1
      rw [th_eq hI G f, rm_tot (by omega) n3 d4]
      unfold niC
      rw [d7, d8, d9]
      have e1 : sm (fun i => b2 (S (10 + x.toNat) 5 (r * 24 + (f + i)) = v)) (t - f).toNat = sm (fun i => b2 (S 0 25 (240 * x + 10 * (f + i) + r) = v)) (t - f).toNat := sm_c (fun i i0 i1 => by rw [(d10 (f + i) (by omega) (by omega)).1])
      rw [e1]
      have e3 : 0 ≤ rmT S G f t v := by
        unfold rmT
        have hz := sm_ge (f := fun _ => 0) (g := fun j => cif (S 0 10 j = v) (S 0 12 j - cn G j f t) 0) (n := (S 0 0 8).toNat) (fun j j0 j1 => by
          by_cases hp : S 0 10 j = v
          · rw [cif_t hp]; exact hge j j0 (by omega)
          · rw [cif_f hp]; exact Int.le_refl _)
        rw [sm_zero] at hz
        exact hz
      omega
    rw [thr_0 hA ⟨hma, hts⟩ trivial]
    rcases h1.2 with ⟨hn, ha, hs⟩ | ⟨hc, ha, hs⟩
    · exact absurd ⟨hA, ⟨hma, hts⟩, trivial⟩ hn
    · unfold wvS at hs
      rw [d7, d8, d9] at hs
      have hx := n1.1
      have hx20 := hI.x20 hx
      have hp := hI.m.pc x hx20.1 hx20.2
      obtain ⟨hR, hX, hY, hQ⟩ := hI.ip hx
      obtain ⟨ga, g0, g1, g2, hW, hH, h4', h7', h8'⟩ := id hR
      have hd := wrI_d hI.l.1 ⟨hlt.1, hlt.2⟩ (fun j j0 j1 => ⟨(hI.l.2 j j0 j1).1, (hI.l.2 j j0 j1).2.2.1⟩) (o := 10 + x.toNat) (by omega) n3 (fun j j0 j1 => (d10 j j0 j1).1) (t - f).toNat (by omega)
      rw [show f + ((t - f).toNat : Int) = t by omega] at hd
      have hin : ∀ j, f ≤ j → j < t → 0 ≤ G j ∧ G j < S 0 0 8 ∧ S 0 10 (G j) = S 0 25 (240 * x + 10 * j + r) := fun j j0 j1 => by
        obtain ⟨u1, u2, u3, -⟩ := ch_in (by omega) n3 j0 j1
        exact ⟨u1, u2, u3⟩
      have hcz : ∀ k, S 0 0 8 ≤ k → cn G k f t = 0 := fun k k0 => by
        unfold cn
        refine sm_0z (fun i i0 i1 => b2_f ?_)
        have := hin (f + i) (by omega) (by omega)
        omega
      have hcn0 : ∀ k, 0 ≤ cn G k f t := fun k => (cn_b G k d4).1
      have e12 : ∀ i, S1 0 12 i = S 0 12 i := fun i => by rw [e0]
      have q : ∀ (a b : Nat) (i : Int), S2 a b i = if a = 0 ∧ b = 20 ∧ i = 4 * x + w then r + 1 else if a = 0 ∧ b = 0 ∧ i = 27 then 0 else if a = 0 ∧ b = 12 then S 0 12 i - cn G i f t else if a = 0 ∧ b = 26 ∧ 240 * x + 10 * f ≤ i ∧ i < 240 * x + 10 * t ∧ (i - 240 * x) % 10 = r then G ((i - 240 * x) / 10) else if a = 0 ∧ b = 27 ∧ 240 * x + 10 * f ≤ i ∧ i < 240 * x + 10 * t ∧ (i - 240 * x) % 10 = r then 100 else if a = 3 ∧ b = 1 ∧ i = 0 then wr r else if a = 10 + x.toNat ∧ b = 4 ∧ i = w then r + 1 else if a = 2 ∧ b = 4 then S 2 4 i - cn G i f t else if a = 10 + x.toNat ∧ b = 6 ∧ r * 24 + f ≤ i ∧ i < r * 24 + t then G (i - r * 24) else if a = 10 + x.toNat ∧ b = 7 ∧ r * 24 + f ≤ i ∧ i < r * 24 + t then 100 else S a b i := by
        intro a b i
        rw [h5, st_at]
        by_cases z1 : a = 0 ∧ b = 20 ∧ i = 4 * x + w
        · rw [if_pos z1, if_pos z1]
        rw [if_neg z1, if_neg z1, st_at]
        by_cases z2 : a = 0 ∧ b = 0 ∧ i = 27
        · rw [if_pos z2, if_pos z2]
        rw [if_neg z2, if_neg z2]
        by_cases z3 : a = 0 ∧ b = 12
        · rw [if_pos z3, z3.1, z3.2, wvF_12, e12]
        rw [if_neg z3]
        by_cases z4 : a = 0 ∧ b = 26 ∧ 240 * x + 10 * f ≤ i ∧ i < 240 * x + 10 * t ∧ (i - 240 * x) % 10 = r
        · rw [if_pos z4, z4.1, z4.2.1, wvF_26 z4.2.2]
        rw [if_neg z4]
        by_cases z5 : a = 0 ∧ b = 27 ∧ 240 * x + 10 * f ≤ i ∧ i < 240 * x + 10 * t ∧ (i - 240 * x) % 10 = r
        · rw [if_pos z5, z5.1, z5.2.1, wvF_27 z5.2.2]
        rw [if_neg z5, wvF_n z3 (fun y => by
          rcases y.2.1 with h | h
          · exact z4 ⟨y.1, h, y.2.2⟩
          · exact z5 ⟨y.1, h, y.2.2⟩), hs, st_at]
        by_cases z6 : a = 3 ∧ b = 1 ∧ i = 0
        · rw [if_pos z6, if_pos z6]
        rw [if_neg z6, if_neg z6, st_at]
        by_cases z7 : a = 10 + x.toNat ∧ b = 4 ∧ i = w
        · rw [if_pos z7, if_pos z7]
        rw [if_neg z7, if_neg z7, hd]
      clear h5 hd
      refine ⟨⟨_, h4, fun _ => by rw [q 3 1 0, if_neg (by omega), if_neg (by omega), if_neg (by omega), if_neg (by omega), if_neg (by omega), if_pos ⟨rfl, rfl, rfl⟩]⟩, by rw [q 0 0 27, if_neg (by omega), if_pos ⟨rfl, rfl, rfl⟩], ?_, ek⟩
      have qn : ∀ (a b : Nat) (i : Int), ¬ (a = 0 ∧ b = 20 ∧ i = 4 * x + w) → ¬ (a = 0 ∧ b = 0 ∧ i = 27) → ¬ (a = 0 ∧ b = 12) → ¬ (a = 0 ∧ (b = 26 ∨ b = 27) ∧ wvR x r f t i) → ¬ (a = 3 ∧ b = 1 ∧ i = 0) → ¬ (a = 10 + x.toNat ∧ b = 4 ∧ i = w) → ¬ (a = 2 ∧ b = 4) → ¬ (a = 10 + x.toNat ∧ (b = 6 ∨ b = 7) ∧ r * 24 + f ≤ i ∧ i < r * 24 + t) → S2 a b i = S a b i := fun a b i y1 y2 y3 y4 y5 y6 y7 y8 => by
        rw [q, if_neg y1, if_neg y2, if_neg y3, if_neg (fun y => y4 ⟨y.1, Or.inl y.2.1, y.2.2⟩), if_neg (fun y => y4 ⟨y.1, Or.inr y.2.1, y.2.2⟩), if_neg y5, if_neg y6, if_neg y7, if_neg (by omega), if_neg (by omega)]
      have e26 : ∀ i, wvR x r f t i → S2 0 26 i = G ((i - 240 * x) / 10) := fun i z => by rw [q, if_neg (by omega), if_neg (by omega), if_neg (by omega), if_pos ⟨rfl, rfl, z⟩]
      have e27 : ∀ i, wvR x r f t i → S2 0 27 i = 100 := fun i z => by rw [q, if_neg (by omega), if_neg (by omega), if_neg (by omega), if_neg (by omega), if_pos ⟨rfl, rfl, z⟩]
      have f12 : ∀ i, S2 0 12 i = S 0 12 i - cn G i f t := fun i => by rw [q, if_neg (by omega), if_neg (by omega), if_pos ⟨rfl, rfl⟩]
      have f24 : ∀ i, S2 2 4 i = S 2 4 i - cn G i f t := fun i => by rw [q, if_neg (by omega), if_neg (by omega), if_neg (by omega), if_neg (by omega), if_neg (by omega), if_neg (by omega), if_neg (by omega), if_pos ⟨rfl, rfl⟩]
      have f20 : S2 0 20 (4 * x + w) = r + 1 := by rw [q, if_pos ⟨rfl, rfl, rfl⟩]
      have f4 : S2 (10 + x.toNat) 4 w = r + 1 := by rw [q, if_neg (by omega), if_neg (by omega), if_neg (by omega), if_neg (by omega), if_neg (by omega), if_neg (by omega), if_pos ⟨rfl, rfl, rfl⟩]
      have f6 : ∀ i, r * 24 + f ≤ i → i < r * 24 + t → S2 (10 + x.toNat) 6 i = G (i - r * 24) := fun i i0 i1 => by rw [q, if_neg (by omega), if_neg (by omega), if_neg (by omega), if_neg (by omega), if_neg (by omega), if_neg (by omega), if_neg (by omega), if_neg (by omega), if_pos ⟨rfl, rfl, i0, i1⟩]
      have f7 : ∀ i, r * 24 + f ≤ i → i < r * 24 + t → S2 (10 + x.toNat) 7 i = 100 := fun i i0 i1 => by rw [q, if_neg (by omega), if_neg (by omega), if_neg (by omega), if_neg (by omega), if_neg (by omega), if_neg (by omega), if_neg (by omega), if_neg (by omega), if_neg (by omega), if_pos ⟨rfl, rfl, i0, i1⟩]
      clear q
      have hL : lgr S S2 := lgr_e (fun b i z => qn 0 b i (by omega) (by omega) (by omega) (by omega) (by omega) (by omega) (by omega) (by omega))
      have qo : ∀ (a b : Nat) (i : Int), ¬ (a = 0 ∧ (b = 20 ∨ b = 12 ∨ b = 26 ∨ b = 27)) → ¬ (a = 0 ∧ b = 0 ∧ i = 27) → ¬ (a = 3 ∧ b = 1 ∧ i = 0) → ¬ (a = 10 + x.toNat ∧ (b = 4 ∨ b = 6 ∨ b = 7)) → ¬ (a = 2 ∧ b = 4) → S2 a b i = S a b i := fun a b i y1 y2 y3 y4 y5 => qn a b i (by omega) (by omega) (by omega) (by omega) (by omega) (by omega) (by omega) (by omega)
      refine ⟨⟨by rw [qo _ _ _ (by omega) (by omega) (by omega) (by omega) (by omega)]; exact hI.m.al, by rw [qo _ _ _ (by omega) (by omega) (by omega) (by omega) (by omega)]; exact hI.m.le, by rw [qo _ _ _ (by omega) (by omega) (by omega) (by omega) (by omega)]; exact hI.m.cs, by rw [qo _ _ _ (by omega) (by omega) (by omega) (by omega) (by omega)]; exact hI.m.lt, by rw [qo _ _ _ (by omega) (by omega) (by omega) (by omega) (by omega)]; exact hI.m.ps, fun y h0 h1 => by rw [qo 0 4 _ (by omega) (by omega) (by omega) (by omega) (by omega), qo 0 5 _ (by omega) (by omega) (by omega) (by omega) (by omega)]; exact hI.m.cw y h0 h1, fun y h0 h1 => by rw [qo 0 16 _ (by omega) (by omega) (by omega) (by omega) (by omega), qo 0 17 _ (by omega) (by omega) (by omega) (by omega) (by omega), qo 0 18 _ (by omega) (by omega) (by omega) (by omega) (by omega), qo 0 21 _ (by omega) (by omega) (by omega) (by omega) (by omega)]; exact hI.m.pc y h0 h1, fun y h0 h1 => by rw [qo 0 0 14 (by omega) (by omega) (by omega) (by omega) (by omega)] at h1; rw [qo 0 17 _ (by omega) (by omega) (by omega) (by omega) (by omega)]; exact hI.m.pr y h0 h1, fun y h0 h1 => ?_⟩, ⟨by rw [qo _ _ _ (by omega) (by omega) (by omega) (by omega) (by omega)]; exact hI.a1, by rw [qo _ _ _ (by omega) (by omega) (by omega) (by omega) (by omega)]; exact hI.a2, by rw [qo _ _ _ (by omega) (by omega) (by omega) (by omega) (by omega)]; exact hI.a3⟩, iW_keep hI.w (fun a b i z => qo a b i (by omega) (by omega) (by omega) (by omega) (by omega)), iCs_keep hI.c hI.m (fun a b i z => qo a b i (by omega) (by omega) (by omega) (by omega) (by omega)), ⟨by rw [qo 2 0 0 (by omega) (by omega) (by omega) (by omega) (by omega), qo 0 0 8 (by omega) (by omega) (by omega) (by omega) (by omega)]; exact hI.l.1, fun j j0 j1 => ?_⟩, iPs_one (x := x) hI.p hI.m hL (fun a b i z => qn a b i (by omega) (by omega) (by omega) (by unfold wvR; omega) (by omega) (by omega) (by omega) (by omega)) hx ?_⟩
      · by_cases hy : y = 4 * x + w
        · rw [hy, f20]; omega
        · rw [qn 0 20 y (by omega) (by omega) (by omega) (by omega) (by omega) (by omega) (by omega) (by omega)]
          exact hI.m.wv y h0 h1
      · rw [qo 2 2 j (by omega) (by omega) (by omega) (by omega) (by omega), qo 2 3 j (by omega) (by omega) (by omega) (by omega) (by omega), qo 2 5 j (by omega) (by omega) (by omega) (by omega) (by omega), qo 2 6 j (by omega) (by omega) (by omega) (by omega) (by omega), f24, f12, qo 0 10 j (by omega) (by omega) (by omega) (by omega) (by omega), qo 0 11 j (by omega) (by omega) (by omega) (by omega) (by omega), qo 0 13 j (by omega) (by omega) (by omega) (by omega) (by omega), qo 0 14 j (by omega) (by omega) (by omega) (by omega) (by omega), qo 0 0 8 (by omega) (by omega) (by omega) (by omega) (by omega)]
        obtain ⟨u1, u2, u3, u4, u5, u6, u7, u8, u9, u10⟩ := hI.l.2 j j0 j1
        have v1 := hge j j0 j1
        have v2 := hcn0 j
        exact ⟨u1, u2, by rw [u3], u4, u5, u6, u7, by omega, u9, fun z => by
          have v3 := hcz j z
          obtain ⟨w1, w2⟩ := u10 z
          omega⟩
      · have hx16 : S2 0 16 x = S 0 16 x := qo _ _ _ (by omega) (by omega) (by omega) (by omega) (by omega)
        have hx17 : S2 0 17 x = S 0 17 x := qo _ _ _ (by omega) (by omega) (by omega) (by omega) (by omega)
        have hx18 : S2 0 18 x = S 0 18 x := qo _ _ _ (by omega) (by omega) (by omega) (by omega) (by omega)
        have hx21 : S2 0 21 x = S 0 21 x := qo _ _ _ (by omega) (by omega) (by omega) (by omega) (by omega)
        refine ⟨⟨by rw [qo _ _ _ (by omega) (by omega) (by omega) (by omega) (by omega)]; exact ga, by rw [qo _ 0 _ (by omega) (by omega) (by omega) (by omega) (by omega), hx16]; exact g0, by rw [qo _ 0 _ (by omega) (by omega) (by omega) (by omega) (by omega), hx17]; exact g1, by rw [qo _ 0 _ (by omega) (by omega) (by omega) (by omega) (by omega), hx18]; exact g2, by rw [hx16]; exact hW, by rw [hx17]; exact hH, fun y y0 y1 => ?_, fun j j0 j1 => ?_, fun j j0 j1 => by rw [qo _ 8 _ (by omega) (by omega) (by omega) (by omega) (by omega)]; exact h8' j j0 j1⟩, fun c k c0 c1 k0 k1 => ?_, fun c c0 c1 => ?_, ?_⟩
        · by_cases hy : y = w
          · rw [hy, f4, f20]
          · rw [qn _ 4 y (by omega) (by omega) (by omega) (by omega) (by omega) (by omega) (by omega) (by omega), qn 0 20 _ (by omega) (by omega) (by omega) (by omega) (by omega) (by omega) (by omega) (by omega)]
            exact h4' y y0 y1
        · by_cases hj : r * 24 + f ≤ j ∧ j < r * 24 + t
          · rw [f7 j hj.1 hj.2]; decide
          · rw [qn _ 7 j (by omega) (by omega) (by omega) (by omega) (by omega) (by omega) (by omega) (by omega)]
            exact h7' j j0 j1
        · rw [hx16] at c1
          rw [hx17] at k1
          obtain ⟨a1, a2, a3, a4⟩ := hX c k c0 c1 k0 k1
          rw [qo _ 5 _ (by omega) (by omega) (by omega) (by omega) (by omega), qo 0 25 _ (by omega) (by omega) (by omega) (by omega) (by omega)]
          by_cases hj : k = r ∧ f ≤ c ∧ c < t
          · have hj1 := hj.1
            have hR2 : wvR x r f t (240 * x + 10 * c + k) := by unfold wvR; omega
            have hg := hin c hj.2.1 hj.2.2
            rw [f6 _ (by omega) (by omega), f7 _ (by omega) (by omega), e26 _ hR2, e27 _ hR2, show k * 24 + c - r * 24 = c by omega, show (240 * x + 10 * c + k - 240 * x) / 10 = c by omega]
            refine ⟨a1, rfl, rfl, ⟨a4.1, Or.inr ⟨hg.1, ?_, ?_⟩⟩⟩
            · rw [qo 0 0 8 (by omega) (by omega) (by omega) (by omega) (by omega)]; exact hg.2.1
            · rw [qo 0 10 _ (by omega) (by omega) (by omega) (by omega) (by omega), hg.2.2, hj1]
          · have hR2 : ¬ wvR x r f t (240 * x + 10 * c + k) := by unfold wvR; omega
            rw [qn _ 6 _ (by omega) (by omega) (by omega) (by omega) (by omega) (by omega) (by omega) (by omega), qn _ 7 _ (by omega) (by omega) (by omega) (by omega) (by omega) (by omega) (by omega) (by omega), qn 0 26 _ (by omega) (by omega) (by omega) (fun y => hR2 y.2.2) (by omega) (by omega) (by omega) (by omega), qn 0 27 _ (by omega) (by omega) (by omega) (fun y => hR2 y.2.2) (by omega) (by omega) (by omega) (by omega)]
            exact ⟨a1, a2, a3, okc_keep hL a4⟩
        · rw [hx16] at c1
          rw [qo _ 8 _ (by omega) (by omega) (by omega) (by omega) (by omega), qo _ 9 _ (by omega) (by omega) (by omega) (by omega) (by omega), qo 0 22 _ (by omega) (by omega) (by omega) (by omega) (by omega), qo 0 23 _ (by omega) (by omega) (by omega) (by omega) (by omega), qo 0 24 _ (by omega) (by omega) (by omega) (by omega) (by omega)]
          exact hY c c0 c1
        · unfold pQ
          rw [hx16, hx17, hx18, hx21]
          rcases hQ with ⟨hdn, -⟩ | ⟨q1, q2, q3, q4, q5, q6⟩
          · have := hdn w n1.2.1 (by omega)
            omega
          · refine Or.inr ⟨q1, q2, q3, q4, fun y y0 y1 => ?_, fun y c k y0 y1 c0 c1 k0 k1 => ?_⟩
            · by_cases hy : y = w
              · rw [hy, f20]; omega
              · rw [qn 0 20 _ (by omega) (by omega) (by omega) (by omega) (by omega) (by omega) (by omega) (by omega)]
                exact q5 y y0 y1
            · have hb := dvb y0 y1 hp.2.2.2.2.2.1 (show 0 ≤ S 0 21 x by omega) (show S 0 21 x ≤ 12 by omega)
              have q7 := q6 y c k y0 y1 c0 c1 k0 k1
              by_cases hy : y = w
              · rw [hy] at q7 c0 c1 ⊢
                rw [f20]
                rw [hr] at q7
                rw [hf] at c0
                rw [ht] at c1
                by_cases hk : k = r
                · have hR2 : wvR x r f t (240 * x + 10 * c + k) := by unfold wvR; omega
                  have hg := hin c c0 c1
                  rw [e26 _ hR2, show (240 * x + 10 * c + k - 240 * x) / 10 = c by omega]
                  constructor
                  · intro _; omega
                  · intro _; omega
                · have hR2 : ¬ wvR x r f t (240 * x + 10 * c + k) := by unfold wvR; omega
                  rw [qn 0 26 _ (by omega) (by omega) (by omega) (fun y => hR2 y.2.2) (by omega) (by omega) (by omega) (by omega)]
                  rw [q7]
                  omega
              · have hdis : c < f ∨ t ≤ c := by
                  by_cases hyw : y < w
                  · left
                    have h1 : (y + 1) * S 0 21 x / S 0 18 x ≤ w * S 0 21 x / S 0 18 x := Int.ediv_le_ediv (by omega) (Int.mul_le_mul_of_nonneg_right (by omega) (by omega))
                    omega
                  · right
                    have h1 : (w + 1) * S 0 21 x / S 0 18 x ≤ y * S 0 21 x / S 0 18 x := Int.ediv_le_ediv (by omega) (Int.mul_le_mul_of_nonneg_right (by omega) (by omega))
                    omega
                have hR2 : ¬ wvR x r f t (240 * x + 10 * c + k) := by unfold wvR; omega
                rw [qn 0 26 _ (by omega) (by omega) (by omega) (fun y => hR2 y.2.2) (by omega) (by omega) (by omega) (by omega), qn 0 20 _ (by omega) (by omega) (by omega) (by omega) (by omega) (by omega) (by omega) (by omega)]
                exact q7
