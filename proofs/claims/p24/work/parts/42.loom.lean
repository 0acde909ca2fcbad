/-! ===== a piece begun ===== -/
def trC (S : St) (o : Nat) : Prop := ∀ j, 1 ≤ j → j < S o 0 0 → S o 8 (j - 1) + 1 = S o 8 j
theorem dcF_b {S : St} {o : Nat} {r c : Int} (h : carK S o) (r0 : 0 ≤ r) (r1 : r < S o 0 1) (c0 : 0 ≤ c) (c1 : c < S o 0 0) : 0 ≤ dcF S o r c ∧ dcF S o r c ≤ 5 := by
  obtain ⟨-, a, b, d⟩ := h
  have e := d r c r0 r1 c0 c1
  unfold dcF
  by_cases q : S o 3 (r * 12 + c) = 6
  · rw [cif_t q]
    by_cases q2 : (r + c) % 2 = 0
    · rw [cif_t q2]; exact a
    · rw [cif_f q2]; exact b
  · rw [cif_f q]; omega
theorem dcF_k {S S' : St} {o : Nat} (e : S' o = S o) (r c : Int) : dcF S' o r c = dcF S o r c := by
  unfold dcF
  rw [e]
theorem lm_q {S : St} {x n : Int} {mir : Prop} {o k : Nat} (ho : 10 + (S 1 0 6).toNat = o) (hk : 4 + x.toNat = k) (hok : k ≠ o) (a b : Nat) (i : Int) : lmS S x n mir a b i = if a = 1 ∧ b = 0 ∧ i = 6 then S 1 0 6 + 1 else if a = 1 ∧ b = 6 ∧ i = S 1 0 6 then 1 else
    dfF (nwS S o (fun i => if i = -1 then 1 else if i = 1 then S k 0 1 else if i = 2 then n else 0)) o k mir (S 1 0 6) (S k 0 1) (S k 0 0) 0 (S k 0 0) a b i := by
  unfold lmS
  rw [st_at, st_at, ho, hk]
theorem IV_loom {S : St} {x n : Int} {mir : Prop} (h : IV S) (hx : ceC S x) (hn : 1 ≤ n ∧ n ≤ 4 ∧ n ≤ S (4 + x.toNat) 0 0) (hh : 1 ≤ S (4 + x.toNat) 0 1 ∧ S 1 0 6 < 20) :
    IV (lmS S x n mir) ∧ (lmS S x n mir 1 0 6 = S 1 0 6 + 1 ∧ lmS S x n mir 1 6 (S 1 0 6) = 1 ∧ (∀ a b i, a ≠ 10 + (S 1 0 6).toNat → ¬ (a = 1 ∧ (b = 6 ∨ (b = 0 ∧ i = 6))) → lmS S x n mir a b i = S a b i)) ∧ trC (lmS S x n mir) (10 + (S 1 0 6).toNat) ∧ lnC (lmS S x n mir) (10 + (S 1 0 6).toNat) (4 + x.toNat) = S (4 + x.toNat) 0 0 * S (4 + x.toNat) 0 1 := by
  have hx' := h.ce.mp hx
  have hK := h.k.2.2 x hx'.1 hx'.2
  obtain ⟨⟨c1, c2, c3⟩, c4, c5, c6⟩ := id hK
  have hc5 := h.k.1
  have hp := h.p.1
  obtain ⟨o, ho⟩ : ∃ o : Nat, 10 + (S 1 0 6).toNat = o := ⟨_, rfl⟩
  obtain ⟨k, hk⟩ : ∃ k : Nat, 4 + x.toNat = k := ⟨_, rfl⟩
  have q := lm_q (S := S) (x := x) (n := n) (mir := mir) ho hk (by omega)
  rw [ho, hk]
  rw [hk] at hn hh c1 c2 c3 c4 c5 c6 hK
  generalize lmS S x n mir = S' at q ⊢
  have g6 : S' 1 0 6 = S 1 0 6 + 1 := by rw [q, if_pos ⟨rfl, rfl, rfl⟩]
  have g7 : ∀ i : Int, S' 1 6 i = if i = S 1 0 6 then 1 else S 1 6 i := fun i => by
    rw [q, if_neg (by omega)]
    by_cases hi : i = S 1 0 6
    · rw [if_pos ⟨rfl, rfl, hi⟩, if_pos hi]
    · rw [if_neg (by omega), if_neg hi, dfF_x (by omega), nwS_n (by omega)]
  have e : ∀ (a b : Nat) (i : Int), a ≠ o → ¬ (a = 1 ∧ (b = 6 ∨ (b = 0 ∧ i = 6))) → S' a b i = S a b i := fun a b i h1 h2 => by rw [q, if_neg (by omega), if_neg (by omega), dfF_x h1, nwS_n h1]
  have g0 : S' o 0 0 = S k 0 0 := by rw [q, if_neg (by omega), if_neg (by omega), dfF_0, nwS_n (by omega)]
  have gf : ∀ i : Int, i ≠ 0 → S' o 0 i = if i = -1 then 1 else if i = 1 then S k 0 1 else if i = 2 then n else 0 := fun i hi => by rw [q, if_neg (by omega), if_neg (by omega), dfF_o (by omega) (by omega), nwS_0]
  have g1 : S' o 0 1 = S k 0 1 := by rw [gf 1 (by omega), if_neg (by omega), if_pos rfl]
  have g2 : S' o 0 2 = n := by rw [gf 2 (by omega), if_neg (by omega), if_neg (by omega), if_pos rfl]
  have ga : S' o 0 (-1) = 1 := by rw [gf (-1) (by omega), if_pos rfl]
  have g8 : ∀ i : Int, S' o 8 i = if 0 ≤ i ∧ i < S k 0 0 then S 1 0 6 * 24 + i else 0 := fun i => by
    rw [q, if_neg (by omega), if_neg (by omega)]
    unfold dfF
    rw [if_neg (by omega)]
    by_cases hi : 0 ≤ i ∧ i < S k 0 0
    · rw [if_pos ⟨rfl, rfl, hi.1, hi.2⟩, if_pos hi]
    · rw [if_neg (by omega), if_neg (by omega), if_neg (by omega), if_neg hi, nwS_r (by omega)]
  have gz : ∀ (b : Nat) (i : Int), b ≠ 0 → b ≠ 5 → b ≠ 6 → b ≠ 8 → S' o b i = 0 := fun b i b0 b5 b6 b8 => by rw [q, if_neg (by omega), if_neg (by omega), dfF_o ⟨b5, b6, b8⟩ (by omega), nwS_r b0]
  have gin : ∀ r c, 0 ≤ r → r < S k 0 1 → 0 ≤ c → c < S k 0 0 → S' o 5 (r * 24 + c) = dcF S k r (cif mir (S k 0 0 - 1 - c) c) ∧ S' o 6 (r * 24 + c) = -1 := fun r c r0 r1 s0 s1 => by
    have hpc : pcd (S k 0 1) (S k 0 0) 0 (r * 24 + c) := by unfold pcd; omega
    constructor
    · rw [q, if_neg (by omega), if_neg (by omega)]
      unfold dfF
      rw [if_neg (by omega), if_neg (by omega), if_pos ⟨rfl, rfl, hpc⟩, show (r * 24 + c) / 24 = r by omega, show (r * 24 + c) % 24 = c by omega, dcF_k (fe (fun b i => nwS_n (by omega))), nwS_n (by omega)]
    · rw [q, if_neg (by omega), if_neg (by omega)]
      unfold dfF
      rw [if_neg (by omega), if_neg (by omega), if_neg (by omega), if_pos ⟨rfl, rfl, hpc⟩]
  clear q
  have e2 : S' 2 = S 2 := fe (fun b i => e _ _ _ (by omega) (by omega))
  have e10 : ∀ a : Nat, 10 ≤ a → a ≠ o → S' a = S a := fun a h1 h2 => fe (fun b i => e _ _ _ h2 (by omega))
  have ek : S' k = S k := fe (fun b i => e _ _ _ (by omega) (by omega))
  have hcif : ∀ c, 0 ≤ c → c < S k 0 0 → 0 ≤ cif mir (S k 0 0 - 1 - c) c ∧ cif mir (S k 0 0 - 1 - c) c < S k 0 0 := fun c s0 s1 => by
    by_cases hm : mir
    · rw [cif_t hm]; omega
    · rw [cif_f hm]; omega
  have hP : pkP S' o := by
    refine ⟨⟨ga, by rw [g0]; omega, by rw [g1]; omega, by rw [g2]; omega, fun j _ _ => by rw [gz 7 j (by omega) (by omega) (by omega) (by omega)]; decide, fun j j0 j1 => ?_, fun w _ _ => by rw [gz 4 w (by omega) (by omega) (by omega) (by omega)]; decide⟩, fun r c r0 r1 s0 s1 => ?_, Or.inr ⟨by rw [g2, g0]; omega, fun w _ _ => by rw [gz 4 w (by omega) (by omega) (by omega) (by omega), g1]; omega, fun w c r w0 w1 s0 s1 r0 r1 => ?_⟩⟩
    · rw [g8]
      by_cases hi : 0 ≤ j ∧ j < S k 0 0
      · rw [if_pos hi]; omega
      · rw [if_neg hi]; decide
    · rw [g1] at r1
      rw [g0] at s1
      obtain ⟨a1, a2⟩ := gin r c r0 r1 s0 s1
      rw [a1, a2, gz 7 _ (by omega) (by omega) (by omega) (by omega)]
      have hb := hcif c s0 s1
      exact ⟨dcF_b hK r0 r1 hb.1 hb.2, Or.inl ⟨rfl, rfl⟩⟩
    · have hb := fc_b w0 w1 (by rw [g2]; omega) (show 0 ≤ S' o 0 0 by rw [g0]; omega) (by rw [g0]; omega)
      rw [g1] at r1
      rw [g0] at hb
      rw [(gin r c r0 r1 (by omega) (by omega)).2, gz 4 w (by omega) (by omega) (by omega) (by omega)]
      omega
  refine ⟨⟨⟨by rw [e _ _ _ (by omega) (by omega)]; exact h.a.1, by rw [e2]; exact h.a.2.1, by rw [e _ _ _ (by omega) (by omega)]; exact h.a.2.2⟩, iW_k h.w (fun b i _ => e _ _ _ (by omega) (by omega)), iK_k h.k (fun b i _ => e _ _ _ (by omega) (by omega)) (fun a _ _ => fe (fun b i => e _ _ _ (by omega) (by omega))), iL_k h.l e2, iP_g h.p (lgr_e e2) (by rw [g6]; omega) (fun j hj => ?_) (fun y hy => ?_), fun j j0 j1 => ?_⟩, ⟨g6, by rw [g7, if_pos rfl], e⟩, fun j j0 j1 => ?_, ?_⟩
  · rw [g7] at hj
    rw [g6]
    by_cases hi : (j : Int) = S 1 0 6
    · omega
    · rw [if_neg hi] at hj
      have := h.hpf j hj
      omega
  · by_cases hyN : y = S 1 0 6
    · rw [hyN, ho]; exact Or.inr hP
    · unfold peC at hy
      rw [g7, if_neg hyN] at hy
      exact Or.inl ⟨hy, e10 _ (by omega) (by omega)⟩
  · rw [e2, tb_c (S := S) (fun y y0 y1 => ?_)]
    · exact h.b j j0 j1
    · by_cases hyN : y = S 1 0 6
      · rw [tbN_e, tbN_e, hyN, ho, cif_t (by rw [g7, if_pos rfl]), cif_f (fun t => by have := h.hpf (S 1 0 6).toNat (by rw [Int.toNat_of_nonneg hp.1]; exact t); omega)]
        unfold kcN
        rw [g0, g1]
        exact sm_0z (fun r r0 r1 => sm_0z (fun c s0 s1 => by
          show b2 (S' o 6 (r * 24 + c) = j) = 0
          rw [(gin r c r0 (by omega) s0 (by omega)).2]
          exact b2_f (by omega)))
      · exact tbN_k (by rw [g7, if_neg hyN]) (e10 _ (by omega) (by omega))
  · rw [g0] at j1
    rw [g8, g8, if_pos (by omega), if_pos (by omega)]
    omega
  · unfold lnC
    rw [cif_t (by rw [g0, g1, ek]; exact ⟨rfl, rfl⟩)]
    have hlk : ∀ m9 : Prop, lkC S' o k m9 = ss (fun r c => b2 (S' o 5 (r * 24 + c) = dcF S' k r (cif m9 (S' k 0 0 - 1 - c) c))) (S k 0 0) (S k 0 1) := fun m9 => by
      unfold lkC
      rw [s2_ss, g0, g1]
    have htop : ∀ m9 : Prop, lkC S' o k m9 ≤ S k 0 0 * S k 0 1 := fun m9 => by
      rw [hlk]
      exact (ss_top (by omega) (by omega)).2
    have hall : ∀ m9 : Prop, (m9 ↔ mir) → lkC S' o k m9 = S k 0 0 * S k 0 1 := fun m9 hm => by
      rw [hlk]
      refine (ss_full (φ := fun r c => S' o 5 (r * 24 + c) = dcF S' k r (cif m9 (S' k 0 0 - 1 - c) c)) (by omega) (by omega)).mpr (fun r c r0 r1 s0 s1 => ?_)
      show S' o 5 (r * 24 + c) = dcF S' k r (cif m9 (S' k 0 0 - 1 - c) c)
      rw [(gin r c r0 r1 s0 s1).1, dcF_k ek, ek, propext hm]
    have h1 := htop True
    have h2 := htop False
    by_cases hm : mir
    · have h3 := hall True ⟨fun _ => hm, fun _ => trivial⟩
      split <;> omega
    · have h3 := hall False ⟨fun f => f.elim, fun f => (hm f).elim⟩
      split <;> omega
