/-! ===== sewing, light, washing ===== -/
theorem pk_cell {S : St} {o : Nat} (h : pkP S o) (hd : dnC S o) {r c : Int} (r0 : 0 ≤ r) (r1 : r < S o 0 1) (c0 : 0 ≤ c) (c1 : c < S o 0 0) : 0 ≤ S o 6 (r * 24 + c) ∧ S o 6 (r * 24 + c) < S 2 0 0 := by
  have h1 := (h.2.1 r c r0 r1 c0 c1).2
  have h2 := (pk_dn h).mp hd r c r0 r1 c0 c1
  rcases h1 with ⟨t, -⟩ | ⟨t0, t1, -⟩
  · exact absurd t h2
  · exact ⟨t0, t1⟩
/-- a piece of which only what is sewn, and the shades, are written -/
theorem pk_7 {S S' : St} {o : Nat} (h : pkP S o) (hL : lgr S S') (e : ∀ (b : Nat) (i : Int), b ≠ 7 → b ≠ 9 → S' o b i = S o b i) (e7 : ∀ j, 0 ≤ j → j < 240 → 0 ≤ S' o 7 j ∧ S' o 7 j ≤ S o 7 j) : pkP S' o := by
  obtain ⟨⟨a1, a2, a3, a4, a5, a6, a7⟩, hC, hQ⟩ := h
  have e0 : ∀ i, S' o 0 i = S o 0 i := fun i => e 0 i (by decide) (by decide)
  refine ⟨⟨by rw [e0]; exact a1, by rw [e0]; exact a2, by rw [e0]; exact a3, by rw [e0]; exact a4, fun j j0 j1 => ?_, fun j j0 j1 => by rw [e 8 _ (by decide) (by decide)]; exact a6 j j0 j1, fun w w0 w1 => by rw [e 4 _ (by decide) (by decide)]; exact a7 w w0 w1⟩, fun r c r0 r1 c0 c1 => ?_, ?_⟩
  · have := a5 j j0 j1
    have := e7 j j0 j1
    omega
  · rw [e0] at r1 c1
    have h1 := hC r c r0 r1 c0 c1
    have h2 := e7 (r * 24 + c) (by omega) (by omega)
    rw [e 5 _ (by decide) (by decide), e 6 _ (by decide) (by decide)]
    refine okC_k hL ⟨h1.1, ?_⟩
    rcases h1.2 with ⟨t, u⟩ | ⟨t0, t1, t2, t3⟩
    · exact Or.inl ⟨t, by omega⟩
    · exact Or.inr ⟨t0, t1, t2, by omega, by omega⟩
  · have ef : ∀ w, fcC S' o w = fcC S o w := fun w => by unfold fcC; rw [e0, e0]
    rcases hQ with ⟨q1, q2⟩ | ⟨q1, q2, q3⟩
    · exact Or.inl ⟨fun w w0 w1 => by rw [e0] at w1; rw [e 4 _ (by decide) (by decide), e0]; exact q1 w w0 w1, fun r c r0 r1 c0 c1 => by rw [e0] at r1 c1; rw [e 6 _ (by decide) (by decide)]; exact q2 r c r0 r1 c0 c1⟩
    · refine Or.inr ⟨by rw [e0, e0]; exact q1, fun w w0 w1 => by rw [e0] at w1; rw [e 4 _ (by decide) (by decide), e0]; exact q2 w w0 w1, fun w c r w0 w1 c0 c1 r0 r1 => ?_⟩
      rw [e0] at w1 r1
      rw [ef] at c0 c1
      rw [e 6 _ (by decide) (by decide), e 4 _ (by decide) (by decide)]
      exact q3 w c r w0 w1 c0 c1 r0 r1
theorem IV_7 {S S' : St} {x : Int} (h : IV S) (hx : peC S x) (eo : ∀ (a b : Nat) (i : Int), ¬ (a = 10 + x.toNat ∧ (b = 7 ∨ b = 9)) → S' a b i = S a b i) (e7 : ∀ j, 0 ≤ j → j < 240 → 0 ≤ S' (10 + x.toNat) 7 j ∧ S' (10 + x.toNat) 7 j ≤ S (10 + x.toNat) 7 j) : IV S' := by
  have ea : ∀ a : Nat, a ≠ 10 + x.toNat → S' a = S a := fun a h1 => fe (fun b i => eo a b i (by omega))
  have e1 := ea 1 (by omega)
  have e2 := ea 2 (by omega)
  refine ⟨⟨by rw [e1]; exact h.a.1, by rw [e2]; exact h.a.2.1, by rw [ea 3 (by omega)]; exact h.a.2.2⟩, iW_k h.w (fun b i _ => by rw [e1]), iK_k h.k (fun b i _ => by rw [e1]) (fun a q1 q2 => ea a (by omega)), iL_k h.l e2, iP_1 h.p (lgr_e e2) hx.1 (fun b i _ => by rw [e1]) (fun a _ q2 => ea a q2) (pk_7 (h.pp hx) (lgr_e e2) (fun b i b7 b9 => eo _ _ _ (by omega)) e7), bal_1 h.b hx (fun i => by rw [e1]) (fun a _ q2 => ea a q2) (fun j _ _ => ?_)⟩
  rw [e2]
  have : kcN S' (10 + x.toNat) j = kcN S (10 + x.toNat) j := by
    unfold kcN
    rw [eo _ 0 0 (by omega), eo _ 0 1 (by omega)]
    exact ss_c (fun r c _ _ _ _ => by rw [eo _ 6 _ (by omega)])
  exact ⟨rfl, by rw [this]⟩
/-- where only what is sewn, and the shades, are written -/
theorem dn_7 {S S' : St} {o : Nat} (e : ∀ (b : Nat) (i : Int), b ≠ 7 → b ≠ 9 → S' o b i = S o b i) : dnC S' o ↔ dnC S o := by
  have : wnC S' o = wnC S o := by
    unfold wnC
    rw [s2_ss, s2_ss, e 0 0 (by decide) (by decide), e 0 1 (by decide) (by decide)]
    exact ss_c (fun r c _ _ _ _ => by rw [e 6 _ (by decide) (by decide)])
  unfold dnC
  rw [this, e 0 0 (by decide) (by decide), e 0 1 (by decide) (by decide)]
theorem sh_7 {S S' : St} {o : Nat} (h : pkP S o) (e : ∀ (b : Nat) (i : Int), b ≠ 7 → b ≠ 9 → S' o b i = S o b i) (e7 : ∀ j, 0 ≤ j → j < 240 → 0 ≤ S' o 7 j ∧ S' o 7 j ≤ S o 7 j) : 0 ≤ shC S' o ∧ shC S' o ≤ shC S o ∧ shC S o ≤ 24000 := by
  obtain ⟨⟨-, a2, a3, -, a5, -⟩, -⟩ := h
  unfold shC
  rw [s2_ss, s2_ss, e 0 0 (by decide) (by decide), e 0 1 (by decide) (by decide)]
  refine ⟨?_, ss_ge (fun r c r0 r1 c0 c1 => (e7 _ (by omega) (by omega)).2), ?_⟩
  · have h1 := ss_ge (F := fun _ _ => 0) (G := fun r c => S' o 7 (r * 24 + c)) (W := S o 0 0) (H := S o 0 1) (fun r c r0 r1 c0 c1 => (e7 _ (by omega) (by omega)).1)
    have h2 : ss (fun _ _ => 0) (S o 0 0) (S o 0 1) = 0 := sm_0z (fun r _ _ => sm_zero _)
    omega
  · exact (ss_b (F := fun r c => S o 7 (r * 24 + c)) (W := S o 0 0) (H := S o 0 1) (by omega) (by omega) 100 (by decide) (fun r c r0 r1 c0 c1 => a5 _ (by omega) (by omega))).2
theorem sh_b {S : St} {o : Nat} (h : pkP S o) : 0 ≤ shC S o ∧ shC S o ≤ 24000 := by
  have h1 := sh_7 (S' := S) h (fun _ _ _ _ => rfl) (fun j j0 j1 => ⟨(h.1.2.2.2.2.1 j j0 j1).1, Int.le_refl _⟩)
  exact ⟨h1.1, h1.2.2⟩
theorem lt_7 {S : St} {x t : Int} (h : IV S) (hx : peC S x) (hd : dnC S (10 + x.toNat)) (ht : 1 ≤ t) :
    (∀ (a b : Nat) (i : Int), ¬ (a = 10 + x.toNat ∧ (b = 7 ∨ b = 9)) → ltS S (10 + x.toNat) t a b i = S a b i) ∧ ∀ j, 0 ≤ j → j < 240 → 0 ≤ ltS S (10 + x.toNat) t (10 + x.toNat) 7 j ∧ ltS S (10 + x.toNat) t (10 + x.toNat) 7 j ≤ S (10 + x.toNat) 7 j := by
  have hP := h.pp hx
  obtain ⟨o, ho⟩ : ∃ o : Nat, 10 + x.toNat = o := ⟨_, rfl⟩
  rw [ho] at hP hd ⊢
  obtain ⟨⟨-, a2, a3, -, a5, -⟩, -⟩ := id hP
  refine ⟨fun a b i q => ?_, fun j j0 j1 => ?_⟩
  · unfold ltS
    exact clF_f (fun y => q ⟨y.1, Or.inl y.2.1⟩)
  · unfold ltS
    have h5 := a5 j j0 j1
    by_cases q : pcs (S o 0 0) (S o 0 1) 0 j
    · rw [clF_t q]
      unfold fdU
      unfold pcs at q
      have hc := pk_cell hP hd (r := j / 24) (c := j % 24) (by omega) (by omega) (by omega) (by omega)
      rw [show j / 24 * 24 + j % 24 = j by omega] at hc
      have hl := h.l.1
      have hf := (h.l.2.1 (S o 6 j) hc.1 (by omega)).2.2
      have hm := Int.mul_nonneg (show 0 ≤ t by omega) hf.1
      exact mx0_b (by omega) (by omega)
    · rw [clF_f (fun y => q y.2.2)]
      exact ⟨h5.1, Int.le_refl _⟩
theorem wa_7 {S : St} {x : Int} (h : IV S) (hx : peC S x) :
    (∀ (a b : Nat) (i : Int), ¬ (a = 10 + x.toNat ∧ (b = 7 ∨ b = 9)) → waS S (10 + x.toNat) a b i = S a b i) ∧ ∀ j, 0 ≤ j → j < 240 → 0 ≤ waS S (10 + x.toNat) (10 + x.toNat) 7 j ∧ waS S (10 + x.toNat) (10 + x.toNat) 7 j ≤ S (10 + x.toNat) 7 j := by
  have hP := h.pp hx
  obtain ⟨o, ho⟩ : ∃ o : Nat, 10 + x.toNat = o := ⟨_, rfl⟩
  rw [ho] at hP ⊢
  obtain ⟨⟨-, a2, a3, -, a5, -⟩, -⟩ := id hP
  refine ⟨fun a b i q => ?_, fun j j0 j1 => ?_⟩
  · unfold waS
    exact bst_f (fun y => q ⟨y.1, Or.inl y.2.1⟩)
  · unfold waS
    have h5 := a5 j j0 j1
    by_cases q : inC S o j
    · rw [bst_t q]
      have := nbK_b S o (S o 0 1) 0 j
      exact mx0_b (by omega) (by omega)
    · rw [bst_f (fun y => q y.2.2)]
      exact ⟨h5.1, Int.le_refl _⟩
theorem IV_light {S : St} {x t : Int} (h : IV S) (hx : peC S x) (hd : dnC S (10 + x.toNat)) (ht : 1 ≤ t) : IV (ltS S (10 + x.toNat) t) := IV_7 h hx (lt_7 h hx hd ht).1 (lt_7 h hx hd ht).2
theorem IV_wash {S : St} {x : Int} (h : IV S) (hx : peC S x) : IV (waS S (10 + x.toNat)) := IV_7 h hx (wa_7 h hx).1 (wa_7 h hx).2
theorem se_7 {S : St} {x q : Int} (h : IV S) (hx : peC S x) :
    (∀ (a b : Nat) (i : Int), ¬ (a = 10 + x.toNat ∧ (b = 7 ∨ b = 9)) → st S (10 + x.toNat) 9 q 1 a b i = S a b i) ∧ ∀ j, 0 ≤ j → j < 240 → 0 ≤ st S (10 + x.toNat) 9 q 1 (10 + x.toNat) 7 j ∧ st S (10 + x.toNat) 9 q 1 (10 + x.toNat) 7 j ≤ S (10 + x.toNat) 7 j := by
  refine ⟨fun a b i y => by rw [st_at, if_neg (by omega)], fun j j0 j1 => ?_⟩
  rw [st_at, if_neg (by omega)]
  exact ⟨((h.pp hx).1.2.2.2.2.1 j j0 j1).1, Int.le_refl _⟩
theorem IV_sew {S : St} {x q : Int} (h : IV S) (hx : peC S x) : IV (st S (10 + x.toNat) 9 q 1) := IV_7 h hx (se_7 h hx).1 (se_7 h hx).2
/-- a slit sewn -/
theorem sn_sew {S : St} {o : Nat} {q : Int} (h0 : 1 ≤ q) (h1 : q < S o 0 0) : ¬ slC (st S o 9 q 1) o q ∧ snC (st S o 9 q 1) o = snC S o - b2 (slC S o q) := by
  have e : ∀ (b : Nat) (i : Int), ¬ (b = 9 ∧ i = q) → st S o 9 q 1 o b i = S o b i := fun b i y => by rw [st_at, if_neg (by omega)]
  have e9 : st S o 9 q 1 o 9 q = 1 := by rw [st_at, if_pos ⟨rfl, rfl, rfl⟩]
  generalize st S o 9 q 1 = S' at e e9
  have hn : ¬ slC S' o q := by
    unfold slC
    rw [e9]
    exact fun y => absurd y.1 (by decide)
  refine ⟨hn, ?_⟩
  unfold snC
  rw [e 0 0 (by omega)]
  rw [sm_upd (f := fun i => b2 (slC S' o (1 + i))) (g := fun i => b2 (slC S o (1 + i))) (i0 := q - 1) (by omega) (by omega) (fun i i0 i1 i2 => b2_c (by
    show slC S' o (1 + i) ↔ slC S o (1 + i)
    unfold slC unC
    rw [e 9 _ (by omega), e 0 1 (by omega)]
    have : (fun r => S' o 5 (r * 24 + (1 + i - 1)) ≠ S' o 5 (r * 24 + (1 + i))) = (fun r => S o 5 (r * 24 + (1 + i - 1)) ≠ S o 5 (r * 24 + (1 + i))) := by
      funext r
      rw [e 5 _ (by omega), e 5 _ (by omega)]
    rw [this]))]
  show _ + (b2 (slC S' o (1 + (q - 1))) - b2 (slC S o (1 + (q - 1)))) = _
  rw [show 1 + (q - 1) = q by omega, b2_f hn]
  omega
theorem sn_b {S : St} {o : Nat} (h0 : 1 ≤ S o 0 0) : 0 ≤ snC S o ∧ snC S o < S o 0 0 := by
  have := sm_b (f := fun i => b2 (slC S o (1 + i))) (B := 1) (n := (S o 0 0 - 1).toNat) (by decide) (fun i _ _ => b2_b _)
  unfold snC
  omega
theorem sn_2 {S : St} {o : Nat} (h0 : 0 ≤ S o 0 1) (h2 : S o 0 1 ≤ 2) : snC S o = 0 := by
  unfold snC
  refine sm_0z (fun i i0 i1 => b2_f (fun y => ?_))
  have := mxl_b (unC S o (1 + i)) (S o 0 1).toNat
  have := y.2
  omega
