noncomputable def pcM (S : St) (x w : Int) : Int := cif (w = 0) (S 0 16 x) (cif (w = 1) (S 0 17 x) (cif (w = 2) (wnM S x) (cif (w = 3) (b2 (dnM S x)) (cif (w = 4) (stM S x) (shM S x)))))
noncomputable def ceM (S : St) (x r q w : Int) : Int := cif (w = 0) (S 0 25 (240 * x + 10 * q + r)) (cif (w = 1) (S 0 26 (240 * x + 10 * q + r)) (S 0 27 (240 * x + 10 * q + r)))
/-- how much a cell of the piece takes from a neighbour of lot v -/
noncomputable def ruM (S : St) (x q r v : Int) : Int := cif ((0 ≤ q ∧ q ≤ S 0 16 x - 1) ∧ (0 ≤ r ∧ r ≤ S 0 17 x - 1) ∧ S 0 26 (240 * x + 10 * q + r) ≠ v ∧ S 0 14 (S 0 26 (240 * x + 10 * q + r)) ≠ 0) 5 0
noncomputable def mcM (S : St) (x z : Int) : Int := cif (S 0 17 x = S 0 17 z) (sm (fun r => b2 (S 0 26 (240 * x + 10 * (S 0 16 x - 1) + r) = S 0 26 (240 * z + 10 * 0 + r))) (S 0 17 x).toNat) (-1)
noncomputable def lkA (S : St) (x i : Int) : Int := sm (fun n => b2 (cM S 25 x n = drM S i (n % S 0 17 x) (n / S 0 17 x))) (S 0 16 x * S 0 17 x).toNat
noncomputable def lkB (S : St) (x i : Int) : Int := sm (fun n => b2 (cM S 25 x n = drM S i (n % S 0 17 x) (S 0 16 x - 1 - n / S 0 17 x))) (S 0 16 x * S 0 17 x).toNat
noncomputable def lkM (S : St) (x i : Int) : Int := cif (S 0 16 x = S 0 4 i ∧ S 0 17 x = S 0 5 i) (if lkA S x i < lkB S x i then lkB S x i else lkA S x i) (-1)
theorem zta_r {f : Int → Prop} {t n : Int} (h : t = sm (fun n => b2 (f n)) n.toNat) (h0 : 0 ≤ n) (h1 : n ≤ 240) : rng t := by
  have := sm_b (f := fun n => b2 (f n)) (B := 1) (n := n.toNat) (by decide) (fun i _ _ => b2_b _)
  rw [h]
  exact ⟨by omega, by omega⟩
theorem rng_or {b v : Int} (h : b = v ∨ (0 ≤ b ∧ b < 20)) (hv : rng v) : rng b := by
  rcases h with h | h
  · rw [h]; exact hv
  · exact ⟨by omega, by omega⟩
theorem ruM_1 {S : St} {x q r v b : Int} (h : ((¬ ((0 ≤ q ∧ q ≤ S 0 16 x - 1) ∧ (0 ≤ r ∧ r ≤ S 0 17 x - 1))) ∧ b = v) ∨ (((0 ≤ q ∧ q ≤ S 0 16 x - 1) ∧ (0 ≤ r ∧ r ≤ S 0 17 x - 1)) ∧ b = S 0 26 (240 * x + 10 * q + r))) (hb : b = v) : 0 = ruM S x q r v := by
  unfold ruM
  rcases h with ⟨h1, h2⟩ | ⟨h1, h2⟩
  · rw [cif_f (fun z => h1 ⟨z.1, z.2.1⟩)]
  · rw [cif_f (fun z => z.2.2.1 (h2.symm.trans hb))]
theorem ruM_2 {S : St} {x q r v b : Int} (h : ((¬ ((0 ≤ q ∧ q ≤ S 0 16 x - 1) ∧ (0 ≤ r ∧ r ≤ S 0 17 x - 1))) ∧ b = v) ∨ (((0 ≤ q ∧ q ≤ S 0 16 x - 1) ∧ (0 ≤ r ∧ r ≤ S 0 17 x - 1)) ∧ b = S 0 26 (240 * x + 10 * q + r))) (hb : b ≠ v) (h0 : S 0 14 b = 0) : 0 = ruM S x q r v := by
  unfold ruM
  rcases h with ⟨h1, h2⟩ | ⟨h1, h2⟩
  · exact absurd h2 hb
  · rw [cif_f (fun z => z.2.2.2 (h2 ▸ h0))]
theorem ruM_3 {S : St} {x q r v b : Int} (h : ((¬ ((0 ≤ q ∧ q ≤ S 0 16 x - 1) ∧ (0 ≤ r ∧ r ≤ S 0 17 x - 1))) ∧ b = v) ∨ (((0 ≤ q ∧ q ≤ S 0 16 x - 1) ∧ (0 ≤ r ∧ r ≤ S 0 17 x - 1)) ∧ b = S 0 26 (240 * x + 10 * q + r))) (hb : b ≠ v) (h0 : S 0 14 b ≠ 0) : 5 = ruM S x q r v := by
  unfold ruM
  rcases h with ⟨h1, h2⟩ | ⟨h1, h2⟩
  · exact absurd h2 hb
  · subst h2
    rw [cif_t ⟨h1.1, h1.2, hb, h0⟩]
theorem lkM_no {S S1 : St} {v x i : Int} (q : ∀ (a1 b1 : Nat) (i1 : Int), S1 a1 b1 i1 = if a1 = 0 ∧ b1 = 0 ∧ i1 = 27 then v else S a1 b1 i1) (h : S 0 16 x ≠ S 0 4 i) : -1 = lkM S1 x i := by
  have e : ∀ r j, r ≠ 0 → S1 0 r j = S 0 r j := fun r j h => by rw [q, if_neg (fun z => h z.2.1)]
  unfold lkM
  rw [e 16 _ (by decide), e 4 _ (by decide), cif_f (fun z => h z.1)]
theorem lkM_n2 {S S1 : St} {v x i : Int} (q : ∀ (a1 b1 : Nat) (i1 : Int), S1 a1 b1 i1 = if a1 = 0 ∧ b1 = 0 ∧ i1 = 27 then v else S a1 b1 i1) (h : S 0 17 x ≠ S 0 5 i) : -1 = lkM S1 x i := by
  have e : ∀ r j, r ≠ 0 → S1 0 r j = S 0 r j := fun r j h => by rw [q, if_neg (fun z => h z.2.1)]
  unfold lkM
  rw [e 17 _ (by decide), e 5 _ (by decide), cif_f (fun z => h z.2)]
theorem lkM_yes {S S1 : St} {v x i n ta tb w : Int} (q : ∀ (a1 b1 : Nat) (i1 : Int), S1 a1 b1 i1 = if a1 = 0 ∧ b1 = 0 ∧ i1 = 27 then v else S a1 b1 i1) (h1 : S 0 16 x = S 0 4 i) (h2 : S 0 17 x = S 0 5 i)
    (ha : ta = sm (fun n => b2 (cM S 25 x n = drM S1 i (n % S 0 17 x) (n / S 0 17 x))) n.toNat) (hb : tb = sm (fun n => b2 (cM S 25 x n = drM S1 i (n % S 0 17 x) (S 0 16 x - 1 - n / S 0 17 x))) n.toNat) (hn : n = S 0 16 x * S 0 17 x)
    (hw : (tb ≤ ta ∧ w = ta) ∨ (ta < tb ∧ w = tb)) : w = lkM S1 x i := by
  have e : ∀ r j, r ≠ 0 → S1 0 r j = S 0 r j := fun r j h => by rw [q, if_neg (fun z => h z.2.1)]
  have ea : lkA S1 x i = ta := by
    rw [ha, hn]
    unfold lkA cM
    simp only [e 17 _ (by decide), e 25 _ (by decide), e 16 _ (by decide)]
  have eb : lkB S1 x i = tb := by
    rw [hb, hn]
    unfold lkB cM
    simp only [e 17 _ (by decide), e 25 _ (by decide), e 16 _ (by decide)]
  unfold lkM
  rw [cif_t (by rw [e 16 _ (by decide), e 4 _ (by decide), e 17 _ (by decide), e 5 _ (by decide)]; exact ⟨h1, h2⟩), ea, eb]
  rcases hw with ⟨h3, h4⟩ | ⟨h3, h4⟩
  · rw [if_neg (by omega), h4]
  · rw [if_pos h3, h4]
theorem pcM_0 {S : St} {x w : Int} (h : w = 0) : pcM S x w = S 0 16 x := by unfold pcM; rw [cif_t h]
theorem pcM_1 {S : St} {x w : Int} (h : w = 1) : pcM S x w = S 0 17 x := by unfold pcM; rw [cif_f (by omega), cif_t h]
theorem pcM_2 {S : St} {x w : Int} (h : w = 2) : pcM S x w = wnM S x := by unfold pcM; rw [cif_f (by omega), cif_f (by omega), cif_t h]
theorem pcM_3 {S : St} {x w : Int} (h : w = 3) : pcM S x w = b2 (dnM S x) := by unfold pcM; rw [cif_f (by omega), cif_f (by omega), cif_f (by omega), cif_t h]
theorem pcM_4 {S : St} {x w : Int} (h : w = 4) : pcM S x w = stM S x := by unfold pcM; rw [cif_f (by omega), cif_f (by omega), cif_f (by omega), cif_f (by omega), cif_t h]
theorem pcM_5 {S : St} {x w : Int} (h : w ≠ 0 ∧ w ≠ 1 ∧ w ≠ 2 ∧ w ≠ 3 ∧ w ≠ 4) : pcM S x w = shM S x := by unfold pcM; rw [cif_f (by omega), cif_f (by omega), cif_f (by omega), cif_f (by omega), cif_f (by omega)]
theorem drM_rng {S : St} (hr : ∀ (a1 b1 : Nat) (i1 : Int), rng (S a1 b1 i1)) (i r q : Int) : rng (drM S i r q) := by
  unfold drM
  by_cases h : S 0 8 (120 * i + 12 * r + q) = 6
  · rw [cif_t h]
    by_cases h2 : (r + q) % 2 = 0
    · rw [cif_t h2]; exact hr _ _ _
    · rw [cif_f h2]; exact hr _ _ _
  · rw [cif_f h]; exact hr _ _ _
