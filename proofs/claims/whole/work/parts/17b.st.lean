def lmR (p h c r i : Int) : Prop := 240 * p ≤ i ∧ ((i < 240 * p + 10 * c ∧ (i - 240 * p) % 10 < h) ∨ (240 * p + 10 * c ≤ i ∧ i < 240 * p + 10 * c + r))
/-- a piece that is begun: c whole columns of it, r cells of the next one, the looms of e columns -/
noncomputable def lmF (S : St) (p h c r e : Int) (D : Int → Int → Int) : St := fun a1 b1 i1 =>
  @ite Int (a1 = 0 ∧ b1 = 26 ∧ lmR p h c r i1) (Classical.propDecidable _) (-1) (@ite Int (a1 = 0 ∧ b1 = 25 ∧ lmR p h c r i1) (Classical.propDecidable _) (D ((i1 - 240 * p) % 10) ((i1 - 240 * p) / 10)) (
  if a1 = 0 ∧ b1 = 24 ∧ 24 * p ≤ i1 ∧ i1 < 24 * p + e then 0 else if a1 = 0 ∧ b1 = 23 ∧ 24 * p ≤ i1 ∧ i1 < 24 * p + e then i1 - 24 * p else if a1 = 0 ∧ b1 = 22 ∧ 24 * p ≤ i1 ∧ i1 < 24 * p + e then p else S a1 b1 i1))
theorem lmF_o (S : St) (p h c r e : Int) (D : Int → Int → Int) {b : Nat} {j : Int} (hb : b ≠ 22 ∧ b ≠ 23 ∧ b ≠ 24 ∧ b ≠ 25 ∧ b ≠ 26) : lmF S p h c r e D 0 b j = S 0 b j := by
  unfold lmF
  rw [if_neg (by omega), if_neg (by omega), if_neg (by omega), if_neg (by omega), if_neg (by omega)]
theorem lm_0 (S : St) (p h : Int) (D : Int → Int → Int) (a1 b1 : Nat) (i1 : Int) : S a1 b1 i1 = lmF S p h 0 0 0 D a1 b1 i1 := by
  unfold lmF lmR
  rw [if_neg (by omega), if_neg (by omega), if_neg (by omega), if_neg (by omega), if_neg (by omega)]
theorem lm_s1 {S Sa Z1 Z2 Z3 : St} {p h q : Int} {D : Int → Int → Int} (hS : ∀ (a1 b1 : Nat) (i1 : Int), Sa a1 b1 i1 = lmF S p h q 0 q D a1 b1 i1)
    (h1 : ∀ (a1 b1 : Nat) (i1 : Int), Z1 a1 b1 i1 = if a1 = 0 ∧ b1 = 22 ∧ i1 = 24 * p + q then p else Sa a1 b1 i1)
    (h2 : ∀ (a1 b1 : Nat) (i1 : Int), Z2 a1 b1 i1 = if a1 = 0 ∧ b1 = 23 ∧ i1 = 24 * p + q then q else Z1 a1 b1 i1)
    (h3 : ∀ (a1 b1 : Nat) (i1 : Int), Z3 a1 b1 i1 = if a1 = 0 ∧ b1 = 24 ∧ i1 = 24 * p + q then 0 else Z2 a1 b1 i1) (hq : 0 ≤ q) :
    ∀ (a1 b1 : Nat) (i1 : Int), Z3 a1 b1 i1 = lmF S p h q 0 (q + 1) D a1 b1 i1 := by
  intro a b i
  by_cases hn : a = 0 ∧ (b = 22 ∨ b = 23 ∨ b = 24) ∧ i = 24 * p + q
  · obtain ⟨rfl, hb, rfl⟩ := hn
    rcases hb with rfl | rfl | rfl
    · rw [h3, if_neg (by omega), h2, if_neg (by omega), h1, if_pos ⟨rfl, rfl, rfl⟩]
      unfold lmF
      rw [if_neg (by omega), if_neg (by omega), if_neg (by omega), if_neg (by omega), if_pos ⟨rfl, rfl, by omega, by omega⟩]
    · rw [h3, if_neg (by omega), h2, if_pos ⟨rfl, rfl, rfl⟩]
      unfold lmF
      rw [if_neg (by omega), if_neg (by omega), if_neg (by omega), if_pos ⟨rfl, rfl, by omega, by omega⟩]
      omega
    · rw [h3, if_pos ⟨rfl, rfl, rfl⟩]
      unfold lmF
      rw [if_neg (by omega), if_neg (by omega), if_pos ⟨rfl, rfl, by omega, by omega⟩]
  · rw [h3, if_neg (by omega), h2, if_neg (by omega), h1, if_neg (by omega), hS]
    have c4 : (a = 0 ∧ b = 24 ∧ 24 * p ≤ i ∧ i < 24 * p + q) ↔ (a = 0 ∧ b = 24 ∧ 24 * p ≤ i ∧ i < 24 * p + (q + 1)) := by omega
    have c3 : (a = 0 ∧ b = 23 ∧ 24 * p ≤ i ∧ i < 24 * p + q) ↔ (a = 0 ∧ b = 23 ∧ 24 * p ≤ i ∧ i < 24 * p + (q + 1)) := by omega
    have c2 : (a = 0 ∧ b = 22 ∧ 24 * p ≤ i ∧ i < 24 * p + q) ↔ (a = 0 ∧ b = 22 ∧ 24 * p ≤ i ∧ i < 24 * p + (q + 1)) := by omega
    unfold lmF
    simp only [c4, c3, c2]
theorem lm_s2 {S Sb Z1 Z2 : St} {p h q r v : Int} {D : Int → Int → Int} (hS : ∀ (a1 b1 : Nat) (i1 : Int), Sb a1 b1 i1 = lmF S p h q r (q + 1) D a1 b1 i1)
    (h1 : ∀ (a1 b1 : Nat) (i1 : Int), Z1 a1 b1 i1 = if a1 = 0 ∧ b1 = 25 ∧ i1 = 240 * p + 10 * q + r then v else Sb a1 b1 i1)
    (h2 : ∀ (a1 b1 : Nat) (i1 : Int), Z2 a1 b1 i1 = if a1 = 0 ∧ b1 = 26 ∧ i1 = 240 * p + 10 * q + r then -1 else Z1 a1 b1 i1) (hv : v = D r q) (hq : 0 ≤ q) (hr : 0 ≤ r ∧ r < 10) :
    ∀ (a1 b1 : Nat) (i1 : Int), Z2 a1 b1 i1 = lmF S p h q (r + 1) (q + 1) D a1 b1 i1 := by
  intro a b i
  by_cases hn : a = 0 ∧ (b = 25 ∨ b = 26) ∧ i = 240 * p + 10 * q + r
  · obtain ⟨rfl, hb, rfl⟩ := hn
    have hR : lmR p h q (r + 1) (240 * p + 10 * q + r) := ⟨by omega, Or.inr ⟨by omega, by omega⟩⟩
    rcases hb with rfl | rfl
    · rw [h2, if_neg (by omega), h1, if_pos ⟨rfl, rfl, rfl⟩, hv]
      unfold lmF
      rw [if_neg (by omega), if_pos ⟨rfl, rfl, hR⟩, show (240 * p + 10 * q + r - 240 * p) % 10 = r from by omega, show (240 * p + 10 * q + r - 240 * p) / 10 = q from by omega]
    · rw [h2, if_pos ⟨rfl, rfl, rfl⟩]
      unfold lmF
      rw [if_pos ⟨rfl, rfl, hR⟩]
  · rw [h2, if_neg (by omega), h1, if_neg (by omega), hS]
    have c6 : (a = 0 ∧ b = 26 ∧ lmR p h q r i) ↔ (a = 0 ∧ b = 26 ∧ lmR p h q (r + 1) i) := by unfold lmR; omega
    have c5 : (a = 0 ∧ b = 25 ∧ lmR p h q r i) ↔ (a = 0 ∧ b = 25 ∧ lmR p h q (r + 1) i) := by unfold lmR; omega
    unfold lmF
    rw [propext c6, propext c5]
theorem lm_s3 (S : St) {p h q : Int} (D : Int → Int → Int) (hh : 0 ≤ q ∧ 0 ≤ h ∧ h ≤ 10) (a b : Nat) (i : Int) : lmF S p h q h (q + 1) D a b i = lmF S p h (q + 1) 0 (q + 1) D a b i := by
  have c6 : (a = 0 ∧ b = 26 ∧ lmR p h q h i) ↔ (a = 0 ∧ b = 26 ∧ lmR p h (q + 1) 0 i) := by unfold lmR; omega
  have c5 : (a = 0 ∧ b = 25 ∧ lmR p h q h i) ↔ (a = 0 ∧ b = 25 ∧ lmR p h (q + 1) 0 i) := by unfold lmR; omega
  unfold lmF
  rw [propext c6, propext c5]
theorem drM_e {S Sb : St} (e : ∀ r j, (r = 6 ∨ r = 7 ∨ r = 8) → Sb 0 r j = S 0 r j) (i r q : Int) : drM Sb i r q = drM S i r q := by
  unfold drM
  rw [e 8 _ (by omega), e 6 _ (by omega), e 7 _ (by omega)]
