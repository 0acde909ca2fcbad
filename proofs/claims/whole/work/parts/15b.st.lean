def mPz (ad : Nat → Nat → Nat) (A B C : Prop) (S : St) (R : St → Option Value) (F : St → Prop) : Option Value → (Nat → Nat → Nat) → St → Prop := fun r ad' S' => ad' = ad ∧ ((¬ (A ∧ B ∧ C) ∧ r = some (.int (i32 0)) ∧ S' = st S 0 0 27 (thr A B C)) ∨ ((A ∧ B ∧ C) ∧ r = R S' ∧ F S'))
theorem fill1 {Sa S1 Z : St} {o r : Nat} {lo n v : Int} {f : Int → Int} (hS : ∀ (a1 b1 : Nat) (i1 : Int), Sa a1 b1 i1 = if a1 = o ∧ b1 = r ∧ lo ≤ i1 ∧ i1 < lo + n then f (i1 - lo) else S1 a1 b1 i1)
    (hZ : ∀ (a1 b1 : Nat) (i1 : Int), Z a1 b1 i1 = if a1 = o ∧ b1 = r ∧ i1 = lo + n then v else Sa a1 b1 i1) (hv : v = f n) (hn : 0 ≤ n) :
    ∀ (a1 b1 : Nat) (i1 : Int), Z a1 b1 i1 = if a1 = o ∧ b1 = r ∧ lo ≤ i1 ∧ i1 < lo + (n + 1) then f (i1 - lo) else S1 a1 b1 i1 := by
  intro a b j
  rw [hZ, hS]
  by_cases h1 : a = o ∧ b = r ∧ j = lo + n
  · obtain ⟨h2, h3, h4⟩ := h1
    rw [if_pos ⟨h2, h3, h4⟩, if_pos ⟨h2, h3, by omega, by omega⟩, hv, h4]
    congr 1
    omega
  · rw [if_neg h1]
    by_cases h2 : a = o ∧ b = r ∧ lo ≤ j ∧ j < lo + n
    · rw [if_pos h2, if_pos ⟨h2.1, h2.2.1, h2.2.2.1, by omega⟩]
    · rw [if_neg h2, if_neg (fun q => (by omega : j = lo + n ∨ j < lo + n).elim (fun e => h1 ⟨q.1, q.2.1, e⟩) (fun e => h2 ⟨q.1, q.2.1, q.2.2.1, e⟩))]
theorem fill3 {Sa S1 Z2 Z3 Z4 : St} {lo src n : Int} (hS : ∀ (a1 b1 : Nat) (i1 : Int), Sa a1 b1 i1 = if a1 = 0 ∧ (b1 = 25 ∨ b1 = 26 ∨ b1 = 27) ∧ lo ≤ i1 ∧ i1 < lo + n then S1 a1 b1 (i1 - lo + src) else S1 a1 b1 i1)
    (h2 : ∀ (a1 b1 : Nat) (i1 : Int), Z2 a1 b1 i1 = if a1 = 0 ∧ b1 = 25 ∧ i1 = lo + n then Sa 0 25 (src + n) else Sa a1 b1 i1)
    (h3 : ∀ (a1 b1 : Nat) (i1 : Int), Z3 a1 b1 i1 = if a1 = 0 ∧ b1 = 26 ∧ i1 = lo + n then Sa 0 26 (src + n) else Z2 a1 b1 i1)
    (h4 : ∀ (a1 b1 : Nat) (i1 : Int), Z4 a1 b1 i1 = if a1 = 0 ∧ b1 = 27 ∧ i1 = lo + n then Sa 0 27 (src + n) else Z3 a1 b1 i1)
    (hd : lo + 10 ≤ src ∨ src + 10 ≤ lo) (hn : 0 ≤ n) (hn2 : n < 10) :
    ∀ (a1 b1 : Nat) (i1 : Int), Z4 a1 b1 i1 = if a1 = 0 ∧ (b1 = 25 ∨ b1 = 26 ∨ b1 = 27) ∧ lo ≤ i1 ∧ i1 < lo + (n + 1) then S1 a1 b1 (i1 - lo + src) else S1 a1 b1 i1 := by
  have hs : ∀ b, Sa 0 b (src + n) = S1 0 b (src + n) := fun b => by rw [hS, if_neg (by omega)]
  intro a b j
  by_cases hj : j = lo + n
  · subst hj
    by_cases ha : a = 0 ∧ (b = 25 ∨ b = 26 ∨ b = 27)
    · obtain ⟨rfl, hb⟩ := ha
      rw [if_pos ⟨rfl, hb, by omega, by omega⟩, show lo + n - lo + src = src + n from by omega]
      rcases hb with rfl | rfl | rfl
      · rw [h4, if_neg (by omega), h3, if_neg (by omega), h2, if_pos ⟨rfl, rfl, rfl⟩, hs]
      · rw [h4, if_neg (by omega), h3, if_pos ⟨rfl, rfl, rfl⟩, hs]
      · rw [h4, if_pos ⟨rfl, rfl, rfl⟩, hs]
    · rw [if_neg (fun q => ha ⟨q.1, q.2.1⟩), h4, if_neg (by omega), h3, if_neg (by omega), h2, if_neg (by omega), hS, if_neg (by omega)]
  · rw [h4, if_neg (by omega), h3, if_neg (by omega), h2, if_neg (by omega), hS]
    by_cases h5 : a = 0 ∧ (b = 25 ∨ b = 26 ∨ b = 27) ∧ lo ≤ j ∧ j < lo + n
    · rw [if_pos h5, if_pos (by omega)]
    · rw [if_neg h5, if_neg (by omega)]
/-- a column of a piece put into another one -/
noncomputable def cpF (S : St) (x q z u : Int) : St := fun a1 b1 i1 =>
  if a1 = 0 ∧ b1 = 24 ∧ i1 = 24 * z + u then b2 (0 < q ∧ 0 < u ∧ S 0 24 (24 * x + q) ≠ 0) else
  if a1 = 0 ∧ b1 = 24 ∧ i1 = 24 * z + u then 0 else
  if a1 = 0 ∧ b1 = 23 ∧ i1 = 24 * z + u then S 0 23 (24 * x + q) else
  if a1 = 0 ∧ b1 = 22 ∧ i1 = 24 * z + u then S 0 22 (24 * x + q) else
  if a1 = 0 ∧ (b1 = 25 ∨ b1 = 26 ∨ b1 = 27) ∧ (240 * z + 10 * u) ≤ i1 ∧ i1 < (240 * z + 10 * u) + S 0 17 x then S a1 b1 (i1 - (240 * z + 10 * u) + (240 * x + 10 * q)) else S a1 b1 i1
theorem mulr {h f : Int} (h1 : 1 ≤ h) (h2 : h ≤ 9999) (h3 : 0 ≤ f) (h4 : f ≤ 9) : 0 ≤ h * f ∧ h * f ≤ 89991 :=
  ⟨Int.mul_nonneg (by omega) h3, by have := Int.mul_le_mul h2 h4 h3 (by decide : (0 : Int) ≤ 9999); omega⟩
theorem sub_r {a b less : Int} (h : (a < less ∧ b = 0) ∨ (less ≤ a ∧ b = a - less)) (h0 : 0 ≤ less) (ha : rng a) : rng b := by
  obtain ⟨h1, h2⟩ := ha
  rcases h with ⟨h3, h4⟩ | ⟨h3, h4⟩
  · rw [h4]; exact ⟨by decide, by decide⟩
  · exact ⟨by omega, by omega⟩
def ceN (S : St) (x n : Int) : Int := 240 * x + 10 * (n / S 0 17 x) + n % S 0 17 x
noncomputable def liM (S : St) (x h n : Int) : Int := cif (S 0 27 (240 * x + 10 * (n / S 0 17 x) + n % S 0 17 x) < h * S 0 13 (S 0 26 (240 * x + 10 * (n / S 0 17 x) + n % S 0 17 x)) / 100) 0 (S 0 27 (240 * x + 10 * (n / S 0 17 x) + n % S 0 17 x) - h * S 0 13 (S 0 26 (240 * x + 10 * (n / S 0 17 x) + n % S 0 17 x)) / 100)
theorem liM_v {S Sa : St} {x h n b : Int} (e : Sa 0 27 (240 * x + 10 * (n / S 0 17 x) + n % S 0 17 x) = S 0 27 (240 * x + 10 * (n / S 0 17 x) + n % S 0 17 x))
    (hb : (Sa 0 27 (240 * x + 10 * (n / S 0 17 x) + n % S 0 17 x) < h * S 0 13 (S 0 26 (240 * x + 10 * (n / S 0 17 x) + n % S 0 17 x)) / 100 ∧ b = 0) ∨ (h * S 0 13 (S 0 26 (240 * x + 10 * (n / S 0 17 x) + n % S 0 17 x)) / 100 ≤ Sa 0 27 (240 * x + 10 * (n / S 0 17 x) + n % S 0 17 x) ∧ b = Sa 0 27 (240 * x + 10 * (n / S 0 17 x) + n % S 0 17 x) - h * S 0 13 (S 0 26 (240 * x + 10 * (n / S 0 17 x) + n % S 0 17 x)) / 100)) : b = liM S x h n := by
  unfold liM
  rw [e] at hb
  rcases hb with ⟨h1, h2⟩ | ⟨h1, h2⟩
  · rw [h2, cif_t h1]
  · rw [h2, cif_f (by omega)]
theorem cell_inj {R n m : Int} (h0 : 0 ≤ n) (h1 : 0 ≤ m) (hR : 0 < R) (hR2 : R ≤ 10) (e : 10 * (n / R) + n % R = 10 * (m / R) + m % R) : n = m := by
  have a1 := Int.emod_nonneg n (by omega : R ≠ 0)
  have a2 := Int.emod_lt_of_pos n hR
  have b1 := Int.emod_nonneg m (by omega : R ≠ 0)
  have b2 := Int.emod_lt_of_pos m hR
  have c1 := Int.emod_add_mul_ediv n R
  have c2 := Int.emod_add_mul_ediv m R
  have d1 : n / R = m / R := by omega
  rw [d1] at c1 e
  omega
theorem cell_step {S Sa Z : St} {x n N v : Int} {f : Int → Int} (h0 : 0 ≤ n) (hR : 0 < S 0 17 x) (hR2 : S 0 17 x ≤ 10)
    (qZ : ∀ (a1 b1 : Nat) (i1 : Int), Z a1 b1 i1 = if a1 = 0 ∧ b1 = 27 ∧ i1 = 240 * x + 10 * (n / S 0 17 x) + n % S 0 17 x then v else Sa a1 b1 i1)
    (zd : ∀ n1, 0 ≤ n1 → n1 < n → Sa 0 27 (240 * x + 10 * (n1 / S 0 17 x) + n1 % S 0 17 x) = f n1)
    (zu : ∀ n1, n ≤ n1 → n1 < N → Sa 0 27 (240 * x + 10 * (n1 / S 0 17 x) + n1 % S 0 17 x) = S 0 27 (240 * x + 10 * (n1 / S 0 17 x) + n1 % S 0 17 x)) (hv : v = f n) :
    (∀ n1, 0 ≤ n1 → n1 < n + 1 → Z 0 27 (240 * x + 10 * (n1 / S 0 17 x) + n1 % S 0 17 x) = f n1) ∧
    (∀ n1, n + 1 ≤ n1 → n1 < N → Z 0 27 (240 * x + 10 * (n1 / S 0 17 x) + n1 % S 0 17 x) = S 0 27 (240 * x + 10 * (n1 / S 0 17 x) + n1 % S 0 17 x)) := by
  refine ⟨fun n1 h1 h2 => ?_, fun n1 h1 h2 => ?_⟩
  · rw [qZ]
    by_cases e : n1 = n
    · subst e
      rw [if_pos ⟨rfl, rfl, rfl⟩, hv]
    · rw [if_neg (fun q => e (cell_inj h1 h0 hR hR2 (by omega))), zd n1 h1 (by omega)]
  · rw [qZ, if_neg (fun q => absurd (cell_inj (n := n1) (m := n) (by omega) h0 hR hR2 (by omega)) (by omega)), zu n1 (by omega) h2]
theorem ruM_b (S : St) (x q r v : Int) : 0 ≤ ruM S x q r v ∧ ruM S x q r v ≤ 5 := by
  unfold ruM cif
  split <;> decide
theorem ruM_e {S Sa : St} (e : ∀ r j, r ≠ 27 → r ≠ 0 → Sa 0 r j = S 0 r j) (x q r v : Int) : ruM Sa x q r v = ruM S x q r v := by
  unfold ruM
  rw [e 16 _ (by decide) (by decide), e 17 _ (by decide) (by decide), e 26 _ (by decide) (by decide), e 14 _ (by decide) (by decide)]
noncomputable def waL (S : St) (x n : Int) : Int := ruM S x (n / S 0 17 x - 1) (n % S 0 17 x) (S 0 26 (240 * x + 10 * (n / S 0 17 x) + n % S 0 17 x)) + ruM S x (n / S 0 17 x + 1) (n % S 0 17 x) (S 0 26 (240 * x + 10 * (n / S 0 17 x) + n % S 0 17 x)) + ruM S x (n / S 0 17 x) (n % S 0 17 x - 1) (S 0 26 (240 * x + 10 * (n / S 0 17 x) + n % S 0 17 x)) + ruM S x (n / S 0 17 x) (n % S 0 17 x + 1) (S 0 26 (240 * x + 10 * (n / S 0 17 x) + n % S 0 17 x))
noncomputable def waM (S : St) (x n : Int) : Int := cif (S 0 27 (240 * x + 10 * (n / S 0 17 x) + n % S 0 17 x) < waL S x n) 0 (S 0 27 (240 * x + 10 * (n / S 0 17 x) + n % S 0 17 x) - waL S x n)
theorem waM_v {S Sa : St} {x n b : Int} (e : ∀ r j, r ≠ 27 → r ≠ 0 → Sa 0 r j = S 0 r j) (e2 : Sa 0 27 (240 * x + 10 * (n / S 0 17 x) + n % S 0 17 x) = S 0 27 (240 * x + 10 * (n / S 0 17 x) + n % S 0 17 x))
    (hb : (Sa 0 27 (240 * x + 10 * (n / S 0 17 x) + n % S 0 17 x) < ruM Sa x (n / S 0 17 x - 1) (n % S 0 17 x) (S 0 26 (240 * x + 10 * (n / S 0 17 x) + n % S 0 17 x)) + ruM Sa x (n / S 0 17 x + 1) (n % S 0 17 x) (S 0 26 (240 * x + 10 * (n / S 0 17 x) + n % S 0 17 x)) + ruM Sa x (n / S 0 17 x) (n % S 0 17 x - 1) (S 0 26 (240 * x + 10 * (n / S 0 17 x) + n % S 0 17 x)) + ruM Sa x (n / S 0 17 x) (n % S 0 17 x + 1) (S 0 26 (240 * x + 10 * (n / S 0 17 x) + n % S 0 17 x)) ∧ b = 0) ∨
      (ruM Sa x (n / S 0 17 x - 1) (n % S 0 17 x) (S 0 26 (240 * x + 10 * (n / S 0 17 x) + n % S 0 17 x)) + ruM Sa x (n / S 0 17 x + 1) (n % S 0 17 x) (S 0 26 (240 * x + 10 * (n / S 0 17 x) + n % S 0 17 x)) + ruM Sa x (n / S 0 17 x) (n % S 0 17 x - 1) (S 0 26 (240 * x + 10 * (n / S 0 17 x) + n % S 0 17 x)) + ruM Sa x (n / S 0 17 x) (n % S 0 17 x + 1) (S 0 26 (240 * x + 10 * (n / S 0 17 x) + n % S 0 17 x)) ≤ Sa 0 27 (240 * x + 10 * (n / S 0 17 x) + n % S 0 17 x) ∧ b = Sa 0 27 (240 * x + 10 * (n / S 0 17 x) + n % S 0 17 x) - (ruM Sa x (n / S 0 17 x - 1) (n % S 0 17 x) (S 0 26 (240 * x + 10 * (n / S 0 17 x) + n % S 0 17 x)) + ruM Sa x (n / S 0 17 x + 1) (n % S 0 17 x) (S 0 26 (240 * x + 10 * (n / S 0 17 x) + n % S 0 17 x)) + ruM Sa x (n / S 0 17 x) (n % S 0 17 x - 1) (S 0 26 (240 * x + 10 * (n / S 0 17 x) + n % S 0 17 x)) + ruM Sa x (n / S 0 17 x) (n % S 0 17 x + 1) (S 0 26 (240 * x + 10 * (n / S 0 17 x) + n % S 0 17 x))))) : b = waM S x n := by
  simp only [ruM_e e] at hb
  unfold waM
  rw [e2] at hb
  rcases hb with ⟨h1, h2⟩ | ⟨h1, h2⟩
  · rw [h2, cif_t (show _ < waL S x n from h1)]
  · rw [h2, cif_f (show ¬ _ < waL S x n from Int.not_lt.mpr h1)]
    rfl
