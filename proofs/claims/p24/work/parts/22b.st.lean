/-! ===== columns taken over, drawn; washing ===== -/
def col3 (b : Nat) : Prop := b = 5 ∨ b = 6 ∨ b = 7
/-- a column taken over up to the row r -/
noncomputable def ccF (S : St) (o x : Nat) (q u r : Int) : St := fun a b i => @ite Int (a = o ∧ b = 8 ∧ i = u) (Classical.propDecidable _) (S x 8 q)
  (@ite Int (a = o ∧ col3 b ∧ 0 ≤ i ∧ i % 24 = u ∧ i / 24 < r) (Classical.propDecidable _) (S x b (i - u + q)) (S a b i))
theorem ccF_8 {S : St} {o x : Nat} {q u r : Int} : ccF S o x q u r o 8 u = S x 8 q := by unfold ccF; exact if_pos ⟨rfl, rfl, rfl⟩
theorem ccF_t {S : St} {o x : Nat} {q u r i : Int} {b : Nat} (hb : col3 b) (h : 0 ≤ i ∧ i % 24 = u ∧ i / 24 < r) : ccF S o x q u r o b i = S x b (i - u + q) := by
  unfold ccF
  rw [if_neg (by unfold col3 at hb; omega), if_pos ⟨rfl, hb, h.1, h.2.1, h.2.2⟩]
theorem ccF_f {S : St} {o x : Nat} {q u r i : Int} {a b : Nat} (h : ¬ (a = o ∧ b = 8 ∧ i = u)) (h2 : ¬ (a = o ∧ col3 b ∧ 0 ≤ i ∧ i % 24 = u ∧ i / 24 < r)) : ccF S o x q u r a b i = S a b i := by
  unfold ccF
  rw [if_neg h, if_neg h2]
theorem ccF_o {S : St} {o x : Nat} {q u r i : Int} {a b : Nat} (h : b ≠ 8 ∧ b ≠ 5 ∧ b ≠ 6 ∧ b ≠ 7) : ccF S o x q u r a b i = S a b i :=
  ccF_f (by omega) (by unfold col3; omega)
theorem ccF_x {S : St} {o x : Nat} {q u r i : Int} {a b : Nat} (h : a ≠ o) : ccF S o x q u r a b i = S a b i :=
  ccF_f (fun y => h y.1) (fun y => h y.1)
theorem cc_0 {S S' : St} {o x : Nat} {q u : Int} (h : ∀ (a b : Nat) (i : Int), S' a b i = if a = o ∧ b = 8 ∧ i = u then S x 8 q else S a b i) (a b : Nat) (i : Int) : S' a b i = ccF S o x q u 0 a b i := by
  rw [h]
  by_cases h1 : a = o ∧ b = 8 ∧ i = u
  · obtain ⟨rfl, rfl, rfl⟩ := h1
    rw [if_pos ⟨rfl, rfl, rfl⟩, ccF_8]
  · rw [if_neg h1, ccF_f h1 (by omega)]
theorem cc_s {S Sa S1 S2 S3 : St} {o x : Nat} {q u r : Int} (hr : 0 ≤ r) (hu : 0 ≤ u ∧ u < 24) (z : ∀ (a b : Nat) (i : Int), Sa a b i = ccF S o x q u r a b i)
    (h1 : ∀ (a b : Nat) (i : Int), S1 a b i = if a = o ∧ b = 5 ∧ i = r * 24 + u then S x 5 (r * 24 + q) else Sa a b i)
    (h2 : ∀ (a b : Nat) (i : Int), S2 a b i = if a = o ∧ b = 6 ∧ i = r * 24 + u then S x 6 (r * 24 + q) else S1 a b i)
    (h3 : ∀ (a b : Nat) (i : Int), S3 a b i = if a = o ∧ b = 7 ∧ i = r * 24 + u then S x 7 (r * 24 + q) else S2 a b i) (a b : Nat) (i : Int) : S3 a b i = ccF S o x q u (r + 1) a b i := by
  by_cases hc : a = o ∧ col3 b ∧ i = r * 24 + u
  · obtain ⟨rfl, hb, rfl⟩ := hc
    rw [ccF_t hb (by omega), show r * 24 + u - u + q = r * 24 + q from by omega]
    rcases hb with rfl | rfl | rfl
    · rw [h3, if_neg (by omega), h2, if_neg (by omega), h1, if_pos ⟨rfl, rfl, rfl⟩]
    · rw [h3, if_neg (by omega), h2, if_pos ⟨rfl, rfl, rfl⟩]
    · rw [h3, if_pos ⟨rfl, rfl, rfl⟩]
  · have hc' : ∀ k, col3 k → ¬ (a = o ∧ b = k ∧ i = r * 24 + u) := fun k hk y => hc ⟨y.1, y.2.1 ▸ hk, y.2.2⟩
    rw [h3, if_neg (hc' 7 (Or.inr (Or.inr rfl))), h2, if_neg (hc' 6 (Or.inr (Or.inl rfl))), h1, if_neg (hc' 5 (Or.inl rfl)), z]
    by_cases h8 : a = o ∧ b = 8 ∧ i = u
    · obtain ⟨rfl, rfl, rfl⟩ := h8
      rw [ccF_8, ccF_8]
    · by_cases ht : a = o ∧ col3 b ∧ 0 ≤ i ∧ i % 24 = u ∧ i / 24 < r
      · obtain ⟨rfl, hb, ht⟩ := ht
        rw [ccF_t hb ht, ccF_t hb (by omega)]
      · rw [ccF_f h8 ht, ccF_f h8]
        intro y
        by_cases hi : i = r * 24 + u
        · exact hc ⟨y.1, y.2.1, hi⟩
        · exact ht ⟨y.1, y.2.1, by omega, by omega, by omega⟩
/-- n columns of x, from q on, behind those of o -/
noncomputable def apF (S : St) (o x : Nat) (q W h n : Int) : St := fun a b i =>
  @ite Int (a = o ∧ b = 0 ∧ i = 0) (Classical.propDecidable _) (W + n)
  (@ite Int (a = o ∧ b = 8 ∧ W ≤ i ∧ i < W + n) (Classical.propDecidable _) (S x 8 (i - W + q))
  (@ite Int (a = o ∧ b = 9 ∧ W ≤ i ∧ i < W + n) (Classical.propDecidable _) (b2 (W < i ∧ S x 9 (i - W + q) ≠ 0))
  (@ite Int (a = o ∧ col3 b ∧ 0 ≤ i ∧ W ≤ i % 24 ∧ i % 24 < W + n ∧ i / 24 < h) (Classical.propDecidable _) (S x b (i - W + q)) (S a b i))))
theorem apF_x {S : St} {o x : Nat} {q W h n i : Int} {a b : Nat} (hh : a ≠ o) : apF S o x q W h n a b i = S a b i := by
  unfold apF
  rw [if_neg (fun y => hh y.1), if_neg (fun y => hh y.1), if_neg (fun y => hh y.1), if_neg (fun y => hh y.1)]
theorem apF_0 {S : St} {o x : Nat} {q W h n : Int} : apF S o x q W h n o 0 0 = W + n := by unfold apF; exact if_pos ⟨rfl, rfl, rfl⟩
theorem apF_o {S : St} {o x : Nat} {q W h n i : Int} {a b : Nat} (hb : b ≠ 5 ∧ b ≠ 6 ∧ b ≠ 7 ∧ b ≠ 8 ∧ b ≠ 9) (hi : ¬ (b = 0 ∧ i = 0)) : apF S o x q W h n a b i = S a b i := by
  unfold apF
  rw [if_neg (fun y => hi y.2), if_neg (by omega), if_neg (by omega), if_neg (by unfold col3; omega)]
theorem ap_0 {S : St} {o x : Nat} {q h : Int} (a b : Nat) (i : Int) : S a b i = apF S o x q (S o 0 0) h 0 a b i := by
  unfold apF
  by_cases h1 : a = o ∧ b = 0 ∧ i = 0
  · rw [if_pos h1, h1.1, h1.2.1, h1.2.2]; omega
  · rw [if_neg h1, if_neg (by omega), if_neg (by omega), if_neg (by omega)]
theorem ap_s {S Sa S2 S3 : St} {o x : Nat} {q W h n : Int} (hn : 0 ≤ n) (hW : 0 ≤ W ∧ W + n < 24) (hx : x ≠ o) (z : ∀ (a b : Nat) (i : Int), Sa a b i = apF S o x q W h n a b i)
    (h2 : ∀ (a b : Nat) (i : Int), S2 a b i = if a = o ∧ b = 9 ∧ i = W + n then b2 (0 < n ∧ S x 9 (q + n) ≠ 0) else ccF Sa o x (q + n) (W + n) h a b i)
    (h3 : ∀ (a b : Nat) (i : Int), S3 a b i = if a = o ∧ b = 0 ∧ i = 0 then W + n + 1 else S2 a b i) (a b : Nat) (i : Int) : S3 a b i = apF S o x q W h (n + 1) a b i := by
  have zx : ∀ (b : Nat) (i : Int), Sa x b i = S x b i := fun b i => by rw [z, apF_x hx]
  rw [h3]
  by_cases a1 : a = o ∧ b = 0 ∧ i = 0
  · obtain ⟨rfl, rfl, rfl⟩ := a1
    rw [if_pos ⟨rfl, rfl, rfl⟩, apF_0]; omega
  rw [if_neg a1, h2]
  by_cases a2 : a = o ∧ b = 9 ∧ i = W + n
  · obtain ⟨rfl, rfl, rfl⟩ := a2
    rw [if_pos ⟨rfl, rfl, rfl⟩]
    unfold apF
    rw [if_neg (by omega), if_neg (by omega), if_pos ⟨rfl, rfl, by omega, by omega⟩, show W + n - W + q = q + n from by omega]
    exact b2_c (and_congr (by omega) Iff.rfl)
  rw [if_neg a2]
  by_cases a3 : a = o ∧ b = 8 ∧ i = W + n
  · obtain ⟨rfl, rfl, rfl⟩ := a3
    rw [ccF_8, zx]
    unfold apF
    rw [if_neg (by omega), if_pos ⟨rfl, rfl, by omega, by omega⟩, show W + n - W + q = q + n from by omega]
  by_cases a4 : a = o ∧ col3 b ∧ 0 ≤ i ∧ i % 24 = W + n ∧ i / 24 < h
  · obtain ⟨rfl, hb, a4⟩ := a4
    rw [ccF_t hb a4, zx]
    unfold apF
    rw [if_neg (by unfold col3 at hb; omega), if_neg (by unfold col3 at hb; omega), if_neg (by unfold col3 at hb; omega), if_pos ⟨rfl, hb, by omega, by omega, by omega, by omega⟩, show i - (W + n) + (q + n) = i - W + q from by omega]
  rw [ccF_f a3 a4, z]
  unfold apF
  rw [if_neg a1, if_neg a1]
  by_cases a5 : a = o ∧ b = 8 ∧ W ≤ i ∧ i < W + n
  · rw [if_pos a5, if_pos (by omega)]
  rw [if_neg a5, if_neg (fun y : a = o ∧ b = 8 ∧ W ≤ i ∧ i < W + (n + 1) => by by_cases hi : i = W + n; exact a3 ⟨y.1, y.2.1, hi⟩; exact a5 ⟨y.1, y.2.1, y.2.2.1, by omega⟩)]
  by_cases a6 : a = o ∧ b = 9 ∧ W ≤ i ∧ i < W + n
  · rw [if_pos a6, if_pos (by omega)]
  rw [if_neg a6, if_neg (fun y : a = o ∧ b = 9 ∧ W ≤ i ∧ i < W + (n + 1) => by by_cases hi : i = W + n; exact a2 ⟨y.1, y.2.1, hi⟩; exact a6 ⟨y.1, y.2.1, y.2.2.1, by omega⟩)]
  by_cases a7 : a = o ∧ col3 b ∧ 0 ≤ i ∧ W ≤ i % 24 ∧ i % 24 < W + n ∧ i / 24 < h
  · rw [if_pos a7, if_pos ⟨a7.1, a7.2.1, a7.2.2.1, a7.2.2.2.1, by omega, a7.2.2.2.2.2⟩]
  rw [if_neg a7, if_neg (fun y : a = o ∧ col3 b ∧ 0 ≤ i ∧ W ≤ i % 24 ∧ i % 24 < W + (n + 1) ∧ i / 24 < h => by by_cases hi : i % 24 = W + n; exact a4 ⟨y.1, y.2.1, y.2.2.1, hi, y.2.2.2.2.2⟩; exact a7 ⟨y.1, y.2.1, y.2.2.1, y.2.2.2.1, by omega, y.2.2.2.2.2⟩)]
/-- a piece drawn: the columns before C, and of C the rows before r; origins of those before D -/
def pcd (h C r j : Int) : Prop := 0 ≤ j ∧ j / 24 < h ∧ (j % 24 < C ∨ (j % 24 = C ∧ j / 24 < r))
noncomputable def dfF (S : St) (o x : Nat) (mir : Prop) (n h C r D : Int) : St := fun a b i =>
  @ite Int (a = o ∧ b = 0 ∧ i = 0) (Classical.propDecidable _) (S x 0 0)
  (@ite Int (a = o ∧ b = 8 ∧ 0 ≤ i ∧ i < D) (Classical.propDecidable _) (n * 24 + i)
  (@ite Int (a = o ∧ b = 5 ∧ pcd h C r i) (Classical.propDecidable _) (dcF S x (i / 24) (cif mir (S x 0 0 - 1 - i % 24) (i % 24)))
  (@ite Int (a = o ∧ b = 6 ∧ pcd h C r i) (Classical.propDecidable _) (-1) (S a b i))))
theorem dfF_x {S : St} {o x : Nat} {mir : Prop} {n h C r D i : Int} {a b : Nat} (hh : a ≠ o) : dfF S o x mir n h C r D a b i = S a b i := by
  unfold dfF
  rw [if_neg (fun y => hh y.1), if_neg (fun y => hh y.1), if_neg (fun y => hh y.1), if_neg (fun y => hh y.1)]
theorem dfF_0 {S : St} {o x : Nat} {mir : Prop} {n h C r D : Int} : dfF S o x mir n h C r D o 0 0 = S x 0 0 := by unfold dfF; exact if_pos ⟨rfl, rfl, rfl⟩
theorem dfF_o {S : St} {o x : Nat} {mir : Prop} {n h C r D i : Int} {a b : Nat} (hb : b ≠ 5 ∧ b ≠ 6 ∧ b ≠ 8) (hi : ¬ (b = 0 ∧ i = 0)) : dfF S o x mir n h C r D a b i = S a b i := by
  unfold dfF
  rw [if_neg (fun y => hi y.2), if_neg (by omega), if_neg (by omega), if_neg (by omega)]
theorem df_0 {S S' : St} {o x : Nat} {mir : Prop} {n h : Int} (q : ∀ (a b : Nat) (i : Int), S' a b i = if a = o ∧ b = 0 ∧ i = 0 then S x 0 0 else S a b i) (a b : Nat) (i : Int) : S' a b i = dfF S o x mir n h 0 0 0 a b i := by
  rw [q]
  unfold dfF
  by_cases h1 : a = o ∧ b = 0 ∧ i = 0
  · rw [if_pos h1, if_pos h1]
  · rw [if_neg h1, if_neg h1, if_neg (by omega), if_neg (by unfold pcd; omega), if_neg (by unfold pcd; omega)]
theorem df_8 {S Sa S' : St} {o x : Nat} {mir : Prop} {n h C : Int} (hC : 0 ≤ C) (z : ∀ (a b : Nat) (i : Int), Sa a b i = dfF S o x mir n h C 0 C a b i) (q : ∀ (a b : Nat) (i : Int), S' a b i = if a = o ∧ b = 8 ∧ i = C then n * 24 + C else Sa a b i) (a b : Nat) (i : Int) : S' a b i = dfF S o x mir n h C 0 (C + 1) a b i := by
  rw [q, z]
  unfold dfF
  by_cases h1 : a = o ∧ b = 8 ∧ i = C
  · rw [if_pos h1, if_neg (by omega), if_pos ⟨h1.1, h1.2.1, by omega, by omega⟩, h1.2.2]
  · rw [if_neg h1]
    by_cases h0 : a = o ∧ b = 0 ∧ i = 0
    · rw [if_pos h0, if_pos h0]
    rw [if_neg h0, if_neg h0]
    by_cases h2 : a = o ∧ b = 8 ∧ 0 ≤ i ∧ i < C
    · rw [if_pos h2, if_pos ⟨h2.1, h2.2.1, h2.2.2.1, by omega⟩]
    · rw [if_neg h2, if_neg (fun y : a = o ∧ b = 8 ∧ 0 ≤ i ∧ i < C + 1 => by by_cases hi : i = C; exact h1 ⟨y.1, y.2.1, hi⟩; exact h2 ⟨y.1, y.2.1, y.2.2.1, by omega⟩)]
theorem df_s {S Sa S1 S2 : St} {o x : Nat} {mir : Prop} {n h C r D : Int} (hr : 0 ≤ r ∧ r < h) (hC : 0 ≤ C ∧ C < 24) (z : ∀ (a b : Nat) (i : Int), Sa a b i = dfF S o x mir n h C r D a b i)
    (h1 : ∀ (a b : Nat) (i : Int), S1 a b i = if a = o ∧ b = 5 ∧ i = r * 24 + C then dcF S x r (cif mir (S x 0 0 - 1 - C) C) else Sa a b i)
    (h2 : ∀ (a b : Nat) (i : Int), S2 a b i = if a = o ∧ b = 6 ∧ i = r * 24 + C then -1 else S1 a b i) (a b : Nat) (i : Int) : S2 a b i = dfF S o x mir n h C (r + 1) D a b i := by
  have hp : pcd h C (r + 1) (r * 24 + C) := by unfold pcd; omega
  have hq : ∀ i, i ≠ r * 24 + C → (pcd h C (r + 1) i ↔ pcd h C r i) := by intro i hi; unfold pcd; omega
  rw [h2, h1, z]
  unfold dfF
  by_cases hi : i = r * 24 + C
  · subst hi
    by_cases k6 : a = o ∧ b = 6
    · obtain ⟨rfl, rfl⟩ := k6
      rw [if_pos ⟨rfl, rfl, rfl⟩, if_neg (by omega), if_neg (by omega), if_neg (by omega), if_pos ⟨rfl, rfl, hp⟩]
    by_cases k5 : a = o ∧ b = 5
    · obtain ⟨rfl, rfl⟩ := k5
      rw [if_neg (by omega), if_pos ⟨rfl, rfl, rfl⟩, if_neg (by omega), if_neg (by omega), if_pos ⟨rfl, rfl, hp⟩, show (r * 24 + C) / 24 = r from by omega, show (r * 24 + C) % 24 = C from by omega]
    rw [if_neg (fun y => k6 ⟨y.1, y.2.1⟩), if_neg (fun y => k5 ⟨y.1, y.2.1⟩)]
    rw [if_neg (c := a = o ∧ b = 5 ∧ _) (fun y => k5 ⟨y.1, y.2.1⟩), if_neg (c := a = o ∧ b = 6 ∧ _) (fun y => k6 ⟨y.1, y.2.1⟩), if_neg (c := a = o ∧ b = 5 ∧ _) (fun y => k5 ⟨y.1, y.2.1⟩), if_neg (c := a = o ∧ b = 6 ∧ _) (fun y => k6 ⟨y.1, y.2.1⟩)]
  · rw [if_neg (fun y => hi y.2.2), if_neg (fun y => hi y.2.2)]
    rw [propext (hq i hi)]
theorem df_n {S Sa : St} {o x : Nat} {mir : Prop} {n h C r D : Int} (hr : r = h) (z : ∀ (a b : Nat) (i : Int), Sa a b i = dfF S o x mir n h C r D a b i) (a b : Nat) (i : Int) : Sa a b i = dfF S o x mir n h (C + 1) 0 D a b i := by
  rw [z]
  unfold dfF
  rw [show pcd h C r i ↔ pcd h (C + 1) 0 i from by unfold pcd; omega]
