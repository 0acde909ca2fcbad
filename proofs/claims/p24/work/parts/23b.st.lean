/-! ===== washing ===== -/
noncomputable def snF (S : St) (o : Nat) (r c L : Int) : St := @ite St ((0 ≤ r ∧ r < S o 0 1 ∧ 0 ≤ c ∧ c < S o 0 0) ∧ S o 6 (r * 24 + c) ≠ L) (Classical.propDecidable _) (st S o 7 (r * 24 + c) (mx0 (S o 7 (r * 24 + c) - 5))) S
theorem snF_t {S : St} {o : Nat} {r c L : Int} (h : (0 ≤ r ∧ r < S o 0 1 ∧ 0 ≤ c ∧ c < S o 0 0) ∧ S o 6 (r * 24 + c) ≠ L) : snF S o r c L = st S o 7 (r * 24 + c) (mx0 (S o 7 (r * 24 + c) - 5)) := if_pos h
theorem snF_f {S : St} {o : Nat} {r c L : Int} (h : ¬ ((0 ≤ r ∧ r < S o 0 1 ∧ 0 ≤ c ∧ c < S o 0 0) ∧ S o 6 (r * 24 + c) ≠ L)) : snF S o r c L = S := if_neg h
theorem snF_o {S : St} {o : Nat} {r c L : Int} {a b : Nat} {i : Int} (h : b ≠ 7) : snF S o r c L a b i = S a b i := by
  unfold snF
  split
  · rw [st_at, if_neg (by omega)]
  · rfl
theorem sn_h {S S' : St} {o : Nat} {r c L : Int} (hs : ∀ j : Int, 0 ≤ j → j < 240 → 0 ≤ S o 7 j ∧ S o 7 j ≤ 100) (q : ∀ (a b : Nat) (i : Int), S' a b i = snF S o r c L a b i) (j : Int) (h0 : 0 ≤ j) (h1 : j < 240) : 0 ≤ S' o 7 j ∧ S' o 7 j ≤ 100 := by
  rw [q]
  unfold snF
  split
  · rw [st_at]
    split
    · rename_i e
      have := hs j h0 h1
      rw [e.2.2] at this
      exact mx0_b (by omega) (by decide)
    · exact hs j h0 h1
  · exact hs j h0 h1
def inC (S : St) (o : Nat) (i : Int) : Prop := 0 ≤ i ∧ i % 24 < S o 0 0 ∧ i / 24 < S o 0 1
/-- every cell of a piece stained as often as K says -/
noncomputable def bst (S : St) (o : Nat) (K : Int → Int) : St := fun a b i => @ite Int (a = o ∧ b = 7 ∧ inC S o i) (Classical.propDecidable _) (mx0 (S o 7 i - 5 * K i)) (S a b i)
theorem bst_t {S : St} {o : Nat} {K : Int → Int} {i : Int} (h : inC S o i) : bst S o K o 7 i = mx0 (S o 7 i - 5 * K i) := by unfold bst; exact if_pos ⟨rfl, rfl, h⟩
theorem bst_f {S : St} {o : Nat} {K : Int → Int} {i : Int} {a b : Nat} (h : ¬ (a = o ∧ b = 7 ∧ inC S o i)) : bst S o K a b i = S a b i := by unfold bst; exact if_neg h
theorem bst_o {S : St} {o : Nat} {K : Int → Int} {i : Int} {a b : Nat} (h : b ≠ 7) : bst S o K a b i = S a b i := bst_f (fun y => h y.2.1)
theorem bst_c {S : St} {o : Nat} {K K' : Int → Int} (h : ∀ i, inC S o i → K i = K' i) : bst S o K = bst S o K' := by
  funext a b i
  by_cases q : a = o ∧ b = 7 ∧ inC S o i
  · obtain ⟨rfl, rfl, q⟩ := q
    rw [bst_t q, bst_t q, h i q]
  · rw [bst_f q, bst_f q]
theorem bst_sn {S : St} {o : Nat} {K : Int → Int} {r c L : Int} (hw : S o 0 0 ≤ 24) : snF (bst S o K) o r c L = bst S o (fun i => K i + b2 (i / 24 = r ∧ i % 24 = c ∧ S o 6 i ≠ L)) := by
  have e0 : bst S o K o 0 0 = S o 0 0 := bst_o (by decide)
  have e1 : bst S o K o 0 1 = S o 0 1 := bst_o (by decide)
  have e6 : bst S o K o 6 (r * 24 + c) = S o 6 (r * 24 + c) := bst_o (by decide)
  by_cases h : (0 ≤ r ∧ r < S o 0 1 ∧ 0 ≤ c ∧ c < S o 0 0) ∧ S o 6 (r * 24 + c) ≠ L
  · rw [snF_t (by rw [e0, e1, e6]; exact h)]
    obtain ⟨⟨h0, h1, h2, h3⟩, h4⟩ := h
    have hi : inC S o (r * 24 + c) := by unfold inC; omega
    funext a b i
    rw [st_at]
    by_cases q : a = o ∧ b = 7 ∧ i = r * 24 + c
    · obtain ⟨rfl, rfl, rfl⟩ := q
      rw [if_pos ⟨rfl, rfl, rfl⟩, bst_t hi, bst_t hi, b2_t ⟨by omega, by omega, h4⟩, mx0_5]
    · rw [if_neg q]
      by_cases q2 : a = o ∧ b = 7 ∧ inC S o i
      · obtain ⟨rfl, rfl, q2⟩ := q2
        rw [bst_t q2, bst_t q2]
        rw [b2_f (fun y => q ⟨rfl, rfl, by omega⟩), Int.add_zero]
      · rw [bst_f q2, bst_f q2]
  · rw [snF_f (by rw [e0, e1, e6]; exact h)]
    refine bst_c (fun i hi => ?_)
    rw [b2_f, Int.add_zero]
    intro y
    obtain ⟨rfl, rfl, y3⟩ := y
    unfold inC at hi
    refine h ⟨⟨by omega, by omega, by omega, by omega⟩, ?_⟩
    rw [show i / 24 * 24 + i % 24 = i from by omega]
    exact y3
def nbP (S : St) (o : Nat) (r c i dr dc : Int) : Prop := (0 ≤ i / 24 + dr ∧ i / 24 + dr < S o 0 1 ∧ 0 ≤ i % 24 + dc ∧ i % 24 + dc < S o 0 0) ∧ (i / 24 + dr < r ∨ (i / 24 + dr = r ∧ i % 24 + dc < c)) ∧ S 2 6 (S o 6 ((i / 24 + dr) * 24 + (i % 24 + dc))) ≠ 0 ∧ S o 6 i ≠ S o 6 ((i / 24 + dr) * 24 + (i % 24 + dc))
/-- how many of a cell's neighbours before (r, c) stain it -/
noncomputable def nbK (S : St) (o : Nat) (r c i : Int) : Int := b2 (nbP S o r c i 0 1) + b2 (nbP S o r c i 0 (-1)) + b2 (nbP S o r c i 1 0) + b2 (nbP S o r c i (-1) 0)
theorem nbK_b (S : St) (o : Nat) (r c i : Int) : 0 ≤ nbK S o r c i := by
  have h1 := b2_b (nbP S o r c i 0 1)
  have h2 := b2_b (nbP S o r c i 0 (-1))
  have h3 := b2_b (nbP S o r c i 1 0)
  have h4 := b2_b (nbP S o r c i (-1) 0)
  unfold nbK
  omega
theorem nb_n {S : St} {o : Nat} {r i dr dc : Int} : nbP S o r (S o 0 0) i dr dc ↔ nbP S o (r + 1) 0 i dr dc := by
  unfold nbP
  refine and_congr_right (fun h => and_congr ?_ Iff.rfl)
  omega
theorem nb_s {S : St} {o : Nat} {r c i dr dc : Int} (hr : 0 ≤ r ∧ r < S o 0 1) (hc : 0 ≤ c ∧ c < S o 0 0) (hb : S 2 6 (S o 6 (r * 24 + c)) ≠ 0) : b2 (nbP S o r (c + 1) i dr dc) = b2 (nbP S o r c i dr dc) + b2 (i / 24 = r - dr ∧ i % 24 = c - dc ∧ S o 6 i ≠ S o 6 (r * 24 + c)) := by
  by_cases h : i / 24 + dr = r ∧ i % 24 + dc = c
  · obtain ⟨h1, h2⟩ := h
    have e : b2 (nbP S o r c i dr dc) = 0 := b2_f (by unfold nbP; rw [h1, h2]; omega)
    rw [e, Int.zero_add]
    refine b2_c ?_
    unfold nbP
    rw [h1, h2]
    refine ⟨fun y => ⟨by omega, by omega, y.2.2.2⟩, fun y => ⟨⟨hr.1, hr.2, hc.1, hc.2⟩, by omega, hb, y.2.2⟩⟩
  · have e : b2 (i / 24 = r - dr ∧ i % 24 = c - dc ∧ S o 6 i ≠ S o 6 (r * 24 + c)) = 0 := b2_f (fun y => h ⟨by omega, by omega⟩)
    rw [e, Int.add_zero]
    refine b2_c ?_
    unfold nbP
    refine and_congr_right (fun _ => and_congr ?_ Iff.rfl)
    omega
theorem nb_u {S : St} {o : Nat} {r c i dr dc : Int} (hb : S 2 6 (S o 6 (r * 24 + c)) = 0) : b2 (nbP S o r (c + 1) i dr dc) = b2 (nbP S o r c i dr dc) := by
  refine b2_c ?_
  unfold nbP
  refine and_congr_right (fun _ => ⟨fun y => ⟨?_, y.2⟩, fun y => ⟨by omega, y.2⟩⟩)
  by_cases h : i / 24 + dr = r ∧ i % 24 + dc = c
  · exfalso
    have := y.2.1
    rw [h.1, h.2] at this
    exact this hb
  · omega
theorem bd_0 (S : St) (o : Nat) (a b : Nat) (i : Int) (hs : ∀ j : Int, 0 ≤ j → j < 240 → 0 ≤ S o 7 j ∧ S o 7 j ≤ 100) (hw : S o 0 0 ≤ 24) (hh : S o 0 1 ≤ 10) : S a b i = bst S o (nbK S o 0 0) a b i := by
  by_cases q : a = o ∧ b = 7 ∧ inC S o i
  · obtain ⟨rfl, rfl, q⟩ := q
    have e : nbK S a 0 0 i = 0 := by
      unfold nbK
      rw [b2_f (by unfold nbP; omega), b2_f (by unfold nbP; omega), b2_f (by unfold nbP; omega), b2_f (by unfold nbP; omega)]
      rfl
    have q2 := q
    unfold inC at q2
    rw [bst_t q, e, mx0_p (by have := hs i (by omega) (by omega); omega)]
    omega
  · rw [bst_f q]
theorem bd_n {S Sa : St} {o : Nat} {r c : Int} (z : ∀ (a b : Nat) (i : Int), Sa a b i = bst S o (nbK S o r c) a b i) (hc : c = S o 0 0) (a b : Nat) (i : Int) : Sa a b i = bst S o (nbK S o (r + 1) 0) a b i := by
  rw [z, bst_c (K' := nbK S o (r + 1) 0)]
  intro i _
  unfold nbK
  rw [hc, b2_c nb_n, b2_c nb_n, b2_c nb_n, b2_c nb_n]
theorem bd_u {S Sa : St} {o : Nat} {r c : Int} (z : ∀ (a b : Nat) (i : Int), Sa a b i = bst S o (nbK S o r c) a b i) (hb : S 2 6 (S o 6 (r * 24 + c)) = 0) (a b : Nat) (i : Int) : Sa a b i = bst S o (nbK S o r (c + 1)) a b i := by
  rw [z, bst_c (K' := nbK S o r (c + 1))]
  intro i _
  unfold nbK
  rw [nb_u hb, nb_u hb, nb_u hb, nb_u hb]
theorem bd_s {S Sa S' : St} {o : Nat} {r c L : Int} (z : ∀ (a b : Nat) (i : Int), Sa a b i = bst S o (nbK S o r c) a b i) (hr : 0 ≤ r ∧ r < S o 0 1) (hc : 0 ≤ c ∧ c < S o 0 0) (hw : S o 0 0 ≤ 24) (hL : L = S o 6 (r * 24 + c)) (hb : S 2 6 L ≠ 0)
    (q : S' = snF (snF (snF (snF Sa o r (c - 1) L) o r (c + 1) L) o (r - 1) c L) o (r + 1) c L) (a b : Nat) (i : Int) : S' a b i = bst S o (nbK S o r (c + 1)) a b i := by
  have e : Sa = bst S o (nbK S o r c) := by funext a b i; exact z a b i
  subst hL
  rw [q, e, bst_sn hw, bst_sn hw, bst_sn hw, bst_sn hw, bst_c (K' := nbK S o r (c + 1))]
  intro i _
  unfold nbK
  rw [nb_s hr hc hb, nb_s hr hc hb, nb_s hr hc hb, nb_s hr hc hb, show c - -1 = c + 1 from by omega, show r - -1 = r + 1 from by omega, show r - 0 = r from by omega, show c - 0 = c from by omega]
  omega
theorem bd_h {S Sa : St} {o : Nat} {r c : Int} (z : ∀ (a b : Nat) (i : Int), Sa a b i = bst S o (nbK S o r c) a b i) (hs : ∀ j : Int, 0 ≤ j → j < 240 → 0 ≤ S o 7 j ∧ S o 7 j ≤ 100) (j : Int) (h0 : 0 ≤ j) (h1 : j < 240) : 0 ≤ Sa o 7 j ∧ Sa o 7 j ≤ 100 := by
  rw [z]
  by_cases q : inC S o j
  · rw [bst_t q]
    have := nbK_b S o r c j
    have := hs j h0 h1
    exact mx0_b (by omega) (by decide)
  · rw [bst_f (fun y => q y.2.2)]
    exact hs j h0 h1
