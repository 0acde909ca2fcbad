/-! ===== what the class's calls answer ===== -/
noncomputable def pcC (S : St) (o : Nat) (w : Int) : Int := if w = 0 then S o 0 0 else if w = 1 then S o 0 1 else if w = 2 then wnC S o else if w = 3 then b2 (dnC S o) else if w = 4 then cif (dnC S o) (snC S o) 0 else shC S o
theorem pcC_0 {S : St} {o : Nat} {w : Int} (h : w = 0) : pcC S o w = S o 0 0 := by unfold pcC; rw [if_pos h]
theorem pcC_1 {S : St} {o : Nat} {w : Int} (h : w = 1) : pcC S o w = S o 0 1 := by unfold pcC; rw [if_neg (by omega), if_pos h]
theorem pcC_2 {S : St} {o : Nat} {w : Int} (h : w = 2) : pcC S o w = wnC S o := by unfold pcC; rw [if_neg (by omega), if_neg (by omega), if_pos h]
theorem pcC_3 {S : St} {o : Nat} {w : Int} (h : w = 3) : pcC S o w = b2 (dnC S o) := by unfold pcC; rw [if_neg (by omega), if_neg (by omega), if_neg (by omega), if_pos h]
theorem pcC_4 {S : St} {o : Nat} {w : Int} (h : w = 4) : pcC S o w = cif (dnC S o) (snC S o) 0 := by unfold pcC; rw [if_neg (by omega), if_neg (by omega), if_neg (by omega), if_neg (by omega), if_pos h]
theorem pcC_5 {S : St} {o : Nat} {w : Int} (h : w = 5) : pcC S o w = shC S o := by unfold pcC; rw [if_neg (by omega), if_neg (by omega), if_neg (by omega), if_neg (by omega), if_neg (by omega)]
noncomputable def ceF (S : St) (o : Nat) (r c w : Int) : Int := if w = 0 then S o 5 (r * 24 + c) else if w = 1 then S o 6 (r * 24 + c) else S o 7 (r * 24 + c)
theorem ceF_0 {S : St} {o : Nat} {r c w : Int} (h : w = 0) : ceF S o r c w = S o 5 (r * 24 + c) := by unfold ceF; rw [if_pos h]
theorem ceF_1 {S : St} {o : Nat} {r c w : Int} (h : w = 1) : ceF S o r c w = S o 6 (r * 24 + c) := by unfold ceF; rw [if_neg (by omega), if_pos h]
theorem ceF_2 {S : St} {o : Nat} {r c w : Int} (h : w = 2) : ceF S o r c w = S o 7 (r * 24 + c) := by unfold ceF; rw [if_neg (by omega), if_neg (by omega)]
noncomputable def ltS (S : St) (o : Nat) (h : Int) : St := clF S o 7 (fdU S o h) (S o 0 0) (S o 0 1) 0
noncomputable def waS (S : St) (o : Nat) : St := bst S o (nbK S o (S o 0 1) 0)
noncomputable def wvS (S : St) (o : Nat) (w : Int) : St := st (wrI S o (S o 4 w) (fcC S o w) (fcC S o (w + 1) - fcC S o w).toNat) o 4 w (S o 4 w + 1)
noncomputable def mtC (S : St) (o q : Nat) : Int := cif (S o 0 1 = S q 0 1) (mcC S o q) (-1)
noncomputable def lnC (S : St) (o q : Nat) : Int := cif (S o 0 1 = S q 0 1 ∧ S o 0 0 = S q 0 0) (if lkC S o q False < lkC S o q True then lkC S o q True else lkC S o q False) (-1)
def maC (S : St) (o : Nat) (w : Int) : Prop := S o 4 w < S o 0 1 ∧ ¬ ((0 < w ∧ S o 4 (w - 1) < S o 4 w) ∨ (w < S o 0 2 - 1 ∧ S o 4 (w + 1) < S o 4 w))
def tsC (S : St) (o : Nat) (w : Int) : Prop := ∀ j, 0 ≤ j → j < 6 → niC S o w j ≤ thC S j
noncomputable def gdC (S : St) : Int := sm (fun k => cif (S 1 6 k = 1) (woC S (10 + k.toNat) 5) 0) 20
noncomputable def tbN (S : St) (j k : Int) : Int := cif (S 1 6 k = 1) (atN S (10 + k.toNat) (S (10 + k.toNat) 0 1) 0 j) 0
noncomputable def tbC (S : St) (n j : Int) : Int := sm (tbN S j) n.toNat
/-- the rows of threads by lots, from the first n pieces -/
noncomputable def blS (S : St) (n : Int) : St := fun a b i => if a = 1 ∧ b = 8 ∧ 0 ≤ i ∧ i < 20 then tbC S n i else S a b i
theorem blS_o {S : St} {n : Int} {a b : Nat} {i : Int} (h : ¬ (a = 1 ∧ b = 8)) : blS S n a b i = S a b i := by unfold blS; rw [if_neg (by omega)]
theorem bl_f {S Sa : St} {j : Int} (z : ∀ (a b : Nat) (i : Int), Sa a b i = if a = 1 ∧ b = 8 ∧ 0 ≤ i ∧ i < j then 0 else S a b i) (h : j = 20) (a b : Nat) (i : Int) : Sa a b i = blS S 0 a b i := by
  rw [z, h]
  unfold blS
  rfl
theorem bl_z {S Sa S' : St} {j : Int} (z : ∀ (a b : Nat) (i : Int), Sa a b i = if a = 1 ∧ b = 8 ∧ 0 ≤ i ∧ i < j then 0 else S a b i) (h : 0 ≤ j) (q : ∀ (a b : Nat) (i : Int), S' a b i = if a = 1 ∧ b = 8 ∧ i = j then 0 else Sa a b i) (a b : Nat) (i : Int) : S' a b i = if a = 1 ∧ b = 8 ∧ 0 ≤ i ∧ i < j + 1 then 0 else S a b i := by
  rw [q, z]
  by_cases h1 : a = 1 ∧ b = 8 ∧ i = j
  · rw [if_pos h1, if_pos (by omega)]
  · rw [if_neg h1]
    by_cases h2 : a = 1 ∧ b = 8 ∧ 0 ≤ i ∧ i < j
    · rw [if_pos h2, if_pos (by omega)]
    · rw [if_neg h2, if_neg (by omega)]
theorem tb_t {S : St} {j n : Int} (h0 : 0 ≤ n) (h : S 1 6 n = 1) : tbC S (n + 1) j = tbC S n j + atN S (10 + n.toNat) (S (10 + n.toNat) 0 1) 0 j := by
  unfold tbC
  rw [sm_1 _ h0]
  unfold tbN
  rw [cif_t h]
theorem tb_f {S : St} {j n : Int} (h0 : 0 ≤ n) (h : ¬ S 1 6 n = 1) : tbC S (n + 1) j = tbC S n j := by
  unfold tbC
  rw [sm_1 _ h0]
  have : tbN S j n = 0 := by unfold tbN; rw [cif_f h]
  omega
theorem bl_u {S Sa : St} {n : Int} (z : ∀ (a b : Nat) (i : Int), Sa a b i = blS S n a b i) (h0 : 0 ≤ n) (h : ¬ S 1 6 n = 1) (a b : Nat) (i : Int) : Sa a b i = blS S (n + 1) a b i := by
  rw [z]
  unfold blS
  rw [tb_f h0 h]
theorem bl_s {S Sa S' : St} {n : Int} {o : Nat} (z : ∀ (a b : Nat) (i : Int), Sa a b i = blS S n a b i) (h0 : 0 ≤ n) (h : S 1 6 n = 1) (ho : 10 + n.toNat = o) (q : ∀ (a b : Nat) (i : Int), S' a b i = atF Sa o (Sa o 0 1) 0 a b i) (a b : Nat) (i : Int) : S' a b i = blS S (n + 1) a b i := by
  have e1 : ∀ r c, Sa o r c = S o r c := fun r c => by rw [z, blS_o (by omega)]
  have e2 : ∀ r c i, atN Sa o r c i = atN S o r c i := by
    intro r c i
    unfold atN
    simp only [e1]
  rw [q]
  unfold atF
  rw [e2, e1]
  by_cases h1 : a = 1 ∧ b = 8 ∧ 0 ≤ i ∧ i < 20
  · rw [if_pos h1, z]
    unfold blS
    rw [if_pos ⟨rfl, rfl, h1.2.2⟩, if_pos h1, tb_t h0 h, ho]
  · rw [if_neg h1, z]
    unfold blS
    rw [if_neg h1, if_neg h1]
theorem tb_b {S : St} (h : ∀ x, peC S x → pC S (10 + x.toNat)) (j n : Int) (hn : 0 ≤ n ∧ n ≤ 20) : 0 ≤ tbC S n j ∧ tbC S n j ≤ 5280 := by
  have := sm_b (f := tbN S j) (B := 264) (n := n.toNat) (by decide) (fun k h0 h1 => by
    unfold tbN
    by_cases q : S 1 6 k = 1
    · rw [cif_t q]
      obtain ⟨-, hw, hh, -⟩ := h k ⟨h0, by omega, q⟩
      exact atN_b S _ _ 0 j ⟨by omega, hw.2⟩ ⟨by omega, hh.2⟩ (by decide)
    · rw [cif_f q]; exact ⟨by decide, by decide⟩)
  unfold tbC
  omega
theorem lkC_r {S : St} {o q : Nat} {mir : Prop} (hw : 0 ≤ S o 0 0 ∧ S o 0 0 ≤ 24) (hh : 0 ≤ S o 0 1 ∧ S o 0 1 ≤ 10) : rng (lkC S o q mir) := by
  have := lkC_b S o q mir hw hh
  exact ⟨by omega, by omega⟩
