/-! ===== the class's own side: what its rows say ===== -/
noncomputable def dcF (S : St) (o : Nat) (r q : Int) : Int := cif (S o 3 (r * 12 + q) = 6) (cif ((r + q) % 2 = 0) (S o 0 3) (S o 0 4)) (S o 3 (r * 12 + q))
/-- the word copied over a row of a cartoon, up to the column n -/
def adF (S : St) (o : Nat) (n : Int) : St := fun a b i => if a = o ∧ b = 3 ∧ S o 0 1 * 12 ≤ i ∧ i < S o 0 1 * 12 + n then S 1 1 (i - S o 0 1 * 12) else S a b i
theorem adF_o {S : St} {o : Nat} {n : Int} {a b : Nat} {i : Int} (h : b ≠ 3) : adF S o n a b i = S a b i := by unfold adF; rw [if_neg (by omega)]
theorem ad_0 (S : St) (o : Nat) (a1 b1 : Nat) (i1 : Int) : S a1 b1 i1 = adF S o 0 a1 b1 i1 := by unfold adF; rw [if_neg (by omega)]
theorem ad_s {S Sa S' : St} {o : Nat} {n : Int} (z : ∀ (a b : Nat) (i : Int), Sa a b i = adF S o n a b i) (h0 : 0 ≤ n) (q : ∀ (a b : Nat) (i : Int), S' a b i = if a = o ∧ b = 3 ∧ i = S o 0 1 * 12 + n then S 1 1 n else Sa a b i) :
    ∀ (a b : Nat) (i : Int), S' a b i = adF S o (n + 1) a b i := by
  intro a b i
  rw [q, z]
  unfold adF
  by_cases h1 : a = o ∧ b = 3 ∧ i = S o 0 1 * 12 + n
  · rw [if_pos h1, if_pos ⟨h1.1, h1.2.1, by omega, by omega⟩, show i - S o 0 1 * 12 = n from by omega]
  · rw [if_neg h1]
    by_cases h2 : a = o ∧ b = 3 ∧ S o 0 1 * 12 ≤ i ∧ i < S o 0 1 * 12 + n
    · rw [if_pos h2, if_pos ⟨h2.1, h2.2.1, by omega, by omega⟩]
    · rw [if_neg h2, if_neg (by omega)]
def gvQ (S : St) (its : Int) : Int → Prop := fun k => S 2 2 k = its ∧ 0 < S 2 4 k
noncomputable def gvC (S : St) (its : Int) : Int := gf (gvQ S its) (S 2 0 0).toNat 0
noncomputable def thC (S : St) (its : Int) : Int := sm (fun j => cif (S 2 2 j = its) (S 2 4 j) 0) (S 2 0 0).toNat
noncomputable def tkS (S : St) (its : Int) : St := if gvC S its = -1 then S else st S 2 4 (gvC S its) (S 2 4 (gvC S its) - 1)
theorem tkS_o {S : St} {its : Int} {a b : Nat} {i : Int} (h : ¬ (a = 2 ∧ b = 4)) : tkS S its a b i = S a b i := by
  unfold tkS
  split
  · rfl
  · rw [st_at, if_neg (by omega)]
theorem tk_a {S : St} {its : Int} (h : gvC S its = -1) : tkS S its = S := if_pos h
theorem tk_b {S : St} {its k : Int} (h : gvC S its = k) (hk : 0 ≤ k) : tkS S its = st S 2 4 k (S 2 4 k - 1) := by
  unfold tkS
  rw [h, if_neg (by omega)]
theorem gvC_b (S : St) (its : Int) (h0 : 0 ≤ S 2 0 0) : -1 ≤ gvC S its ∧ gvC S its < S 2 0 0 ∨ gvC S its = -1 := by
  have : ∀ (n : Nat) (lo : Int), 0 ≤ lo → (-1 ≤ gf (gvQ S its) n lo ∧ gf (gvQ S its) n lo < lo + n) ∨ gf (gvQ S its) n lo = -1 := by
    intro n
    induction n with
    | zero => intro lo _; exact Or.inr rfl
    | succ n ih =>
      intro lo hlo
      show (-1 ≤ cif _ _ _ ∧ cif _ _ _ < _) ∨ cif _ _ _ = -1
      by_cases hp : gvQ S its lo
      · rw [cif_t hp]; left; omega
      · rw [cif_f hp]
        rcases ih (lo + 1) (by omega) with h | h
        · left; omega
        · exact Or.inr h
  rcases this (S 2 0 0).toNat 0 (by omega) with h | h
  · left
    refine ⟨h.1, ?_⟩
    have := h.2
    show gf (gvQ S its) (S 2 0 0).toNat 0 < _
    omega
  · exact Or.inr h
