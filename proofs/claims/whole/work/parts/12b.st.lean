/-- a call of the reference that goes on if A, B, C hold -/
def mP (ad : Nat → Nat → Nat) (A B C : Prop) (S : St) (R : Option Value) (F : St → Prop) : Option Value → (Nat → Nat → Nat) → St → Prop := fun r ad' S' => ad' = ad ∧ ((¬ (A ∧ B ∧ C) ∧ r = some (.int (i32 0)) ∧ S' = st S 0 0 27 (thr A B C)) ∨ ((A ∧ B ∧ C) ∧ r = R ∧ F S'))
def mPv (ad : Nat → Nat → Nat) (A B C : Prop) (S : St) (R : Option Value) (F : St → Prop) : Option Value → (Nat → Nat → Nat) → St → Prop := fun r ad' S' => ad' = ad ∧ ((¬ (A ∧ B ∧ C) ∧ r = none ∧ S' = st S 0 0 27 (thr A B C)) ∨ ((A ∧ B ∧ C) ∧ r = R ∧ F S'))
theorem ri {a b : Int} (h : a = b) : some (Value.int (i32 a)) = some (Value.int (i32 b)) := by rw [h]
theorem sg_rng (z : Int) : rng (sg z) := by
  unfold sg
  repeat' split
  all_goals exact ⟨by decide, by decide⟩
def riM (S : St) (x q : Int) : Prop := S 0 22 (24 * x + q - 1) = S 0 22 (24 * x + q) ∧ S 0 23 (24 * x + q - 1) + 1 = S 0 23 (24 * x + q)
