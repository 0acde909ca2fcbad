theorem apF_8 {S : St} {o x : Nat} {q W h n j : Int} (hor : ∀ j : Int, 0 ≤ j → j < 24 → 0 ≤ S o 8 j ∧ S o 8 j ≤ 1000) (hor2 : ∀ j : Int, 0 ≤ j → j < 24 → 0 ≤ S x 8 j ∧ S x 8 j ≤ 1000) (hq : 0 ≤ q ∧ q + n ≤ 24) (h0 : 0 ≤ j) (h1 : j < 24) : 0 ≤ apF S o x q W h n o 8 j ∧ apF S o x q W h n o 8 j ≤ 1000 := by
  unfold apF
  rw [if_neg (by omega)]
  by_cases a : o = o ∧ 8 = 8 ∧ W ≤ j ∧ j < W + n
  · rw [if_pos a]
    exact hor2 _ (by omega) (by omega)
  · rw [if_neg a, if_neg (by omega), if_neg (by unfold col3; omega)]
    exact hor j h0 h1
noncomputable def jnS (S : St) (o x : Nat) (z : Int) : St := st (apF S o x 0 (S o 0 0) (S o 0 1) (S x 0 0 - 0)) 1 6 z 0
