/-- what weave does -/
def wqP (ad : Nat → Nat → Nat) (S : St) (x w : Int) : Option Value → (Nat → Nat → Nat) → St → Prop := fun rr ad' S' => ad' = ad ∧
  ((¬ (isP S x ∧ (0 ≤ w ∧ w ≤ S 0 18 x - 1)) ∧ rr = some (.int (i32 0)) ∧ S' = st S 0 0 27 1) ∨
   ((isP S x ∧ (0 ≤ w ∧ w ≤ S 0 18 x - 1)) ∧ (¬ mwM S x w ∨ ∃ G c, w * S 0 21 x / S 0 18 x ≤ c ∧ c < (w + 1) * S 0 21 x / S 0 18 x ∧ wvG S x (S 0 20 (4 * x + w)) G (w * S 0 21 x / S 0 18 x) c ∧ gvM (wvF S x (S 0 20 (4 * x + w)) G (w * S 0 21 x / S 0 18 x) c) (S 0 25 (240 * x + 10 * c + S 0 20 (4 * x + w))) = -1) ∧ rr = some (.int (i32 0)) ∧ S' = st S 0 0 27 2) ∨
   ((isP S x ∧ (0 ≤ w ∧ w ≤ S 0 18 x - 1)) ∧ mwM S x w ∧ ∃ G, wvG S x (S 0 20 (4 * x + w)) G (w * S 0 21 x / S 0 18 x) ((w + 1) * S 0 21 x / S 0 18 x) ∧ rr = some (.int (i32 (S 0 20 (4 * x + w)))) ∧
     S' = st (st (wvF S x (S 0 20 (4 * x + w)) G (w * S 0 21 x / S 0 18 x) ((w + 1) * S 0 21 x / S 0 18 x)) 0 0 27 0) 0 20 (4 * x + w) (S 0 20 (4 * x + w) + 1)))
theorem b_r {A B : Prop} {b u : Int} (h : (A ∧ b = 0) ∨ (B ∧ b = u)) (hu : rng u) : rng b := by
  rcases h with ⟨-, h⟩ | ⟨-, h⟩ <;> rw [h]
  · exact rng_0
  · exact hu
theorem b_e {A : Prop} {b u : Int} (h : (¬ A ∧ b = 0) ∨ (A ∧ b = u)) (ha : A) : b = u := by
  rcases h with ⟨h1, -⟩ | ⟨-, h2⟩
  · exact absurd ha h1
  · exact h2
theorem dvb {w v d : Int} (h0 : 0 ≤ w) (h1 : w < v) (h2 : v ≤ 4) (h3 : 0 ≤ d) (h4 : d ≤ 12) : 0 ≤ w * d ∧ w * d ≤ 48 ∧ 0 ≤ (w + 1) * d ∧ (w + 1) * d ≤ 48 ∧ 0 ≤ w * d / v ∧ w * d / v ≤ (w + 1) * d / v ∧ (w + 1) * d / v ≤ d := by
  have a1 : 0 ≤ w * d := Int.mul_nonneg h0 h3
  have a2 : (w + 1) * d = w * d + d := by rw [Int.add_mul, Int.one_mul]
  have a3 : (w + 1) * d ≤ v * d := Int.mul_le_mul_of_nonneg_right (by omega) h3
  have a4 : v * d ≤ 48 := by have := Int.mul_le_mul h2 h4 h3 (by decide : (0 : Int) ≤ 4); omega
  have a5 : (w + 1) * d / v ≤ d := Int.ediv_le_of_le_mul (by omega) (by rw [Int.mul_comm d v]; exact a3)
  exact ⟨a1, by omega, by omega, by omega, Int.ediv_nonneg a1 (by omega), Int.ediv_le_ediv (by omega) (by omega), a5⟩
theorem wq_1 {S : St} {ad : Nat → Nat → Nat} {x w : Int} {B C : Prop} (h : ¬ (isP S x ∧ (0 ≤ w ∧ w ≤ S 0 18 x - 1))) : wqP ad S x w (some (.int (i32 0))) ad (st S 0 0 27 (thr (isP S x ∧ (0 ≤ w ∧ w ≤ S 0 18 x - 1)) B C)) :=
  ⟨rfl, Or.inl ⟨h, rfl, by rw [thr_1 h]⟩⟩
theorem wq_2 {S : St} {ad : Nat → Nat → Nat} {x w : Int} {C : Prop} (h : isP S x ∧ (0 ≤ w ∧ w ≤ S 0 18 x - 1)) (hm : ¬ mwM S x w) : wqP ad S x w (some (.int (i32 0))) ad (st S 0 0 27 (thr (isP S x ∧ (0 ≤ w ∧ w ≤ S 0 18 x - 1)) False C)) :=
  ⟨rfl, Or.inr (Or.inl ⟨h, Or.inl hm, rfl, by rw [thr_2 h not_false]⟩)⟩
theorem wq_3 {S : St} {ad : Nat → Nat → Nat} {x w b1 b2 b3 c : Int} {G : Int → Int} {C : Prop} (h : isP S x ∧ (0 ≤ w ∧ w ≤ S 0 18 x - 1)) (hm : mwM S x w) (e1 : b1 = S 0 20 (4 * x + w)) (e2 : b2 = w * S 0 21 x / S 0 18 x) (e3 : b3 = (w + 1) * S 0 21 x / S 0 18 x)
    (hc1 : b2 ≤ c) (hc2 : c < b3) (hG : wvG S x b1 G b2 c) (hg : gvM (wvF S x b1 G b2 c) (S 0 25 (240 * x + 10 * c + b1)) = -1) : wqP ad S x w (some (.int (i32 0))) ad (st S 0 0 27 (thr (isP S x ∧ (0 ≤ w ∧ w ≤ S 0 18 x - 1)) False C)) := by
  subst e1; subst e2; subst e3
  exact ⟨rfl, Or.inr (Or.inl ⟨h, Or.inr ⟨G, c, hc1, hc2, hG, hg⟩, rfl, by rw [thr_2 h not_false]⟩)⟩
theorem wq_4 {S : St} {ad : Nat → Nat → Nat} {x w b1 b2 b3 : Int} {G : Int → Int} (h : isP S x ∧ (0 ≤ w ∧ w ≤ S 0 18 x - 1)) (hm : mwM S x w) (e1 : b1 = S 0 20 (4 * x + w)) (e2 : b2 = w * S 0 21 x / S 0 18 x) (e3 : b3 = (w + 1) * S 0 21 x / S 0 18 x)
    (hG : wvG S x b1 G b2 b3) : wqP ad S x w (some (.int (i32 b1))) ad (st (st (wvF S x b1 G b2 b3) 0 0 27 (thr (isP S x ∧ (0 ≤ w ∧ w ≤ S 0 18 x - 1)) True True)) 0 20 (4 * x + w) (S 0 20 (4 * x + w) + 1)) := by
  subst e1; subst e2; subst e3
  exact ⟨rfl, Or.inr (Or.inr ⟨h, hm, G, hG, rfl, by rw [thr_0 h trivial trivial]⟩)⟩
