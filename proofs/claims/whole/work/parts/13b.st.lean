noncomputable def stM (S : St) (x : Int) : Int := cif (dnM S x) (sm (fun i => b2 (slM S x (i + 1))) (S 0 16 x - 1).toNat) 0
theorem stM_1 {S : St} {x q : Int} (hq : 1 ≤ q ∧ (q = 1 ∨ q ≤ S 0 16 x)) (hg : ¬ dnM S x → q = 1) (hc : S 0 16 x ≤ q) : sm (fun i => b2 (slM S x (i + 1))) (q - 1).toNat = stM S x := by
  unfold stM
  by_cases h : dnM S x
  · rw [cif_t h, show (q - 1).toNat = (S 0 16 x - 1).toNat from by omega]
  · rw [cif_f h, hg h]; rfl
theorem stM_2 {S : St} {x q : Int} (hg : ¬ dnM S x → q = 1) (h : ¬ dnM S x) : sm (fun i => b2 (slM S x (i + 1))) (q - 1).toNat = stM S x := by
  unfold stM
  rw [cif_f h, hg h]; rfl
def trM (S : St) (x : Int) : Prop := ∀ j, 1 ≤ j → j < S 0 16 x → riM S x j
theorem all_1 {φ : Int → Prop} {i : Int} (h : 1 ≤ i) : (∀ j, 1 ≤ j → j < i + 1 → φ j) ↔ (∀ j, 1 ≤ j → j < i → φ j) ∧ φ i := by
  refine ⟨fun q => ⟨fun j h0 h1 => q j h0 (by omega), q i h (by omega)⟩, fun q j h0 h1 => ?_⟩
  by_cases e : j = i
  · rw [e]; exact q.2
  · exact q.1 j h0 (by omega)
noncomputable def gdM (S : St) : Int := sm (fun k => cif (S 0 10 k = 5) (woM S k) 0) (S 0 0 8).toNat
noncomputable def blM (S : St) : Prop := ∀ j, 0 ≤ j → j < S 0 0 8 → woM S j = S 0 11 j - S 0 12 j
theorem sm_b {f : Int → Int} {B : Int} {n : Nat} (hB : 0 ≤ B) (h : ∀ i : Int, 0 ≤ i → i < n → 0 ≤ f i ∧ f i ≤ B) : 0 ≤ sm f n ∧ sm f n ≤ n * B := by
  induction n with
  | zero => exact ⟨Int.le_refl _, by show (0 : Int) ≤ ((0 : Nat) : Int) * B; omega⟩
  | succ n ih =>
    obtain ⟨h1, h2⟩ := ih (fun i h0 h1 => h i h0 (by omega))
    obtain ⟨h3, h4⟩ := h n (by omega) (by omega)
    refine ⟨by show 0 ≤ sm f n + f n; omega, ?_⟩
    show sm f n + f n ≤ ((n + 1 : Nat) : Int) * B
    rw [show ((n + 1 : Nat) : Int) * B = n * B + B from by rw [Int.natCast_succ, Int.add_mul, Int.one_mul]]
    omega
theorem b2_b (φ : Prop) : 0 ≤ b2 φ ∧ b2 φ ≤ 1 := by rcases b2_01 φ with h | h <;> rw [h] <;> decide
theorem woM_b {S : St} (hw : wM S) (its : Int) : 0 ≤ woM S its ∧ woM S its ≤ 4800 := by
  obtain ⟨h1, h2⟩ := hw.ps
  have := sm_b (f := wpM S its) (B := 240) (n := (S 0 0 14).toNat) (by decide) (fun x h0 hx => by
    obtain ⟨hc1, hc2, hr1, hr2, -⟩ := hw.pc x h0 (by omega)
    unfold wpM
    by_cases hg : S 0 19 x = 0
    · rw [cif_t hg]
      have hA := sm_b (f := fun n => b2 (cM S 26 x n = its)) (B := 1) (n := (S 0 16 x * S 0 17 x).toNat) (by decide) (fun i _ _ => b2_b _)
      have hB := mul240 hc1 hc2 hr1 hr2
      have hC : 0 ≤ S 0 16 x * S 0 17 x := Int.mul_nonneg hc1 hr1
      omega
    · rw [cif_f hg]; decide)
  unfold woM
  omega
