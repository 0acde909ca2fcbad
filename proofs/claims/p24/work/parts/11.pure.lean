/-! ===== pure helpers ===== -/
theorem b2_n {a : Int} {φ : Prop} (h : a = b2 φ) : a ≠ 0 ↔ φ := by
  rw [h]
  refine ⟨fun q => Classical.byContradiction fun r => q (b2_f r), fun q => ?_⟩
  rw [b2_t q]
  decide
theorem all_s {φ : Int → Prop} {i : Int} (h : 0 ≤ i) : (∀ j, 0 ≤ j → j < i + 1 → φ j) ↔ (∀ j, 0 ≤ j → j < i → φ j) ∧ φ i := by
  refine ⟨fun q => ⟨fun j h0 h1 => q j h0 (by omega), q i h (by omega)⟩, fun q j h0 h1 => ?_⟩
  by_cases e : j = i
  · rw [e]; exact q.2
  · exact q.1 j h0 (by omega)
theorem ex_s {φ : Int → Prop} {i : Int} (h : 0 ≤ i) : (∃ j, 0 ≤ j ∧ j < i + 1 ∧ φ j) ↔ (∃ j, 0 ≤ j ∧ j < i ∧ φ j) ∨ φ i := by
  refine ⟨fun ⟨j, h0, h1, h2⟩ => ?_, fun q => ?_⟩
  · by_cases e : j = i
    · rw [e] at h2; exact Or.inr h2
    · exact Or.inl ⟨j, h0, by omega, h2⟩
  · rcases q with ⟨j, h0, h1, h2⟩ | q
    · exact ⟨j, h0, by omega, h2⟩
    · exact ⟨i, h, by omega, q⟩
/-- how many rows up to the last of n are unlike, one above the other -/
noncomputable def rl (u : Int → Prop) : Nat → Int
  | 0 => 0
  | n + 1 => @ite Int (u n) (Classical.propDecidable _) (rl u n + 1) 0
theorem rl_t (u : Int → Prop) {i : Int} (h : 0 ≤ i) (hu : u i) : rl u (i + 1).toNat = rl u i.toNat + 1 := by
  obtain ⟨n, rfl⟩ := Int.eq_ofNat_of_zero_le h
  show rl u (n + 1) = rl u n + 1
  unfold rl
  rw [if_pos hu]
  cases n <;> rfl
theorem rl_f (u : Int → Prop) {i : Int} (h : 0 ≤ i) (hu : ¬ u i) : rl u (i + 1).toNat = 0 := by
  obtain ⟨n, rfl⟩ := Int.eq_ofNat_of_zero_le h
  show rl u (n + 1) = 0
  unfold rl
  rw [if_neg hu]
noncomputable def cif (φ : Prop) (a b : Int) : Int := @ite Int φ (Classical.propDecidable φ) a b
theorem cif_t {φ : Prop} {a b : Int} (h : φ) : cif φ a b = a := by unfold cif; exact if_pos h
theorem cif_f {φ : Prop} {a b : Int} (h : ¬ φ) : cif φ a b = b := by unfold cif; exact if_neg h
theorem dmb {n C R : Int} (h0 : 0 ≤ n) (h1 : n < C * R) (hR : 0 < R) : 0 ≤ n / R ∧ n / R < C ∧ 0 ≤ n % R ∧ n % R < R :=
  ⟨Int.ediv_nonneg h0 (by omega), Int.ediv_lt_of_lt_mul hR h1, Int.emod_nonneg _ (by omega), Int.emod_lt_of_pos _ hR⟩
theorem mul240 {C R : Int} (h1 : 0 ≤ C) (h2 : C ≤ 24) (h3 : 0 ≤ R) (h4 : R ≤ 10) : C * R ≤ 240 := by
  have := Int.mul_le_mul h2 h4 h3 (by decide : (0 : Int) ≤ 24)
  omega
/-- the first from lo on, out of n, for which φ holds; -1 -/
noncomputable def gf (φ : Int → Prop) : Nat → Int → Int
  | 0, _ => -1
  | n + 1, lo => cif (φ lo) lo (gf φ n (lo + 1))
theorem gf_s (φ : Int → Prop) {n : Int} (lo : Int) (h : 0 ≤ n) : gf φ (n + 1).toNat lo = cif (φ lo) lo (gf φ n.toNat (lo + 1)) := by
  obtain ⟨m, rfl⟩ := Int.eq_ofNat_of_zero_le h
  rfl
theorem ri {a b : Int} (h : a = b) : some (Value.int (i32 a)) = some (Value.int (i32 b)) := by rw [h]
theorem sg_rng (z : Int) : rng (sg z) := by
  unfold sg
  repeat' split
  all_goals exact ⟨by decide, by decide⟩
theorem all_1 {φ : Int → Prop} {i : Int} (h : 1 ≤ i) : (∀ j, 1 ≤ j → j < i + 1 → φ j) ↔ (∀ j, 1 ≤ j → j < i → φ j) ∧ φ i := by
  refine ⟨fun q => ⟨fun j h0 h1 => q j h0 (by omega), q i h (by omega)⟩, fun q j h0 h1 => ?_⟩
  by_cases e : j = i
  · rw [e]; exact q.2
  · exact q.1 j h0 (by omega)
theorem sm_b {f : Int → Int} {B : Int} {n : Nat} (hB : 0 ≤ B) (h : ∀ i : Int, 0 ≤ i → i < n → 0 ≤ f i ∧ f i ≤ B) : 0 ≤ sm f n ∧ sm f n ≤ n * B := by
  induction n with
  | zero => exact ⟨Int.le_refl _, by show (0 : Int) ≤ ((0 : Nat) : Int) * B; omega⟩
  | succ n ih =>
    obtain ⟨h1, h2⟩ := ih (fun i h0 h1 => h i h0 (by omega))
    obtain ⟨h3, h4⟩ := h n (by omega) (by omega)
    refine ⟨by show 0 ≤ sm f n + f n; omega, ?_⟩
    show sm f n + f n ≤ ((n + 1 : Nat) : Int) * B
    rw [show ((n + 1 : Nat) : Int) * B = n * B + B from by rw [Int.natCast_succ, Int.add_mul, Int.one_mul]]
    omega
theorem b2_b (φ : Prop) : 0 ≤ b2 φ ∧ b2 φ ≤ 1 := by rcases b2_01 φ with h | h <;> rw [h] <;> decide
theorem b_r {A B : Prop} {b u : Int} (h : (A ∧ b = 0) ∨ (B ∧ b = u)) (hu : rng u) : rng b := by
  rcases h with ⟨-, h⟩ | ⟨-, h⟩ <;> rw [h]
  · exact rng_0
  · exact hu
theorem b_e {A : Prop} {b u : Int} (h : (¬ A ∧ b = 0) ∨ (A ∧ b = u)) (ha : A) : b = u := by
  rcases h with ⟨h1, -⟩ | ⟨-, h2⟩
  · exact absurd ha h1
  · exact h2
theorem dvb {w v d : Int} (h0 : 0 ≤ w) (h1 : w < v) (h2 : v ≤ 4) (h3 : 0 ≤ d) (h4 : d ≤ 12) : 0 ≤ w * d ∧ w * d ≤ 48 ∧ 0 ≤ (w + 1) * d ∧ (w + 1) * d ≤ 48 ∧ 0 ≤ w * d / v ∧ w * d / v ≤ (w + 1) * d / v ∧ (w + 1) * d / v ≤ d := by
  have a1 : 0 ≤ w * d := Int.mul_nonneg h0 h3
  have a2 : (w + 1) * d = w * d + d := by rw [Int.add_mul, Int.one_mul]
  have a3 : (w + 1) * d ≤ v * d := Int.mul_le_mul_of_nonneg_right (by omega) h3
  have a4 : v * d ≤ 48 := by have := Int.mul_le_mul h2 h4 h3 (by decide : (0 : Int) ≤ 4); omega
  have a5 : (w + 1) * d / v ≤ d := Int.ediv_le_of_le_mul (by omega) (by rw [Int.mul_comm d v]; exact a3)
  exact ⟨a1, by omega, by omega, by omega, Int.ediv_nonneg a1 (by omega), Int.ediv_le_ediv (by omega) (by omega), a5⟩
/-! ===== the class's own side: what its rows say ===== -/
noncomputable def dcF (S : St) (o : Nat) (r q : Int) : Int := cif (S o 3 (r * 12 + q) = 6) (cif ((r + q) % 2 = 0) (S o 0 3) (S o 0 4)) (S o 3 (r * 12 + q))
/-- the word copied over a row of a cartoon, up to the column n -/
def adF (S : St) (o : Nat) (n : Int) : St := fun a b i => if a = o ∧ b = 3 ∧ S o 0 1 * 12 ≤ i ∧ i < S o 0 1 * 12 + n then S 1 1 (i - S o 0 1 * 12) else S a b i
theorem adF_o {S : St} {o : Nat} {n : Int} {a b : Nat} {i : Int} (h : b ≠ 3) : adF S o n a b i = S a b i := by unfold adF; rw [if_neg (by omega)]
theorem ad_0 (S : St) (o : Nat) (a1 b1 : Nat) (i1 : Int) : S a1 b1 i1 = adF S o 0 a1 b1 i1 := by unfold adF; rw [if_neg (by omega)]
theorem ad_s {S Sa S' : St} {o : Nat} {n : Int} (z : ∀ (a b : Nat) (i : Int), Sa a b i = adF S o n a b i) (h0 : 0 ≤ n) (q : ∀ (a b : Nat) (i : Int), S' a b i = if a = o ∧ b = 3 ∧ i = S o 0 1 * 12 + n then S 1 1 n else Sa a b i) :
    ∀ (a b : Nat) (i : Int), S' a b i = adF S o (n + 1) a b i := by
  intro a b i
  rw [q, z]
  unfold adF
  by_cases h1 : a = o ∧ b = 3 ∧ i = S o 0 1 * 12 + n
  · rw [if_pos h1, if_pos ⟨h1.1, h1.2.1, by omega, by omega⟩, show i - S o 0 1 * 12 = n from by omega]
  · rw [if_neg h1]
    by_cases h2 : a = o ∧ b = 3 ∧ S o 0 1 * 12 ≤ i ∧ i < S o 0 1 * 12 + n
    · rw [if_pos h2, if_pos ⟨h2.1, h2.2.1, by omega, by omega⟩]
    · rw [if_neg h2, if_neg (by omega)]
def gvQ (S : St) (its : Int) : Int → Prop := fun k => S 2 2 k = its ∧ 0 < S 2 4 k
noncomputable def gvC (S : St) (its : Int) : Int := gf (gvQ S its) (S 2 0 0).toNat 0
noncomputable def thC (S : St) (its : Int) : Int := sm (fun j => cif (S 2 2 j = its) (S 2 4 j) 0) (S 2 0 0).toNat
noncomputable def tkS (S : St) (its : Int) : St := if gvC S its = -1 then S else st S 2 4 (gvC S its) (S 2 4 (gvC S its) - 1)
theorem tkS_o {S : St} {its : Int} {a b : Nat} {i : Int} (h : ¬ (a = 2 ∧ b = 4)) : tkS S its a b i = S a b i := by
  unfold tkS
  split
  · rfl
  · rw [st_at, if_neg (by omega)]
theorem tk_a {S : St} {its : Int} (h : gvC S its = -1) : tkS S its = S := if_pos h
theorem tk_b {S : St} {its k : Int} (h : gvC S its = k) (hk : 0 ≤ k) : tkS S its = st S 2 4 k (S 2 4 k - 1) := by
  unfold tkS
  rw [h, if_neg (by omega)]
theorem gvC_b (S : St) (its : Int) (h0 : 0 ≤ S 2 0 0) : -1 ≤ gvC S its ∧ gvC S its < S 2 0 0 ∨ gvC S its = -1 := by
  have : ∀ (n : Nat) (lo : Int), 0 ≤ lo → (-1 ≤ gf (gvQ S its) n lo ∧ gf (gvQ S its) n lo < lo + n) ∨ gf (gvQ S its) n lo = -1 := by
    intro n
    induction n with
    | zero => intro lo _; exact Or.inr rfl
    | succ n ih =>
      intro lo hlo
      show (-1 ≤ cif _ _ _ ∧ cif _ _ _ < _) ∨ cif _ _ _ = -1
      by_cases hp : gvQ S its lo
      · rw [cif_t hp]; left; omega
      · rw [cif_f hp]
        rcases ih (lo + 1) (by omega) with h | h
        · left; omega
        · exact Or.inr h
  rcases this (S 2 0 0).toNat 0 (by omega) with h | h
  · left
    refine ⟨h.1, ?_⟩
    have := h.2
    show gf (gvQ S its) (S 2 0 0).toNat 0 < _
    omega
  · exact Or.inr h

