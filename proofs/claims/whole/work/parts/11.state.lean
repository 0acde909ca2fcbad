/-! ===== the reference's state: bounds that its walk needs ===== -/
def wM (S : St) : Prop :=
  S 0 0 (-1) = 1 ∧ (0 ≤ S 0 0 0 ∧ S 0 0 0 ≤ 12) ∧ (0 ≤ S 0 0 2 ∧ S 0 0 2 ≤ 5) ∧ (0 ≤ S 0 0 8 ∧ S 0 0 8 ≤ 20) ∧ (0 ≤ S 0 0 14 ∧ S 0 0 14 ≤ 20) ∧
  (∀ x, 0 ≤ x → x < 5 → 0 ≤ S 0 4 x ∧ S 0 4 x ≤ 12 ∧ 0 ≤ S 0 5 x ∧ S 0 5 x ≤ 10) ∧
  (∀ x, 0 ≤ x → x < 20 → 0 ≤ S 0 16 x ∧ S 0 16 x ≤ 24 ∧ 0 ≤ S 0 17 x ∧ S 0 17 x ≤ 10 ∧ 0 ≤ S 0 18 x ∧ S 0 18 x ≤ 4 ∧ 0 ≤ S 0 21 x ∧ S 0 21 x ≤ 12) ∧
  (∀ x, 0 ≤ x → x < S 0 0 14 → 1 ≤ S 0 17 x) ∧
  (∀ x, 0 ≤ x → x < 80 → 0 ≤ S 0 20 x ∧ S 0 20 x ≤ 10)
def wrow (r : Nat) (j : Int) : Prop := (r = 0 ∧ (j = -1 ∨ j = 0 ∨ j = 2 ∨ j = 8 ∨ j = 14)) ∨ r = 4 ∨ r = 5 ∨ r = 16 ∨ r = 17 ∨ r = 18 ∨ r = 20 ∨ r = 21
theorem wM.al {S : St} (h : wM S) : S 0 0 (-1) = 1 := h.1
theorem wM.le {S : St} (h : wM S) : 0 ≤ S 0 0 0 ∧ S 0 0 0 ≤ 12 := h.2.1
theorem wM.cs {S : St} (h : wM S) : 0 ≤ S 0 0 2 ∧ S 0 0 2 ≤ 5 := h.2.2.1
theorem wM.lt {S : St} (h : wM S) : 0 ≤ S 0 0 8 ∧ S 0 0 8 ≤ 20 := h.2.2.2.1
theorem wM.ps {S : St} (h : wM S) : 0 ≤ S 0 0 14 ∧ S 0 0 14 ≤ 20 := h.2.2.2.2.1
theorem wM.cw {S : St} (h : wM S) (x : Int) (h0 : 0 ≤ x) (h1 : x < 5) : 0 ≤ S 0 4 x ∧ S 0 4 x ≤ 12 ∧ 0 ≤ S 0 5 x ∧ S 0 5 x ≤ 10 := h.2.2.2.2.2.1 x h0 h1
theorem wM.pc {S : St} (h : wM S) (x : Int) (h0 : 0 ≤ x) (h1 : x < 20) : 0 ≤ S 0 16 x ∧ S 0 16 x ≤ 24 ∧ 0 ≤ S 0 17 x ∧ S 0 17 x ≤ 10 ∧ 0 ≤ S 0 18 x ∧ S 0 18 x ≤ 4 ∧ 0 ≤ S 0 21 x ∧ S 0 21 x ≤ 12 := h.2.2.2.2.2.2.1 x h0 h1
theorem wM.pr {S : St} (h : wM S) (x : Int) (h0 : 0 ≤ x) (h1 : x < S 0 0 14) : 1 ≤ S 0 17 x := h.2.2.2.2.2.2.2.1 x h0 h1
theorem wM.wv {S : St} (h : wM S) (x : Int) (h0 : 0 ≤ x) (h1 : x < 80) : 0 ≤ S 0 20 x ∧ S 0 20 x ≤ 10 := h.2.2.2.2.2.2.2.2 x h0 h1
theorem wM.keep {S S' : St} (h : wM S) (e : ∀ r j, wrow r j → S' 0 r j = S 0 r j) : wM S' := by
  refine ⟨?_, ?_, ?_, ?_, ?_, fun x h0 h1 => ?_, fun x h0 h1 => ?_, fun x h0 h1 => ?_, fun x h0 h1 => ?_⟩
  · rw [e 0 (-1) (by unfold wrow; omega)]; exact h.al
  · rw [e 0 0 (by unfold wrow; omega)]; exact h.le
  · rw [e 0 2 (by unfold wrow; omega)]; exact h.cs
  · rw [e 0 8 (by unfold wrow; omega)]; exact h.lt
  · rw [e 0 14 (by unfold wrow; omega)]; exact h.ps
  · rw [e 4 x (by unfold wrow; omega), e 5 x (by unfold wrow; omega)]; exact h.cw x h0 h1
  · rw [e 16 x (by unfold wrow; omega), e 17 x (by unfold wrow; omega), e 18 x (by unfold wrow; omega), e 21 x (by unfold wrow; omega)]; exact h.pc x h0 h1
  · rw [e 0 14 (by unfold wrow; omega)] at h1
    rw [e 17 x (by unfold wrow; omega)]; exact h.pr x h0 h1
  · rw [e 20 x (by unfold wrow; omega)]; exact h.wv x h0 h1
def isC (S : St) (x : Int) : Prop := 0 ≤ x ∧ x < S 0 0 2
def isP (S : St) (x : Int) : Prop := 0 ≤ x ∧ x < S 0 0 14 ∧ S 0 19 x = 0
def dnM (S : St) (x : Int) : Prop := ∀ j, 0 ≤ j → j < S 0 18 x → S 0 20 (4 * x + j) = S 0 17 x
theorem b2_n {a : Int} {φ : Prop} (h : a = b2 φ) : a ≠ 0 ↔ φ := by
  rw [h]
  refine ⟨fun q => Classical.byContradiction fun r => q (b2_f r), fun q => ?_⟩
  rw [b2_t q]
  decide
theorem all_s {φ : Int → Prop} {i : Int} (h : 0 ≤ i) : (∀ j, 0 ≤ j → j < i + 1 → φ j) ↔ (∀ j, 0 ≤ j → j < i → φ j) ∧ φ i := by
  refine ⟨fun q => ⟨fun j h0 h1 => q j h0 (by omega), q i h (by omega)⟩, fun q j h0 h1 => ?_⟩
  by_cases e : j = i
  · rw [e]; exact q.2
  · exact q.1 j h0 (by omega)
theorem ex_s {φ : Int → Prop} {i : Int} (h : 0 ≤ i) : (∃ j, 0 ≤ j ∧ j < i + 1 ∧ φ j) ↔ (∃ j, 0 ≤ j ∧ j < i ∧ φ j) ∨ φ i := by
  refine ⟨fun ⟨j, h0, h1, h2⟩ => ?_, fun q => ?_⟩
  · by_cases e : j = i
    · rw [e] at h2; exact Or.inr h2
    · exact Or.inl ⟨j, h0, by omega, h2⟩
  · rcases q with ⟨j, h0, h1, h2⟩ | q
    · exact ⟨j, h0, by omega, h2⟩
    · exact ⟨i, h, by omega, q⟩
/-- how many rows up to the last of n are unlike, one above the other -/
noncomputable def rl (u : Int → Prop) : Nat → Int
  | 0 => 0
  | n + 1 => @ite Int (u n) (Classical.propDecidable _) (rl u n + 1) 0
theorem rl_t (u : Int → Prop) {i : Int} (h : 0 ≤ i) (hu : u i) : rl u (i + 1).toNat = rl u i.toNat + 1 := by
  obtain ⟨n, rfl⟩ := Int.eq_ofNat_of_zero_le h
  show rl u (n + 1) = rl u n + 1
  unfold rl
  rw [if_pos hu]
  cases n <;> rfl
theorem rl_f (u : Int → Prop) {i : Int} (h : 0 ≤ i) (hu : ¬ u i) : rl u (i + 1).toNat = 0 := by
  obtain ⟨n, rfl⟩ := Int.eq_ofNat_of_zero_le h
  show rl u (n + 1) = 0
  unfold rl
  rw [if_neg hu]
def unM (S : St) (x c : Int) : Int → Prop := fun r => S 0 25 (240 * x + 10 * (c - 1) + r) ≠ S 0 25 (240 * x + 10 * c + r)
def slM (S : St) (x c : Int) : Prop := (∃ j, 0 ≤ j ∧ j < S 0 17 x ∧ rl (unM S x c) (j + 1).toNat = 3) ∧ S 0 24 (24 * x + c) = 0
noncomputable def cif (φ : Prop) (a b : Int) : Int := @ite Int φ (Classical.propDecidable φ) a b
theorem cif_t {φ : Prop} {a b : Int} (h : φ) : cif φ a b = a := by unfold cif; exact if_pos h
theorem cif_f {φ : Prop} {a b : Int} (h : ¬ φ) : cif φ a b = b := by unfold cif; exact if_neg h
theorem dmb {n C R : Int} (h0 : 0 ≤ n) (h1 : n < C * R) (hR : 0 < R) : 0 ≤ n / R ∧ n / R < C ∧ 0 ≤ n % R ∧ n % R < R :=
  ⟨Int.ediv_nonneg h0 (by omega), Int.ediv_lt_of_lt_mul hR h1, Int.emod_nonneg _ (by omega), Int.emod_lt_of_pos _ hR⟩
theorem mul240 {C R : Int} (h1 : 0 ≤ C) (h2 : C ≤ 24) (h3 : 0 ≤ R) (h4 : R ≤ 10) : C * R ≤ 240 := by
  have := Int.mul_le_mul h2 h4 h3 (by decide : (0 : Int) ≤ 24)
  omega
/-- what stands in the n-th cell of a piece, by columns -/
def cM (S : St) (row : Nat) (x : Int) : Int → Int := fun n => S 0 row (240 * x + 10 * (n / S 0 17 x) + n % S 0 17 x)
def shM (S : St) (x : Int) : Int := sm (cM S 27 x) (S 0 16 x * S 0 17 x).toNat
noncomputable def wnM (S : St) (x : Int) : Int := sm (fun n => b2 (cM S 26 x n ≠ -1)) (S 0 16 x * S 0 17 x).toNat
noncomputable def wpM (S : St) (its : Int) : Int → Int := fun x => cif (S 0 19 x = 0) (sm (fun n => b2 (cM S 26 x n = its)) (S 0 16 x * S 0 17 x).toNat) 0
noncomputable def woM (S : St) (its : Int) : Int := sm (wpM S its) (S 0 0 14).toNat
/-- the first from lo on, out of n, for which φ holds; -1 -/
noncomputable def gf (φ : Int → Prop) : Nat → Int → Int
  | 0, _ => -1
  | n + 1, lo => cif (φ lo) lo (gf φ n (lo + 1))
theorem gf_s (φ : Int → Prop) {n : Int} (lo : Int) (h : 0 ≤ n) : gf φ (n + 1).toNat lo = cif (φ lo) lo (gf φ n.toNat (lo + 1)) := by
  obtain ⟨m, rfl⟩ := Int.eq_ofNat_of_zero_le h
  rfl
def gvP (S : St) (its : Int) : Int → Prop := fun k => S 0 10 k = its ∧ 0 < S 0 12 k
noncomputable def gvM (S : St) (its : Int) : Int := gf (gvP S its) (S 0 0 8).toNat 0
noncomputable def drM (S : St) (i r q : Int) : Int := cif (S 0 8 (120 * i + 12 * r + q) = 6) (cif ((r + q) % 2 = 0) (S 0 6 i) (S 0 7 i)) (S 0 8 (120 * i + 12 * r + q))
def mwM (S : St) (x w : Int) : Prop := S 0 20 (4 * x + w) < S 0 17 x ∧ ¬ (0 < w ∧ S 0 20 (4 * x + w - 1) < S 0 20 (4 * x + w)) ∧ ¬ (w < S 0 18 x - 1 ∧ S 0 20 (4 * x + w + 1) < S 0 20 (4 * x + w))
def inM (S : St) (x q : Int) : Prop := isP S x ∧ 1 ≤ q ∧ q ≤ S 0 16 x - 1
