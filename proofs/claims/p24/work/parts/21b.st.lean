/-! ===== pieces of the class: what is written ===== -/
def mx0 (z : Int) : Int := if 0 < z then z else 0
theorem mx0_r {z : Int} (h : z ≤ 1000000) : rng (if 0 < z then z else 0) := by
  split
  · exact ⟨by omega, by omega⟩
  · exact ⟨by decide, by decide⟩
theorem mx0_b {z B : Int} (h : z ≤ B) (hB : 0 ≤ B) : 0 ≤ mx0 z ∧ mx0 z ≤ B := by
  unfold mx0
  split <;> omega
theorem mx0_5 {z k : Int} : mx0 (mx0 (z - 5 * k) - 5) = mx0 (z - 5 * (k + 1)) := by
  unfold mx0
  repeat' split
  all_goals omega
theorem mx0_p {z : Int} (h : 0 ≤ z) : mx0 z = z := by
  unfold mx0
  split <;> omega
/-- the cells before (r, c), row by row -/
def pcs (W r c j : Int) : Prop := 0 ≤ j ∧ j % 24 < W ∧ (j / 24 < r ∨ (j / 24 = r ∧ j % 24 < c))
noncomputable def clF (S : St) (o k : Nat) (U : Int → Int) (W r c : Int) : St := fun a b i => @ite Int (a = o ∧ b = k ∧ pcs W r c i) (Classical.propDecidable _) (U i) (S a b i)
theorem clF_t {S : St} {o k : Nat} {U : Int → Int} {W r c i : Int} (h : pcs W r c i) : clF S o k U W r c o k i = U i := by unfold clF; exact if_pos ⟨rfl, rfl, h⟩
theorem clF_f {S : St} {o k : Nat} {U : Int → Int} {W r c i : Int} {a b : Nat} (h : ¬ (a = o ∧ b = k ∧ pcs W r c i)) : clF S o k U W r c a b i = S a b i := by unfold clF; exact if_neg h
theorem clF_o {S : St} {o k : Nat} {U : Int → Int} {W r c i : Int} {a b : Nat} (h : b ≠ k) : clF S o k U W r c a b i = S a b i := clF_f (fun q => h q.2.1)
theorem cl_0 (S : St) (o k : Nat) (U : Int → Int) (W : Int) (a b : Nat) (i : Int) : S a b i = clF S o k U W 0 0 a b i := (clF_f (by unfold pcs; omega)).symm
theorem cl_v {S : St} {o k : Nat} {U : Int → Int} {W r c : Int} (h : 0 ≤ c ∧ c < 24) : clF S o k U W r c o k (r * 24 + c) = S o k (r * 24 + c) := clF_f (by unfold pcs; omega)
theorem cl_s {S Sa S' : St} {o k : Nat} {U : Int → Int} {W r c : Int} (z : ∀ (a b : Nat) (i : Int), Sa a b i = clF S o k U W r c a b i) (hr : 0 ≤ r) (hc : 0 ≤ c ∧ c < W ∧ W ≤ 24) (q : ∀ (a b : Nat) (i : Int), S' a b i = if a = o ∧ b = k ∧ i = r * 24 + c then U (r * 24 + c) else Sa a b i) (a b : Nat) (i : Int) :
    S' a b i = clF S o k U W r (c + 1) a b i := by
  rw [q, z]
  by_cases h : a = o ∧ b = k ∧ i = r * 24 + c
  · obtain ⟨rfl, rfl, rfl⟩ := h
    rw [if_pos ⟨rfl, rfl, rfl⟩, clF_t (by unfold pcs; omega)]
  · rw [if_neg h]
    by_cases h2 : a = o ∧ b = k ∧ pcs W r c i
    · obtain ⟨rfl, rfl, h3⟩ := h2
      rw [clF_t h3, clF_t (by unfold pcs at h3 ⊢; omega)]
    · rw [clF_f h2, clF_f]
      intro h3
      obtain ⟨h4, h5, h6⟩ := h3
      have h7 : ¬ pcs W r c i := fun y => h2 ⟨h4, h5, y⟩
      have h8 : i ≠ r * 24 + c := fun y => h ⟨h4, h5, y⟩
      unfold pcs at h6 h7
      omega
theorem cl_n {S Sa : St} {o k : Nat} {U : Int → Int} {W r c : Int} (z : ∀ (a b : Nat) (i : Int), Sa a b i = clF S o k U W r c a b i) (h : c = W) (a b : Nat) (i : Int) : Sa a b i = clF S o k U W (r + 1) 0 a b i := by
  rw [z]
  by_cases h2 : a = o ∧ b = k ∧ pcs W r c i
  · obtain ⟨rfl, rfl, h3⟩ := h2
    rw [clF_t h3, clF_t (by unfold pcs at h3 ⊢; omega)]
  · rw [clF_f h2, clF_f]
    intro h3
    obtain ⟨h4, h5, h6⟩ := h3
    have h7 : ¬ pcs W r c i := fun y => h2 ⟨h4, h5, y⟩
    unfold pcs at h6 h7
    omega
/-- light -/
noncomputable def fdU (S : St) (o : Nat) (h : Int) : Int → Int := fun j => mx0 (S o 7 j - h * S 2 5 (S o 6 j) / 100)
/-! runs of unlike colours -/
def unC (S : St) (o : Nat) (c : Int) : Int → Prop := fun r => S o 5 (r * 24 + (c - 1)) ≠ S o 5 (r * 24 + c)
noncomputable def mxl (u : Int → Prop) : Nat → Int
  | 0 => 0
  | n + 1 => if mxl u n < rl u (n + 1) then rl u (n + 1) else mxl u n
theorem mxl_s (u : Int → Prop) {i : Int} (h : 0 ≤ i) : mxl u (i + 1).toNat = if mxl u i.toNat < rl u (i + 1).toNat then rl u (i + 1).toNat else mxl u i.toNat := by
  obtain ⟨n, rfl⟩ := Int.eq_ofNat_of_zero_le h
  rfl
noncomputable def slC (S : St) (o : Nat) (c : Int) : Prop := S o 9 c = 0 ∧ 3 ≤ mxl (unC S o c) (S o 0 1).toNat
noncomputable def snC (S : St) (o : Nat) : Int := sm (fun i => b2 (slC S o (1 + i))) (S o 0 0 - 1).toNat
noncomputable def mcC (S : St) (o x : Nat) : Int := sm (fun r => b2 (S o 6 (r * 24 + (S o 0 0 - 1)) = S x 6 (r * 24 + 0))) (S o 0 1).toNat
theorem rl_b (u : Int → Prop) (n : Nat) : 0 ≤ rl u n ∧ rl u n ≤ n := by
  induction n with
  | zero => exact ⟨Int.le_refl _, Int.le_refl _⟩
  | succ n ih =>
    by_cases h : u n
    · have e : rl u (n + 1) = rl u n + 1 := if_pos h
      omega
    · have e : rl u (n + 1) = 0 := if_neg h
      omega
theorem mxl_b (u : Int → Prop) (n : Nat) : 0 ≤ mxl u n ∧ mxl u n ≤ n := by
  induction n with
  | zero => exact ⟨Int.le_refl _, Int.le_refl _⟩
  | succ n ih =>
    have h1 := rl_b u (n + 1)
    show 0 ≤ (if mxl u n < rl u (n + 1) then rl u (n + 1) else mxl u n) ∧ (if mxl u n < rl u (n + 1) then rl u (n + 1) else mxl u n) ≤ _
    split <;> omega
/-! threads by lots -/
noncomputable def atN (S : St) (o : Nat) (r c i : Int) : Int := sm (fun r => sm (fun c => b2 (S o 6 (r * 24 + c) = i)) (S o 0 0).toNat) r.toNat + sm (fun c => b2 (S o 6 (r * 24 + c) = i)) c.toNat
noncomputable def atF (S : St) (o : Nat) (r c : Int) : St := fun a b i => if a = 1 ∧ b = 8 ∧ 0 ≤ i ∧ i < 20 then S 1 8 i + atN S o r c i else S a b i
theorem atF_o {S : St} {o : Nat} {r c : Int} {a b : Nat} {i : Int} (h : ¬ (a = 1 ∧ b = 8)) : atF S o r c a b i = S a b i := by unfold atF; rw [if_neg (by omega)]
theorem at_0 (S : St) (o : Nat) (a b : Nat) (i : Int) : S a b i = atF S o 0 0 a b i := by
  unfold atF
  by_cases h : a = 1 ∧ b = 8 ∧ 0 ≤ i ∧ i < 20
  · rw [if_pos h, h.1, h.2.1]
    show _ = S 1 8 i + (0 + 0)
    omega
  · rw [if_neg h]
theorem at_n {S Sa : St} {o : Nat} {r c : Int} (z : ∀ (a b : Nat) (i : Int), Sa a b i = atF S o r c a b i) (hr : 0 ≤ r) (hc : c = S o 0 0) (a b : Nat) (i : Int) : Sa a b i = atF S o (r + 1) 0 a b i := by
  rw [z]
  unfold atF atN
  rw [sm_1 _ hr, hc]
  show _ = if a = 1 ∧ b = 8 ∧ 0 ≤ i ∧ i < 20 then S 1 8 i + (_ + 0) else _
  rw [Int.add_zero]
theorem atN_b (S : St) (o : Nat) (r c i : Int) (hw : 0 ≤ S o 0 0 ∧ S o 0 0 ≤ 24) (hr : 0 ≤ r ∧ r ≤ 10) (hc : 0 ≤ c ∧ c ≤ 24) : 0 ≤ atN S o r c i ∧ atN S o r c i ≤ 264 := by
  have h1 : ∀ r, 0 ≤ sm (fun c => b2 (S o 6 (r * 24 + c) = i)) (S o 0 0).toNat ∧ sm (fun c => b2 (S o 6 (r * 24 + c) = i)) (S o 0 0).toNat ≤ 24 := by
    intro r
    have := sm_b (f := fun c => b2 (S o 6 (r * 24 + c) = i)) (B := 1) (n := (S o 0 0).toNat) (by decide) (fun i _ _ => b2_b _)
    omega
  have h2 := sm_b (f := fun r => sm (fun c => b2 (S o 6 (r * 24 + c) = i)) (S o 0 0).toNat) (B := 24) (n := r.toNat) (by decide) (fun r _ _ => h1 r)
  have h3 := sm_b (f := fun c => b2 (S o 6 (r * 24 + c) = i)) (B := 1) (n := c.toNat) (by decide) (fun i _ _ => b2_b _)
  unfold atN
  omega
theorem at_s {S Sa S' : St} {o : Nat} {r c : Int} (z : ∀ (a b : Nat) (i : Int), Sa a b i = atF S o r c a b i) (hc : 0 ≤ c) (q : S' = sA Sa 1 8 20 (S o 6 (r * 24 + c)) (vA Sa 1 8 20 (S o 6 (r * 24 + c)) + 1)) (a b : Nat) (i : Int) :
    S' a b i = atF S o r (c + 1) a b i := by
  have e : ∀ i, atN S o r (c + 1) i = atN S o r c i + b2 (S o 6 (r * 24 + c) = i) := by
    intro i
    unfold atN
    rw [sm_1 _ hc]
    omega
  rw [q]
  unfold sA
  by_cases hL : 0 ≤ S o 6 (r * 24 + c) ∧ S o 6 (r * 24 + c) < ((20 : Nat) : Int)
  · rw [if_pos hL, st_at, vA_in hL.1 hL.2]
    by_cases h : a = 1 ∧ b = 8 ∧ i = S o 6 (r * 24 + c)
    · obtain ⟨rfl, rfl, rfl⟩ := h
      rw [if_pos ⟨rfl, rfl, rfl⟩, z]
      unfold atF
      rw [if_pos ⟨rfl, rfl, hL.1, hL.2⟩, if_pos ⟨rfl, rfl, hL.1, hL.2⟩, e, b2_t rfl]
      omega
    · rw [if_neg h, z]
      unfold atF
      by_cases h2 : a = 1 ∧ b = 8 ∧ 0 ≤ i ∧ i < 20
      · rw [if_pos h2, if_pos h2, e, b2_f (fun y => h ⟨h2.1, h2.2.1, y.symm⟩)]
        omega
      · rw [if_neg h2, if_neg h2]
  · rw [if_neg hL, z]
    unfold atF
    by_cases h2 : a = 1 ∧ b = 8 ∧ 0 ≤ i ∧ i < 20
    · rw [if_pos h2, if_pos h2, e, b2_f (fun y => hL (by omega))]
      omega
    · rw [if_neg h2, if_neg h2]
theorem vA_r {S : St} (rS : ∀ (a b : Nat) (i : Int), rng (S a b i)) (o r n : Nat) (z : Int) (B : Int) (hB : -1 ≤ B ∧ B ≤ 2147483646) (h : ∀ j : Int, 0 ≤ j → j < (n : Int) → 0 ≤ S o r j ∧ S o r j ≤ B) : rng (vA S o r n z + 1) := by
  unfold vA
  split
  · have := h z (by omega) (by omega)
    exact ⟨by omega, by omega⟩
  · exact ⟨by decide, by decide⟩
