/-! ===== pieces of the class ===== -/
noncomputable def fcC (S : St) (o : Nat) (w : Int) : Int := w * S o 0 0 / S o 0 2
theorem fc_b {S : St} {o : Nat} {w : Int} (h0 : 0 ≤ w) (h1 : w < S o 0 2) (h2 : S o 0 2 ≤ 4) (h3 : 0 ≤ S o 0 0) (h4 : S o 0 0 ≤ 12) : 0 ≤ fcC S o w ∧ fcC S o w ≤ fcC S o (w + 1) ∧ fcC S o (w + 1) ≤ S o 0 0 := by
  obtain ⟨a, b, c, d, i, j, k⟩ := dvb h0 h1 h2 h3 h4
  exact ⟨i, j, k⟩
theorem fc_p {w d : Int} (h0 : 0 ≤ w) (h2 : w ≤ 4) (h3 : 0 ≤ d) (h4 : d ≤ 12) : 0 ≤ w * d ∧ w * d ≤ 48 :=
  ⟨Int.mul_nonneg h0 h3, by have := Int.mul_le_mul h2 h4 h3 (by decide : (0 : Int) ≤ 4); omega⟩
/-- the cells of a colour in a weaver's next row -/
noncomputable def niC (S : St) (o : Nat) (w v : Int) : Int := sm (fun i => b2 (S o 5 (S o 4 w * 24 + (fcC S o w + i)) = v)) (fcC S o (w + 1) - fcC S o w).toNat
theorem smo {F : Int → Int} {f q : Int} (h : f ≤ q) : sm (fun i => F (f + i)) (q + 1 - f).toNat = sm (fun i => F (f + i)) (q - f).toNat + F q := by
  rw [show q + 1 - f = (q - f) + 1 from by omega, sm_1 _ (by omega), show f + (q - f) = q from by omega]
theorem niC_r (S : St) (o : Nat) (w v : Int) (h : fcC S o (w + 1) - fcC S o w ≤ 12) : rng (niC S o w v) := by
  have := sm_b (f := fun i => b2 (S o 5 (S o 4 w * 24 + (fcC S o w + i)) = v)) (B := 1) (n := (fcC S o (w + 1) - fcC S o w).toNat) (by decide) (fun i _ _ => b2_b _)
  unfold niC
  exact ⟨by omega, by omega⟩
theorem thC_b (S : St) (v : Int) (h : S 2 0 0 ≤ 20) (hl : ∀ j, 0 ≤ j → j < 20 → 0 ≤ S 2 4 j ∧ S 2 4 j ≤ 999) : 0 ≤ thC S v ∧ thC S v ≤ 19980 := by
  have := sm_b (f := fun j => cif (S 2 2 j = v) (S 2 4 j) 0) (B := 999) (n := (S 2 0 0).toNat) (by decide) (fun i h0 h1 => by
    have := hl i h0 (by omega)
    by_cases q : S 2 2 i = v
    · rw [cif_t q]; exact this
    · rw [cif_f q]; exact ⟨by decide, by decide⟩)
  unfold thC
  omega
theorem thC_r (S : St) (v : Int) (h : S 2 0 0 ≤ 20) (hl : ∀ j, 0 ≤ j → j < 20 → 0 ≤ S 2 4 j ∧ S 2 4 j ≤ 999) : rng (thC S v) := by
  have := thC_b S v h hl
  exact ⟨by omega, by omega⟩
theorem gvC_r {S : St} {v : Int} (h0 : 0 ≤ S 2 0 0) (h1 : S 2 0 0 ≤ 20) : rng (gvC S v) := by
  rcases gvC_b S v h0 with h | h
  · exact ⟨by omega, by omega⟩
  · exact ⟨by omega, by omega⟩
/-- a cell woven: a thread is taken, the cell has its lot and the full shade -/
noncomputable def wr1 (T : St) (o : Nat) (q v : Int) : St := st (st (tkS T v) o 6 q (gvC T v)) o 7 q 100
noncomputable def wrI (S : St) (o : Nat) (r f : Int) : Nat → St
  | 0 => S
  | n + 1 => wr1 (wrI S o r f n) o (r * 24 + (f + n)) (S o 5 (r * 24 + (f + n)))
theorem wrI_o {S : St} {o : Nat} {r f : Int} {n : Nat} {a b : Nat} {i : Int} (h : ¬ (a = 2 ∧ b = 4)) (h6 : b ≠ 6) (h7 : b ≠ 7) : wrI S o r f n a b i = S a b i := by
  induction n with
  | zero => rfl
  | succ n ih =>
    show wr1 (wrI S o r f n) o _ _ a b i = _
    unfold wr1
    rw [st_at, if_neg (by omega), st_at, if_neg (by omega), tkS_o h, ih]
theorem wr_0 (S : St) (o : Nat) (r f : Int) (a b : Nat) (i : Int) : S a b i = wrI S o r f (f - f).toNat a b i := by rw [show (f - f).toNat = 0 from by omega]; rfl
theorem wr_s {S Sa S' : St} {o : Nat} {r f q : Int} (h : f ≤ q) (z : ∀ (a b : Nat) (i : Int), Sa a b i = wrI S o r f (q - f).toNat a b i) (q' : S' = st (st (tkS Sa (S o 5 (r * 24 + q))) o 6 (r * 24 + q) (gvC Sa (S o 5 (r * 24 + q)))) o 7 (r * 24 + q) 100) (a b : Nat) (i : Int) :
    S' a b i = wrI S o r f (q + 1 - f).toNat a b i := by
  have e : Sa = wrI S o r f (q - f).toNat := by funext a b i; exact z a b i
  rw [show (q + 1 - f).toNat = (q - f).toNat + 1 from by omega]
  show _ = wr1 (wrI S o r f (q - f).toNat) o (r * 24 + (f + ((q - f).toNat : Int))) (S o 5 (r * 24 + (f + ((q - f).toNat : Int)))) a b i
  rw [← e, show f + ((q - f).toNat : Int) = q from by omega, q']
  rfl
/-- a sum over the cells of a piece, row by row -/
noncomputable def s2 (S : St) (o : Nat) (F : Int → Int → Int) : Int := sm (fun r => sm (fun c => F r c) (S o 0 0).toNat) (S o 0 1).toNat
noncomputable def wnC (S : St) (o : Nat) : Int := s2 S o (fun r c => b2 (S o 6 (r * 24 + c) ≠ -1))
noncomputable def woC (S : St) (o : Nat) (v : Int) : Int := s2 S o (fun r c => b2 (S o 6 (r * 24 + c) ≠ -1 ∧ S o 5 (r * 24 + c) = v))
noncomputable def shC (S : St) (o : Nat) : Int := s2 S o (fun r c => S o 7 (r * 24 + c))
noncomputable def lkC (S : St) (o q : Nat) (mir : Prop) : Int := s2 S o (fun r c => b2 (S o 5 (r * 24 + c) = dcF S q r (cif mir (S q 0 0 - 1 - c) c)))
theorem s2_b (S : St) (o : Nat) (F : Int → Int → Int) (hw : 0 ≤ S o 0 0 ∧ S o 0 0 ≤ 24) (hh : 0 ≤ S o 0 1 ∧ S o 0 1 ≤ 10) (B : Int) (hB : 0 ≤ B) (h : ∀ r c, 0 ≤ r → r < S o 0 1 → 0 ≤ c → c < S o 0 0 → 0 ≤ F r c ∧ F r c ≤ B) : 0 ≤ s2 S o F ∧ s2 S o F ≤ B * 240 := by
  have h1 : ∀ r, 0 ≤ r → r < S o 0 1 → 0 ≤ sm (fun c => F r c) (S o 0 0).toNat ∧ sm (fun c => F r c) (S o 0 0).toNat ≤ 24 * B := by
    intro r r0 r1
    have := sm_b (f := fun c => F r c) (B := B) (n := (S o 0 0).toNat) hB (fun c c0 c1 => h r c r0 r1 c0 (by omega))
    have h2 : ((S o 0 0).toNat : Int) * B ≤ 24 * B := Int.mul_le_mul_of_nonneg_right (by omega) hB
    exact ⟨this.1, Int.le_trans this.2 h2⟩
  have := sm_b (f := fun r => sm (fun c => F r c) (S o 0 0).toNat) (B := 24 * B) (n := (S o 0 1).toNat) (by omega) (fun r r0 r1 => h1 r r0 (by omega))
  have h2 : ((S o 0 1).toNat : Int) * (24 * B) ≤ 10 * (24 * B) := Int.mul_le_mul_of_nonneg_right (by omega) (by omega)
  unfold s2
  refine ⟨this.1, Int.le_trans this.2 (Int.le_trans h2 (by omega))⟩
theorem wnC_b (S : St) (o : Nat) (hw : 0 ≤ S o 0 0 ∧ S o 0 0 ≤ 24) (hh : 0 ≤ S o 0 1 ∧ S o 0 1 ≤ 10) : 0 ≤ wnC S o ∧ wnC S o ≤ 240 := by
  have := s2_b S o (fun r c => b2 (S o 6 (r * 24 + c) ≠ -1)) hw hh 1 (by decide) (fun _ _ _ _ _ _ => b2_b _)
  unfold wnC
  omega
theorem lkC_b (S : St) (o q : Nat) (mir : Prop) (hw : 0 ≤ S o 0 0 ∧ S o 0 0 ≤ 24) (hh : 0 ≤ S o 0 1 ∧ S o 0 1 ≤ 10) : 0 ≤ lkC S o q mir ∧ lkC S o q mir ≤ 240 := by
  have := s2_b S o (fun r c => b2 (S o 5 (r * 24 + c) = dcF S q r (cif mir (S q 0 0 - 1 - c) c))) hw hh 1 (by decide) (fun _ _ _ _ _ _ => b2_b _)
  unfold lkC
  omega
/-- one column of a row more -/
theorem s2c {F : Int → Int} {t u c : Int} (hc : 0 ≤ c) (h : u = t + sm F c.toNat) : u + F c = t + sm F (c + 1).toNat := by
  rw [sm_1 _ hc, h]; omega
theorem s2e {F : Int → Int} {t u c : Int} (hc : 0 ≤ c) (h : u = t + sm F c.toNat) (v : Int) (hv : F c = v) : u + v = t + sm F (c + 1).toNat := by
  rw [← hv]; exact s2c hc h
theorem s2z {F : Int → Int} {t u c : Int} (hc : 0 ≤ c) (h : u = t + sm F c.toNat) (hv : F c = 0) : u = t + sm F (c + 1).toNat := by
  have := s2c hc h
  omega
theorem s2r {F : Int → Int → Int} {t u c r : Int} {W : Int} (hr : 0 ≤ r) (ht : t = sm (fun r => sm (fun c => F r c) W.toNat) r.toNat) (hu : u = t + sm (fun c => F r c) c.toNat) (hc : c = W) : u = sm (fun r => sm (fun c => F r c) W.toNat) (r + 1).toNat := by
  rw [sm_1 _ hr, ← ht, hu, hc]
theorem dcF_r {S : St} (rS : ∀ (a b : Nat) (i : Int), rng (S a b i)) (o : Nat) (r q : Int) : rng (dcF S o r q) := by
  unfold dcF
  by_cases h : S o 3 (r * 12 + q) = 6
  · rw [cif_t h]
    by_cases h2 : (r + q) % 2 = 0
    · rw [cif_t h2]; exact rS _ _ _
    · rw [cif_f h2]; exact rS _ _ _
  · rw [cif_f h]; exact rS _ _ _
