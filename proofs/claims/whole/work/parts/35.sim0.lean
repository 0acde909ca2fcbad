/-! ===== a call of both: what is owed behind it ===== -/
def Gd (ad : Nat → Nat → Nat) (k : Int) (r2 : Option Value) (ad2 : Nat → Nat → Nat) (S2 : St) : Prop := (∃ b, r2 = some (.int (i32 b)) ∧ (k = 0 → S2 3 1 0 = wr b)) ∧ S2 0 0 27 = k ∧ Inv S2 ∧ ∀ x q, x < 4 → ad2 x q = ad x q
def GdB (ad : Nat → Nat → Nat) (k : Int) (r2 : Option Value) (ad2 : Nat → Nat → Nat) (S2 : St) : Prop := (∃ φ : Prop, r2 = some (.int (i32 (b2 φ))) ∧ (k = 0 → S2 3 1 0 = b2 φ)) ∧ S2 0 0 27 = k ∧ Inv S2 ∧ ∀ x q, x < 4 → ad2 x q = ad x q
def GdV (ad : Nat → Nat → Nat) (k : Int) (r2 : Option Value) (ad2 : Nat → Nat → Nat) (S2 : St) : Prop := r2 = none ∧ S2 0 0 27 = k ∧ Inv S2 ∧ ∀ x q, x < 4 → ad2 x q = ad x q
theorem Inv.keep {S S' : St} (h : Inv S) (e : ∀ (a b : Nat) (i : Int), ¬ ((a = 0 ∧ b = 0 ∧ i = 27) ∨ (a = 3 ∧ b = 1) ∨ (a = 1 ∧ b = 8)) → S' a b i = S a b i) : Inv S' :=
  ⟨h.m.keep (fun r j q => e 0 r j (by unfold wrow at q; omega)), ⟨by rw [e 1 0 _ (by omega)]; exact h.a1, by rw [e 2 0 _ (by omega)]; exact h.a2, by rw [e 3 0 _ (by omega)]; exact h.a3⟩, iW_keep h.w (fun a b i q => e a b i (by omega)), iCs_keep h.c h.m (fun a b i q => e a b i (by omega)), iL_keep h.l (fun a b i q => e a b i (by omega)), iPs_keep h.p h.m (fun a b i q => e a b i (by omega)) (lgr_e (fun b i q => e 0 b i (by omega)))⟩
theorem Inv.s27 {S : St} (h : Inv S) (v : Int) : Inv (st S 0 0 27 v) := h.keep (fun a b i q => by rw [st_at, if_neg (by omega)])
theorem thr_c {A B C A' B' C' : Prop} (hA : A ↔ A') (hB : A → (B ↔ B')) (hC : A → B → (C ↔ C')) : thr A' B' C' = thr A B C := by
  by_cases a : A
  · by_cases b : B
    · by_cases c : C
      · rw [thr_0 a b c, thr_0 (hA.mp a) ((hB a).mp b) ((hC a b).mp c)]
      · rw [thr_3 a b c, thr_3 (hA.mp a) ((hB a).mp b) (fun q => c ((hC a b).mpr q))]
    · rw [thr_2 a b, thr_2 (hA.mp a) (fun q => b ((hB a).mpr q))]
  · rw [thr_1 a, thr_1 (fun q => a (hA.mpr q))]
theorem sim_no {S S2 : St} {ad ad2 : Nat → Nat → Nat} {A B C A' B' C' : Prop} {R : Option Value} {F : St → Prop} {r2 : Option Value} (hI : Inv S) (hk : thr A' B' C' = thr A B C) (hn : ¬ (A ∧ B ∧ C)) (h2 : mP ad A' B' C' S R F r2 ad2 S2) : Gd ad (thr A B C) r2 ad2 S2 := by
  obtain ⟨rfl, ⟨h3, h4, h5⟩ | ⟨h3, -⟩⟩ := h2
  · have hz : thr A B C ≠ 0 := fun q => hn (thr_z.mp q)
    rw [h5]
    exact ⟨⟨0, h4, fun q => absurd q hz⟩, by rw [st_at, if_pos ⟨rfl, rfl, rfl⟩, hk], hI.s27 _, fun _ _ _ => rfl⟩
  · exact absurd (thr_z.mp (hk.symm.trans (thr_z.mpr h3))) hn
theorem sim_nz {S S2 : St} {ad ad2 : Nat → Nat → Nat} {A B C A' B' C' : Prop} {R : St → Option Value} {F : St → Prop} {r2 : Option Value} (hI : Inv S) (hk : thr A' B' C' = thr A B C) (hn : ¬ (A ∧ B ∧ C)) (h2 : mPz ad A' B' C' S R F r2 ad2 S2) : Gd ad (thr A B C) r2 ad2 S2 := by
  obtain ⟨rfl, ⟨h3, h4, h5⟩ | ⟨h3, -⟩⟩ := h2
  · have hz : thr A B C ≠ 0 := fun q => hn (thr_z.mp q)
    rw [h5]
    exact ⟨⟨0, h4, fun q => absurd q hz⟩, by rw [st_at, if_pos ⟨rfl, rfl, rfl⟩, hk], hI.s27 _, fun _ _ _ => rfl⟩
  · exact absurd (thr_z.mp (hk.symm.trans (thr_z.mpr h3))) hn
theorem Gd.b {ad ad2 : Nat → Nat → Nat} {k : Int} {r2 : Option Value} {S2 : St} (h : Gd ad k r2 ad2 S2) (hk : k ≠ 0) (hr : r2 = some (.int (i32 0))) : GdB ad k r2 ad2 S2 :=
  ⟨⟨False, by rw [hr, b2_f not_false], fun q => absurd q hk⟩, h.2⟩
theorem thr_nz {A B C : Prop} (hn : ¬ (A ∧ B ∧ C)) : thr A B C ≠ 0 := fun q => hn (thr_z.mp q)
theorem sim_nb {S S2 : St} {ad ad2 : Nat → Nat → Nat} {A B C A' B' C' : Prop} {R : Option Value} {F : St → Prop} {r2 : Option Value} (hI : Inv S) (hk : thr A' B' C' = thr A B C) (hn : ¬ (A ∧ B ∧ C)) (h2 : mP ad A' B' C' S R F r2 ad2 S2) : GdB ad (thr A B C) r2 ad2 S2 := by
  refine (sim_no hI hk hn h2).b (thr_nz hn) ?_
  obtain ⟨rfl, ⟨h3, h4, h5⟩ | ⟨h3, -⟩⟩ := h2
  · exact h4
  · exact absurd (thr_z.mp (hk.symm.trans (thr_z.mpr h3))) hn
theorem sim_nzb {S S2 : St} {ad ad2 : Nat → Nat → Nat} {A B C A' B' C' : Prop} {R : St → Option Value} {F : St → Prop} {r2 : Option Value} (hI : Inv S) (hk : thr A' B' C' = thr A B C) (hn : ¬ (A ∧ B ∧ C)) (h2 : mPz ad A' B' C' S R F r2 ad2 S2) : GdB ad (thr A B C) r2 ad2 S2 := by
  refine (sim_nz hI hk hn h2).b (thr_nz hn) ?_
  obtain ⟨rfl, ⟨h3, h4, h5⟩ | ⟨h3, -⟩⟩ := h2
  · exact h4
  · exact absurd (thr_z.mp (hk.symm.trans (thr_z.mpr h3))) hn
theorem sim_nv {S S2 : St} {ad ad2 : Nat → Nat → Nat} {A B C A' B' C' : Prop} {R : Option Value} {F : St → Prop} {r2 : Option Value} (hI : Inv S) (hk : thr A' B' C' = thr A B C) (hn : ¬ (A ∧ B ∧ C)) (h2 : mPv ad A' B' C' S R F r2 ad2 S2) : GdV ad (thr A B C) r2 ad2 S2 := by
  obtain ⟨rfl, ⟨h3, h4, h5⟩ | ⟨h3, -⟩⟩ := h2
  · rw [h5]
    exact ⟨h4, by rw [st_at, if_pos ⟨rfl, rfl, rfl⟩, hk], hI.s27 _, fun _ _ _ => rfl⟩
  · exact absurd (thr_z.mp (hk.symm.trans (thr_z.mpr h3))) hn
/-- where they go on -/
theorem mP_y {S S2 : St} {ad ad2 : Nat → Nat → Nat} {A B C : Prop} {R : Option Value} {F : St → Prop} {r2 : Option Value} (hk : thr A B C = 0) (h2 : mP ad A B C S R F r2 ad2 S2) : ad2 = ad ∧ r2 = R ∧ F S2 := by
  obtain ⟨h1, ⟨h3, -⟩ | ⟨-, h4, h5⟩⟩ := h2
  · exact absurd (thr_z.mp hk) h3
  · exact ⟨h1, h4, h5⟩
theorem mPz_y {S S2 : St} {ad ad2 : Nat → Nat → Nat} {A B C : Prop} {R : St → Option Value} {F : St → Prop} {r2 : Option Value} (hk : thr A B C = 0) (h2 : mPz ad A B C S R F r2 ad2 S2) : ad2 = ad ∧ r2 = R S2 ∧ F S2 := by
  obtain ⟨h1, ⟨h3, -⟩ | ⟨-, h4, h5⟩⟩ := h2
  · exact absurd (thr_z.mp hk) h3
  · exact ⟨h1, h4, h5⟩
theorem mPv_y {S S2 : St} {ad ad2 : Nat → Nat → Nat} {A B C : Prop} {R : Option Value} {F : St → Prop} {r2 : Option Value} (hk : thr A B C = 0) (h2 : mPv ad A B C S R F r2 ad2 S2) : ad2 = ad ∧ r2 = R ∧ F S2 := by
  obtain ⟨h1, ⟨h3, -⟩ | ⟨-, h4, h5⟩⟩ := h2
  · exact absurd (thr_z.mp hk) h3
  · exact ⟨h1, h4, h5⟩
/-! the reference's words read the reference's rows alone -/
theorem wM_e {S S1 : St} (e : S1 0 = S 0) (h : wM S) : wM S1 := h.keep (fun r j _ => by rw [e])
theorem isC_e {S S1 : St} (e : S1 0 = S 0) (x : Int) : isC S1 x ↔ isC S x := by unfold isC; rw [e]
theorem isP_e {S S1 : St} (e : S1 0 = S 0) (x : Int) : isP S1 x ↔ isP S x := by unfold isP; rw [e]
theorem dnM_e {S S1 : St} (e : S1 0 = S 0) (x : Int) : dnM S1 x ↔ dnM S x := by unfold dnM; rw [e]
theorem inM_e {S S1 : St} (e : S1 0 = S 0) (x q : Int) : inM S1 x q ↔ inM S x q := by unfold inM; rw [isP_e e, e]
theorem lhP_k {ad ad' : Nat → Nat → Nat} {A B C : Prop} {S Z S' : St} {r : Option Value} (h : lhP ad A B C S Z r ad' S') : r = some (.int (i32 (thr A B C))) ∧ ∀ x q, x < 4 → ad' x q = ad x q :=
  ⟨h.1, by
    rcases h.2 with ⟨-, q, -⟩ | ⟨-, q, -⟩
    · intro x y _; rw [q]
    · exact q⟩
theorem lhP_0 {ad ad' : Nat → Nat → Nat} {A B C : Prop} {S Z S' : St} {r : Option Value} (h : lhP ad A B C S Z r ad' S') (hz : Z 0 = S 0) : S' 0 = S 0 := by
  rcases h.2 with ⟨-, -, q⟩ | ⟨-, -, q⟩
  · rw [q]
  · rw [q]; exact hz
theorem lhP_3 {ad ad' : Nat → Nat → Nat} {A B C : Prop} {S Z S' : St} {r : Option Value} (h : lhP ad A B C S Z r ad' S') (hz : Z 3 0 (-1) = S 3 0 (-1)) : S' 3 0 (-1) = S 3 0 (-1) := by
  rcases h.2 with ⟨-, -, q⟩ | ⟨-, -, q⟩
  · rw [q]
  · rw [q]; exact hz
theorem Inv.hla {S : St} (h : Inv S) : ∀ j, 0 ≤ j → j < 20 → 0 ≤ S 0 12 j ∧ S 0 12 j ≤ 999 := fun j h0 h1 => (h.l.2 j h0 h1).2.2.2.2.2.2.2.1
theorem Inv.hla2 {S : St} (h : Inv S) : ∀ j, 0 ≤ j → j < 20 → 0 ≤ S 0 11 j ∧ S 0 11 j ≤ 999 ∧ 0 ≤ S 0 12 j ∧ S 0 12 j ≤ 999 := fun j h0 h1 => by
  obtain ⟨-, -, -, -, -, -, q1, q2, -⟩ := h.l.2 j h0 h1
  exact ⟨q1.1, q1.2, q2.1, q2.2⟩
theorem Inv.hfd {S : St} (h : Inv S) : ∀ j, 0 ≤ j → j < 20 → 0 ≤ S 0 13 j ∧ S 0 13 j ≤ 9 := fun j h0 h1 => (h.l.2 j h0 h1).2.2.2.2.2.2.2.2.1
theorem Inv.hfc {S : St} (h : Inv S) : ∀ j, 0 ≤ j → j < 480 → 0 ≤ S 0 23 j ∧ S 0 23 j ≤ 24 := h.p.2.2.2.2
theorem Inv.hcl {S : St} (h : Inv S) : ∀ a1, isP S a1 → 1 ≤ S 0 16 a1 := fun x q => (h.ip q).1.2.2.2.2.1.1
theorem Inv.alw {S : St} (h : Inv S) {x : Int} (q : isP S x) (hd : dnM S x) : ∀ c r, 0 ≤ c → c < S 0 16 x → 0 ≤ r → r < S 0 17 x → 0 ≤ S 0 26 (240 * x + 10 * c + r) ∧ S 0 26 (240 * x + 10 * c + r) < S 0 0 8 := by
  intro c r c0 c1 r0 r1
  have hx := h.x20 q
  obtain ⟨⟨-, e0, e1, -, hW, hH, -⟩, hX, -, -⟩ := h.ip q
  have hn := (wnC_full (by rw [e0]; omega) (by rw [e1]; omega)).mp ((h.dn q).mpr hd) r c r0 (by rw [e1]; exact r1) c0 (by rw [e0]; exact c1)
  obtain ⟨-, e6, -, -, hc⟩ := hX c r c0 c1 r0 r1
  rw [e6] at hn
  omega
theorem Inv.hlo {S : St} (h : Inv S) (x : Int) : isP S x → dnM S x → ∀ a1 b1, 0 ≤ a1 → a1 < S 0 16 x → 0 ≤ b1 → b1 < S 0 17 x → 0 ≤ S 0 26 (240 * x + 10 * a1 + b1) ∧ S 0 26 (240 * x + 10 * a1 + b1) < 20 := fun q hd c r c0 c1 r0 r1 => by
  have := h.alw q hd c r c0 c1 r0 r1
  have := h.m.lt
  omega
theorem Inv.hun {S : St} (h : Inv S) (x w : Int) : isP S x → 0 ≤ w → w < S 0 18 x → S 0 20 (4 * x + w) < S 0 17 x → ∀ j, w * S 0 21 x / S 0 18 x ≤ j → j < (w + 1) * S 0 21 x / S 0 18 x → S 0 26 (240 * x + 10 * j + S 0 20 (4 * x + w)) = -1 ∧ S 0 27 (240 * x + 10 * j + S 0 20 (4 * x + w)) = 0 := fun q w0 w1 hlt j j0 j1 => by
  have hx := h.x20 q
  obtain ⟨⟨-, e0, e1, -, hW, hH, -⟩, hX, -, hQ⟩ := h.ip q
  rcases hQ with ⟨hd, -⟩ | ⟨e, h12, hv1, hv2, hle, hq⟩
  · have := hd w w0 w1
    omega
  · have hp := h.m.pc x hx.1 hx.2
    have hb := dvb w0 w1 hp.2.2.2.2.2.1 (show 0 ≤ S 0 21 x by omega) (show S 0 21 x ≤ 12 by omega)
    have hr := h.m.wv (4 * x + w) (by omega) (by omega)
    have h1 := hq w j (S 0 20 (4 * x + w)) w0 w1 j0 j1 hr.1 hlt
    obtain ⟨-, -, -, -, hc⟩ := hX j (S 0 20 (4 * x + w)) (by omega) (by omega) hr.1 hlt
    have h2 : S 0 26 (240 * x + 10 * j + S 0 20 (4 * x + w)) = -1 := Classical.byContradiction (fun y => absurd (h1.mp y) (by omega))
    rcases hc with ⟨-, h3⟩ | h3
    · exact ⟨h2, h3⟩
    · omega
theorem wrI_x {S : St} {o : Nat} {r f : Int} {n : Nat} {a b : Nat} {i : Int} (h : a ≠ 2) (h6 : a ≠ o) : wrI S o r f n a b i = S a b i := by
  induction n with
  | zero => rfl
  | succ n ih =>
    show wr1 (wrI S o r f n) o _ _ a b i = _
    unfold wr1
    rw [st_at, if_neg (by omega), st_at, if_neg (by omega), tkS_o (by omega), ih]
theorem zk_type {S : St} {z : Int} : (st (st (st S 1 1 (S 1 0 1) (sg z)) 1 0 1 (S 1 0 1 + 1)) 3 1 0 (wr (S 1 0 1 + 1))) 0 = S 0 ∧ (st (st (st S 1 1 (S 1 0 1) (sg z)) 1 0 1 (S 1 0 1 + 1)) 3 1 0 (wr (S 1 0 1 + 1))) 3 0 (-1) = S 3 0 (-1) := by
  constructor
  · funext b i
    rw [st_at, if_neg (by omega)]
    rw [st_at, if_neg (by omega)]
    rw [st_at, if_neg (by omega)]
  · rw [st_at, if_neg (by omega)]
    rw [st_at, if_neg (by omega)]
    rw [st_at, if_neg (by omega)]
theorem zk_cartoon {S : St} {z : Int} : (st (ctS S z) 3 1 0 (wr (S 1 0 3))) 0 = S 0 ∧ (st (ctS S z) 3 1 0 (wr (S 1 0 3))) 3 0 (-1) = S 3 0 (-1) := by
  constructor
  · funext b i
    rw [st_at, if_neg (by omega)]
    unfold ctS
    rw [st_at, if_neg (by omega)]
    rw [st_at, if_neg (by omega)]
    rw [nwS_n (by omega)]
  · rw [st_at, if_neg (by omega)]
    unfold ctS
    rw [st_at, if_neg (by omega)]
    rw [st_at, if_neg (by omega)]
    rw [nwS_n (by omega)]
theorem zk_row {S : St} {x : Int} : (st (st (st (adF S (4 + x.toNat) (S (4 + x.toNat) 0 0)) (4 + x.toNat) 0 1 (S (4 + x.toNat) 0 1 + 1)) 1 0 1 0) 3 1 0 (wr (S (4 + x.toNat) 0 1 + 1))) 0 = S 0 ∧ (st (st (st (adF S (4 + x.toNat) (S (4 + x.toNat) 0 0)) (4 + x.toNat) 0 1 (S (4 + x.toNat) 0 1 + 1)) 1 0 1 0) 3 1 0 (wr (S (4 + x.toNat) 0 1 + 1))) 3 0 (-1) = S 3 0 (-1) := by
  constructor
  · funext b i
    rw [st_at, if_neg (by omega)]
    rw [st_at, if_neg (by omega)]
    rw [st_at, if_neg (by omega)]
    unfold adF
    rw [if_neg (by omega)]
  · rw [st_at, if_neg (by omega)]
    rw [st_at, if_neg (by omega)]
    rw [st_at, if_neg (by omega)]
    unfold adF
    rw [if_neg (by omega)]
theorem zk_hatch {S : St} {x u w : Int} : (st (st S (4 + x.toNat) 0 3 u) (4 + x.toNat) 0 4 w) 0 = S 0 ∧ (st (st S (4 + x.toNat) 0 3 u) (4 + x.toNat) 0 4 w) 3 0 (-1) = S 3 0 (-1) := by
  constructor
  · funext b i
    rw [st_at, if_neg (by omega)]
    rw [st_at, if_neg (by omega)]
  · rw [st_at, if_neg (by omega)]
    rw [st_at, if_neg (by omega)]
theorem zk_dye {S : St} {u n f : Int} {bl : Prop} : (st (st (st (st (st (st (st S 2 2 (S 2 0 0) u) 2 3 (S 2 0 0) n) 2 4 (S 2 0 0) n) 2 5 (S 2 0 0) f) 2 6 (S 2 0 0) (b2 bl)) 2 0 0 (S 2 0 0 + 1)) 3 1 0 (wr (S 2 0 0))) 0 = S 0 ∧ (st (st (st (st (st (st (st S 2 2 (S 2 0 0) u) 2 3 (S 2 0 0) n) 2 4 (S 2 0 0) n) 2 5 (S 2 0 0) f) 2 6 (S 2 0 0) (b2 bl)) 2 0 0 (S 2 0 0 + 1)) 3 1 0 (wr (S 2 0 0))) 3 0 (-1) = S 3 0 (-1) := by
  constructor
  · funext b i
    rw [st_at, if_neg (by omega)]
    rw [st_at, if_neg (by omega)]
    rw [st_at, if_neg (by omega)]
    rw [st_at, if_neg (by omega)]
    rw [st_at, if_neg (by omega)]
    rw [st_at, if_neg (by omega)]
    rw [st_at, if_neg (by omega)]
  · rw [st_at, if_neg (by omega)]
    rw [st_at, if_neg (by omega)]
    rw [st_at, if_neg (by omega)]
    rw [st_at, if_neg (by omega)]
    rw [st_at, if_neg (by omega)]
    rw [st_at, if_neg (by omega)]
    rw [st_at, if_neg (by omega)]
theorem zk_left {S : St} {x : Int} : (st (S) 3 1 0 (wr (S 2 4 x))) 0 = S 0 ∧ (st (S) 3 1 0 (wr (S 2 4 x))) 3 0 (-1) = S 3 0 (-1) := by
  constructor
  · funext b i
    rw [st_at, if_neg (by omega)]
  · rw [st_at, if_neg (by omega)]
theorem zk_loom {S : St} {x n : Int} {mir : Prop} : (st (lmS S x n mir) 3 1 0 (wr (S 1 0 6))) 0 = S 0 ∧ (st (lmS S x n mir) 3 1 0 (wr (S 1 0 6))) 3 0 (-1) = S 3 0 (-1) := by
  constructor
  · funext b i
    rw [st_at, if_neg (by omega)]
    unfold lmS
    rw [st_at, if_neg (by omega)]
    rw [st_at, if_neg (by omega)]
    rw [dfF_x (by omega), nwS_n (by omega)]
  · rw [st_at, if_neg (by omega)]
    unfold lmS
    rw [st_at, if_neg (by omega)]
    rw [st_at, if_neg (by omega)]
    rw [dfF_x (by omega), nwS_n (by omega)]
theorem zk_weave {S : St} {x w : Int} : (st (wvS S (10 + x.toNat) w) 3 1 0 (wr (S (10 + x.toNat) 4 w))) 0 = S 0 ∧ (st (wvS S (10 + x.toNat) w) 3 1 0 (wr (S (10 + x.toNat) 4 w))) 3 0 (-1) = S 3 0 (-1) := by
  constructor
  · funext b i
    rw [st_at, if_neg (by omega)]
    unfold wvS
    rw [st_at, if_neg (by omega)]
    rw [wrI_x (by omega) (by omega)]
  · rw [st_at, if_neg (by omega)]
    unfold wvS
    rw [st_at, if_neg (by omega)]
    rw [wrI_x (by omega) (by omega)]
theorem zk_pieceIs {S : St} {x w : Int} : (st (S) 3 1 0 (wr (pcC S (10 + x.toNat) w))) 0 = S 0 ∧ (st (S) 3 1 0 (wr (pcC S (10 + x.toNat) w))) 3 0 (-1) = S 3 0 (-1) := by
  constructor
  · funext b i
    rw [st_at, if_neg (by omega)]
  · rw [st_at, if_neg (by omega)]
theorem zk_cell {S : St} {x r c w : Int} : (st (S) 3 1 0 (wr (ceF S (10 + x.toNat) r c w))) 0 = S 0 ∧ (st (S) 3 1 0 (wr (ceF S (10 + x.toNat) r c w))) 3 0 (-1) = S 3 0 (-1) := by
  constructor
  · funext b i
    rw [st_at, if_neg (by omega)]
  · rw [st_at, if_neg (by omega)]
theorem zk_sew {S : St} {x q : Int} : (st (st S (10 + x.toNat) 9 q 1) 3 1 0 (b2 (slC S (10 + x.toNat) q))) 0 = S 0 ∧ (st (st S (10 + x.toNat) 9 q 1) 3 1 0 (b2 (slC S (10 + x.toNat) q))) 3 0 (-1) = S 3 0 (-1) := by
  constructor
  · funext b i
    rw [st_at, if_neg (by omega)]
    rw [st_at, if_neg (by omega)]
  · rw [st_at, if_neg (by omega)]
    rw [st_at, if_neg (by omega)]
theorem zk_light {S : St} {x t : Int} : (st (ltS S (10 + x.toNat) t) 3 1 0 (wr (shC (ltS S (10 + x.toNat) t) (10 + x.toNat)))) 0 = S 0 ∧ (st (ltS S (10 + x.toNat) t) 3 1 0 (wr (shC (ltS S (10 + x.toNat) t) (10 + x.toNat)))) 3 0 (-1) = S 3 0 (-1) := by
  constructor
  · funext b i
    rw [st_at, if_neg (by omega)]
    unfold ltS
    rw [clF_f (by omega)]
  · rw [st_at, if_neg (by omega)]
    unfold ltS
    rw [clF_f (by omega)]
theorem zk_wash {S : St} {x : Int} : (st (waS S (10 + x.toNat)) 3 1 0 (wr (shC (waS S (10 + x.toNat)) (10 + x.toNat)))) 0 = S 0 ∧ (st (waS S (10 + x.toNat)) 3 1 0 (wr (shC (waS S (10 + x.toNat)) (10 + x.toNat)))) 3 0 (-1) = S 3 0 (-1) := by
  constructor
  · funext b i
    rw [st_at, if_neg (by omega)]
    unfold waS
    rw [bst_f (by omega)]
  · rw [st_at, if_neg (by omega)]
    unfold waS
    rw [bst_f (by omega)]
theorem zk_cut {S : St} {x q : Int} : (st (cuS S x q) 3 1 0 (wr (S 1 0 6))) 0 = S 0 ∧ (st (cuS S x q) 3 1 0 (wr (S 1 0 6))) 3 0 (-1) = S 3 0 (-1) := by
  constructor
  · funext b i
    rw [st_at, if_neg (by omega)]
    unfold cuS
    rw [st_at, if_neg (by omega)]
    rw [st_at, if_neg (by omega)]
    rw [st_at, if_neg (by omega)]
    rw [apF_x (by omega), nwS_n (by omega)]
  · rw [st_at, if_neg (by omega)]
    unfold cuS
    rw [st_at, if_neg (by omega)]
    rw [st_at, if_neg (by omega)]
    rw [st_at, if_neg (by omega)]
    rw [apF_x (by omega), nwS_n (by omega)]
theorem zk_match {S : St} {x z : Int} : (st (S) 3 1 0 (wr (mtC S (10 + x.toNat) (10 + z.toNat)))) 0 = S 0 ∧ (st (S) 3 1 0 (wr (mtC S (10 + x.toNat) (10 + z.toNat)))) 3 0 (-1) = S 3 0 (-1) := by
  constructor
  · funext b i
    rw [st_at, if_neg (by omega)]
  · rw [st_at, if_neg (by omega)]
theorem zk_join {S : St} {x z : Int} : (st (jnS S (10 + x.toNat) (10 + z.toNat) z) 3 1 0 (b2 (jnS S (10 + x.toNat) (10 + z.toNat) z (10 + x.toNat) 8 (S (10 + x.toNat) 0 0 - 1) + 1 = jnS S (10 + x.toNat) (10 + z.toNat) z (10 + x.toNat) 8 (S (10 + x.toNat) 0 0)))) 0 = S 0 ∧ (st (jnS S (10 + x.toNat) (10 + z.toNat) z) 3 1 0 (b2 (jnS S (10 + x.toNat) (10 + z.toNat) z (10 + x.toNat) 8 (S (10 + x.toNat) 0 0 - 1) + 1 = jnS S (10 + x.toNat) (10 + z.toNat) z (10 + x.toNat) 8 (S (10 + x.toNat) 0 0)))) 3 0 (-1) = S 3 0 (-1) := by
  constructor
  · funext b i
    rw [st_at, if_neg (by omega)]
    unfold jnS
    rw [st_at, if_neg (by omega)]
    rw [apF_x (by omega)]
  · rw [st_at, if_neg (by omega)]
    unfold jnS
    rw [st_at, if_neg (by omega)]
    rw [apF_x (by omega)]
theorem zk_isTrue {S : St} {x : Int} : (st (S) 3 1 0 (b2 (∀ j, 1 ≤ j → j < S (10 + x.toNat) 0 0 → S (10 + x.toNat) 8 (j - 1) + 1 = S (10 + x.toNat) 8 j))) 0 = S 0 ∧ (st (S) 3 1 0 (b2 (∀ j, 1 ≤ j → j < S (10 + x.toNat) 0 0 → S (10 + x.toNat) 8 (j - 1) + 1 = S (10 + x.toNat) 8 j))) 3 0 (-1) = S 3 0 (-1) := by
  constructor
  · funext b i
    rw [st_at, if_neg (by omega)]
  · rw [st_at, if_neg (by omega)]
theorem zk_likeness {S : St} {x z : Int} : (st (S) 3 1 0 (wr (lnC S (10 + x.toNat) (4 + z.toNat)))) 0 = S 0 ∧ (st (S) 3 1 0 (wr (lnC S (10 + x.toNat) (4 + z.toNat)))) 3 0 (-1) = S 3 0 (-1) := by
  constructor
  · funext b i
    rw [st_at, if_neg (by omega)]
  · rw [st_at, if_neg (by omega)]
