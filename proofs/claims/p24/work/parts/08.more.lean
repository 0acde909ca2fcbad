/-! ===== booleans as 1 and 0; sums; answers ===== -/
noncomputable def b2 (φ : Prop) : Int := @ite Int φ (Classical.propDecidable φ) 1 0
theorem b2_t {φ : Prop} (h : φ) : b2 φ = 1 := by unfold b2; exact if_pos h
theorem b2_f {φ : Prop} (h : ¬ φ) : b2 φ = 0 := by unfold b2; exact if_neg h
theorem b2_c {φ ψ : Prop} (h : φ ↔ ψ) : b2 φ = b2 ψ := by rw [propext h]
theorem b2_01 (φ : Prop) : b2 φ = 0 ∨ b2 φ = 1 := by
  by_cases h : φ
  · exact Or.inr (b2_t h)
  · exact Or.inl (b2_f h)
theorem b2_rng (φ : Prop) : rng (b2 φ) := by rcases b2_01 φ with h | h <;> rw [h] <;> exact ⟨by decide, by decide⟩
theorem b2_1 {φ : Prop} : b2 φ = 1 ↔ φ := by
  by_cases h : φ
  · exact ⟨fun _ => h, fun _ => b2_t h⟩
  · refine ⟨fun q => ?_, fun q => absurd q h⟩
    rw [b2_f h] at q
    exact absurd q (by decide)
theorem b2_0 {φ : Prop} : b2 φ = 0 ↔ ¬ φ := by
  by_cases h : φ
  · refine ⟨fun q => ?_, fun q => absurd h q⟩
    rw [b2_t h] at q
    exact absurd q (by decide)
  · exact ⟨fun _ => h, fun _ => b2_f h⟩
/-- f 0 + .. + f (n - 1) -/
def sm (f : Int → Int) : Nat → Int
  | 0 => 0
  | n + 1 => sm f n + f n
theorem sm_0 (f : Int → Int) : sm f 0 = 0 := rfl
theorem sm_1 (f : Int → Int) {i : Int} (h : 0 ≤ i) : sm f (i + 1).toNat = sm f i.toNat + f i := by
  obtain ⟨n, rfl⟩ := Int.eq_ofNat_of_zero_le h
  show sm f (n + 1) = sm f n + f n
  rfl
theorem sm_c {f g : Int → Int} {n : Nat} (h : ∀ i : Int, 0 ≤ i → i < n → f i = g i) : sm f n = sm g n := by
  induction n with
  | zero => rfl
  | succ n ih =>
    show sm f n + f n = sm g n + g n
    rw [ih (fun i h0 h1 => h i h0 (by omega)), h n (by omega) (by omega)]
section QB
variable {p : Program} {l : Launch} {e : Env} {R : Room} {s : State} {m : MethodId} {args : Array Value} {below : List Frame} {meth : Method} {c : Code} {H : Heap} {locs : List Loc} {cells slots : Nat} {Q : State → Prop}
variable {cc : ByteArray} {pc : Nat} {ls : Array Slot} {rest st0 : List Value} {g : GT} {base : Nat} {ad : Nat → Nat → Nat} {S : St} {own : String}
theorem q_if_eqb (hx : p.tables.exec = Jvm.exec) (hb : c.code = cc) {φ : Prop} {off : Int} {tgt : Nat} (hdg : decode cc pc = .ok (.ifCond .eq off, 3)) (ht : (pc : Int) + off = (tgt : Int))
    (kt : ¬ φ → W p l e R s m args below meth c H locs cells slots Q (F0 m tgt ls rest)) (kf : φ → W p l e R s m args below meth c H locs cells slots Q (F0 m (pc + 3) ls rest)) : W p l e R s m args below meth c H locs cells slots Q (F0 m pc ls (.int (i32 (b2 φ)) :: rest)) :=
  q_if_eq hx hb (b2_rng φ) hdg ht (fun h => kt (b2_0.mp h)) (fun h => kf (Classical.byContradiction fun q => h (b2_f q)))
theorem q_if_neb (hx : p.tables.exec = Jvm.exec) (hb : c.code = cc) {φ : Prop} {off : Int} {tgt : Nat} (hdg : decode cc pc = .ok (.ifCond .ne off, 3)) (ht : (pc : Int) + off = (tgt : Int))
    (kt : φ → W p l e R s m args below meth c H locs cells slots Q (F0 m tgt ls rest)) (kf : ¬ φ → W p l e R s m args below meth c H locs cells slots Q (F0 m (pc + 3) ls rest)) : W p l e R s m args below meth c H locs cells slots Q (F0 m pc ls (.int (i32 (b2 φ)) :: rest)) :=
  q_if_ne hx hb (b2_rng φ) hdg ht (fun h => kt (Classical.byContradiction fun q => h (b2_f q))) (fun h => kf (b2_0.mp h))
theorem q_an {v : Option Value} {ad2 : Nat → Nat → Nat} {S2 : St} {G : Option Value → (Nat → Nat → Nat) → St → Heap → List Loc → Prop} (kk : ∀ (H1 : Heap) (locs1 : List Loc), pic g base ad2 S2 H1 → va_S (fun q => base ≤ q) s.heap H1 locs1 → G v ad2 S2 H1 locs1) :
    ∀ (r : Option Value) (ad' : Nat → Nat → Nat) (S' : St) (H1 : Heap) (locs1 : List Loc), an v ad2 S2 r ad' S' → pic g base ad' S' H1 → va_S (fun q => base ≤ q) s.heap H1 locs1 → G r ad' S' H1 locs1 := by
  intro r ad' S' H1 locs1 h hP hS
  obtain ⟨h1, h2, h3⟩ := h
  rw [h1, h2, h3]
  rw [h2, h3] at hP
  exact kk H1 locs1 hP hS
end QB
/-! the fields of ints that are written -/
theorem set_1_1 (ad : Nat → Nat → Nat) (o : Nat) (f : Int → Int) (v : Int) : (fldsK 1 ad o f).set 1 (.int (i32 v)) = fldsK 1 ad o (ud f 1 v) := by simp [fldsK, ud]
theorem set_1_3 (ad : Nat → Nat → Nat) (o : Nat) (f : Int → Int) (v : Int) : (fldsK 1 ad o f).set 3 (.int (i32 v)) = fldsK 1 ad o (ud f 3 v) := by simp [fldsK, ud]
theorem set_1_6 (ad : Nat → Nat → Nat) (o : Nat) (f : Int → Int) (v : Int) : (fldsK 1 ad o f).set 6 (.int (i32 v)) = fldsK 1 ad o (ud f 6 v) := by simp [fldsK, ud]
theorem set_2_0 (ad : Nat → Nat → Nat) (o : Nat) (f : Int → Int) (v : Int) : (fldsK 2 ad o f).set 0 (.int (i32 v)) = fldsK 2 ad o (ud f 0 v) := by simp [fldsK, ud]
theorem set_4_1 (ad : Nat → Nat → Nat) (o : Nat) (f : Int → Int) (v : Int) : (fldsK 4 ad o f).set 1 (.int (i32 v)) = fldsK 4 ad o (ud f 1 v) := by simp [fldsK, ud]
theorem set_4_3 (ad : Nat → Nat → Nat) (o : Nat) (f : Int → Int) (v : Int) : (fldsK 4 ad o f).set 3 (.int (i32 v)) = fldsK 4 ad o (ud f 3 v) := by simp [fldsK, ud]
theorem set_4_4 (ad : Nat → Nat → Nat) (o : Nat) (f : Int → Int) (v : Int) : (fldsK 4 ad o f).set 4 (.int (i32 v)) = fldsK 4 ad o (ud f 4 v) := by simp [fldsK, ud]
theorem set_5_0 (ad : Nat → Nat → Nat) (o : Nat) (f : Int → Int) (v : Int) : (fldsK 5 ad o f).set 0 (.int (i32 v)) = fldsK 5 ad o (ud f 0 v) := by simp [fldsK, ud]
noncomputable def vA (S : St) (o r n : Nat) (z : Int) : Int := if 0 ≤ z ∧ z < n then S o r z else -1
theorem vA_in {S : St} {o r n : Nat} {z : Int} (h0 : 0 ≤ z) (h1 : z < n) : vA S o r n z = S o r z := if_pos ⟨h0, h1⟩
noncomputable def sA (S : St) (o r n : Nat) (z v : Int) : St := if 0 ≤ z ∧ z < n then st S o r z v else S
theorem sA_in {S : St} {o r n : Nat} {z v : Int} (h0 : 0 ≤ z) (h1 : z < n) : sA S o r n z v = st S o r z v := if_pos ⟨h0, h1⟩
/-- a letter's sign -/
def sg (z : Int) : Int := if z = 82 then 0 else if z = 66 then 1 else if z = 89 then 2 else if z = 71 then 3 else if z = 87 then 4 else if z = 90 then 5 else if z = 88 then 6 else -1
/-- which exception: that of the first condition that does not hold -/
noncomputable def thr (A B C : Prop) : Int := @ite Int A (Classical.propDecidable A) (@ite Int B (Classical.propDecidable B) (@ite Int C (Classical.propDecidable C) 0 3) 2) 1
theorem thr_1 {A B C : Prop} (a : ¬ A) : thr A B C = 1 := by unfold thr; exact if_neg a
theorem thr_2 {A B C : Prop} (a : A) (b : ¬ B) : thr A B C = 2 := by unfold thr; rw [if_pos a, if_neg b]
theorem thr_3 {A B C : Prop} (a : A) (b : B) (c : ¬ C) : thr A B C = 3 := by unfold thr; rw [if_pos a, if_pos b, if_neg c]
theorem thr_0 {A B C : Prop} (a : A) (b : B) (c : C) : thr A B C = 0 := by unfold thr; rw [if_pos a, if_pos b, if_pos c]
theorem thr_rng (A B C : Prop) : rng (thr A B C) := by
  by_cases a : A
  · by_cases b : B
    · by_cases c : C
      · rw [thr_0 a b c]; exact ⟨by decide, by decide⟩
      · rw [thr_3 a b c]; exact ⟨by decide, by decide⟩
    · rw [thr_2 a b]; exact ⟨by decide, by decide⟩
  · rw [thr_1 a]; exact ⟨by decide, by decide⟩
theorem thr_z {A B C : Prop} : thr A B C = 0 ↔ A ∧ B ∧ C := by
  refine ⟨fun h => ?_, fun h => thr_0 h.1 h.2.1 h.2.2⟩
  by_cases a : A
  · by_cases b : B
    · by_cases c : C
      · exact ⟨a, b, c⟩
      · rw [thr_3 a b c] at h; exact absurd h (by decide)
    · rw [thr_2 a b] at h; exact absurd h (by decide)
  · rw [thr_1 a] at h; exact absurd h (by decide)
theorem mk_m {l : Launch} {y : MethodName} {cc : ByteArray} {maxL : Nat} {ret : Option FieldType} {own : String} {g : GT} {base : Nat} {ad : Nat → Nat → Nat} {S : St} {av : List Value} {lv0 : List (Nat × Value)} {rm : Room} {Qc : Array Value → State → Outcome → State → Prop} {mc ms : Nat}
    (hy : plainName y.cls = true) (ho : y.cls = own) (hn : (lg_sl av).length ≤ maxL) (hlv : lv_args 0 av = lv0)
    (body : ∀ (p : Program) (e : Env) (s : State) (m : MethodId) (below : List Frame) (meth : Method) (c : Code) (av : Array Value) (Qm : State → Prop), p.tables.exec = Jvm.exec → c.code = cc → meth.sig.returnType = ret → c.maxLocals = maxL → s.vm.findClass own = some m.cls → meth.locks = false → KK g s → ZZ base s s.heap → pic g base ad S s.heap → Qm = MQ below Qc av s mc ms (fun q => base ≤ q) → ∀ ls : Array Slot, lv_has ls maxL lv0 →
      W p l e rm s m av below meth c s.heap [] 0 0 Qm (F0 m 0 ls [])) :
    Met l y [Cond.code y cc maxL ret] rm (va_Pc av (PK g base ad S)) Qc mc ms (fun q => base ≤ q) :=
  mk_met hy ho hn hlv (fun p e s m below meth c hx hb hr hml hown hlocks _ hK hZ hP ls hl => body p e s m below meth c _ _ hx hb hr hml hown hlocks hK hZ hP rfl ls hl)
theorem mk_mx {l : Launch} {y : MethodName} {cc : ByteArray} {maxL : Nat} {ret : Option FieldType} {own : String} {g : GT} {base : Nat} {ad : Nat → Nat → Nat} {S : St} {av : List Value} {lv0 : List (Nat × Value)} {rm : Room} {Qc : Array Value → State → Outcome → State → Prop} {XC : String → State → State → Prop} {mc ms : Nat}
    (hy : plainName y.cls = true) (ho : y.cls = own) (hn : (lg_sl av).length ≤ maxL) (hlv : lv_args 0 av = lv0)
    (body : ∀ (p : Program) (e : Env) (s : State) (m : MethodId) (below : List Frame) (meth : Method) (c : Code) (av : Array Value) (Qm : State → Prop), p.tables.exec = Jvm.exec → c.code = cc → meth.sig.returnType = ret → c.maxLocals = maxL → s.vm.findClass own = some m.cls → meth.locks = false → (∀ x ∈ c.exceptionTable.toList, False) → KK g s → ZZ base s s.heap → pic g base ad S s.heap → Qm = vx_MQ below Qc XC av s mc ms (fun q => base ≤ q) → ∀ ls : Array Slot, lv_has ls maxL lv0 →
      W p l e rm s m av below meth c s.heap [] 0 0 Qm (F0 m 0 ls [])) :
    vx_Met l y [Cond.code y cc maxL ret] rm (va_Pc av (PK g base ad S)) Qc XC mc ms (fun q => base ≤ q) :=
  mk_metx hy ho hn hlv (fun p e s m below meth c hx hb hr hml hown hlocks _ hout hK hZ hP ls hl => body p e s m below meth c _ _ hx hb hr hml hown hlocks hout hK hZ hP rfl ls hl)
