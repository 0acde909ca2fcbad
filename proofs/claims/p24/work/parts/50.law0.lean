/-! ===== the law's helpers ===== -/
/-- an answer, or the number of the exception of the first condition that does not hold -/
noncomputable def lv3 (A B C : Prop) (x1 x2 x3 v : Int) : Int := cif A (cif B (cif C v x3) x2) x1
theorem lv_1 {A B C : Prop} {x1 x2 x3 v : Int} (a : ¬ A) : lv3 A B C x1 x2 x3 v = x1 := by unfold lv3; rw [cif_f a]
theorem lv_2 {A B C : Prop} {x1 x2 x3 v : Int} (a : A) (b : ¬ B) : lv3 A B C x1 x2 x3 v = x2 := by unfold lv3; rw [cif_t a, cif_f b]
theorem lv_3 {A B C : Prop} {x1 x2 x3 v : Int} (a : A) (b : B) (c : ¬ C) : lv3 A B C x1 x2 x3 v = x3 := by unfold lv3; rw [cif_t a, cif_t b, cif_f c]
theorem lv_0 {A B C : Prop} {x1 x2 x3 v : Int} (a : A) (b : B) (c : C) : lv3 A B C x1 x2 x3 v = v := by unfold lv3; rw [cif_t a, cif_t b, cif_t c]
/-- a helper that may write: what it answers, what it leaves -/
def lhQ (ad : Nat → Nat → Nat) (A B C : Prop) (x1 x2 x3 v : Int) (S Z : St) : Option Value → (Nat → Nat → Nat) → St → Prop := fun r ad' S' =>
  (r = some (.int (i32 (lv3 A B C x1 x2 x3 v))) ∧ ad' = ad) ∧ ((¬ (A ∧ B ∧ C) ∧ S' = S) ∨ ((A ∧ B ∧ C) ∧ S' = Z))
/-- .. and may make objects -/
def lhN (ad : Nat → Nat → Nat) (A B C : Prop) (x1 x2 x3 v : Int) (S Z : St) : Option Value → (Nat → Nat → Nat) → St → Prop := fun r ad' S' =>
  (r = some (.int (i32 (lv3 A B C x1 x2 x3 v))) ∧ ∀ x q, x < 4 → ad' x q = ad x q) ∧ ((¬ (A ∧ B ∧ C) ∧ S' = S) ∨ ((A ∧ B ∧ C) ∧ S' = Z))
theorem mk_mh {l : Launch} {y : MethodName} {cc : ByteArray} {maxL : Nat} {ret : Option FieldType} {own : String} {g : GT} {base : Nat} {ad : Nat → Nat → Nat} {S : St} {av : List Value} {lv0 : List (Nat × Value)} {rm : Room} {hh : List (Nat × Nat × Nat × Nat)} {Qc : Array Value → State → Outcome → State → Prop} {XC : String → State → State → Prop} {mc ms : Nat}
    (hy : plainName y.cls = true) (ho : y.cls = own) (hn : (lg_sl av).length ≤ maxL) (hlv : lv_args 0 av = lv0)
    (body : ∀ (p : Program) (e : Env) (s : State) (m : MethodId) (below : List Frame) (meth : Method) (c : Code) (av : Array Value) (Qm : State → Prop), p.tables.exec = Jvm.exec → c.code = cc → meth.sig.returnType = ret → c.maxLocals = maxL → s.vm.findClass own = some m.cls → meth.locks = false → c.exceptionTable.toList = tableOf hh → KK g s → ZZ base s s.heap → pic g base ad S s.heap → Qm = vx_MQ below Qc XC av s mc ms (fun q => base ≤ q) → ∀ ls : Array Slot, lv_has ls maxL lv0 →
      W p l e rm s m av below meth c s.heap [] 0 0 Qm (F0 m 0 ls [])) :
    vx_Met l y [Cond.codeWith y cc maxL ret hh] rm (va_Pc av (PK g base ad S)) Qc XC mc ms (fun q => base ≤ q) := by
  refine vx_ofWH (cc := cc) (maxL := maxL) (ret := ret) (hh := hh) hy rfl ?_
  intro p e s m args below meth c s₁ B hml hv
  obtain ⟨rfl, hK, hZ, hP⟩ := hv
  have hown : s.vm.findClass own = some m.cls := by rw [← ho]; exact findClass_of_methodNamed B.named
  have ht : c.exceptionTable.toList = tableOf hh := vx_table (x := y) B (atoms_spec (ws := [Cond.codeWith y cc maxL ret hh]) B.pre _ List.mem_cons_self)
  rw [lg_entry_eq]
  exact body p e s m below meth c _ _ B.exec B.bytes B.returns hml hown B.notSynchronized ht hK hZ hP rfl _ (hlv ▸ lv_entry av hn)
section QL
variable {p : Program} {l : Launch} {e : Env} {R : Room} {s : State} {m : MethodId} {args : Array Value} {below : List Frame} {meth : Method} {c : Code} {H : Heap} {locs : List Loc} {cells slots : Nat} {Q : State → Prop}
variable {cc : ByteArray} {pc : Nat} {ls : Array Slot} {rest st0 : List Value} {g : GT} {base : Nat} {ad : Nat → Nat → Nat} {S : St} {own : String}
variable {P : Option Value → (Nat → Nat → Nat) → St → Prop} {y : MethodName} {bytes : ByteArray} {maxL nL n index : Nat} {rm : Room} {As : List Value} {ret : Option FieldType} {hh : List (Nat × Nat × Nat × Nat)}
theorem q_callH (hx : p.tables.exec = Jvm.exec) (hb : c.code = cc) (hml : c.maxLocals = nL) (hls : ls.size = nL) (hown : s.vm.findClass own = some m.cls) (hK : KK g s) (hZ : ZZ base s s.heap) (hP : pic g base ad S H) (hS : va_S (fun q => base ≤ q) s.heap H locs)
    (hM : vx_Met l y [Cond.codeWith y bytes maxL ret hh] rm (va_Pc As (PK g base ad S)) (gQ g base P) (xQ g base ad S (fun _ => False)) rm.cells rm.slots (fun q => base ≤ q)) {il ii ic is : Nat} (hl : lw_tbl[il]? = some (.methodLink own index y)) (hi : lw_tbl[ii]? = some (.initialized y.cls)) (hc : lw_tbl[ic]? = some (.codeWith y bytes maxL ret hh)) (hst : lw_tbl[is]? = some (.static y)) (hfa : (y.cls ≠ "java/lang/invoke/MethodHandle" ∧ y.cls ≠ "java/lang/invoke/VarHandle") ∧ (parseMethodDescriptor y.desc).map (fun d => d.parameters.length) = some n) (hR : rm.frames + 1 ≤ R.frames ∧ 8 + (maxL + 11) + rm.locals ≤ R.locals) (hn : As.length = n) (hstk : st0 = As.reverse ++ rest) (hcat : (rest.map fun v => v.category).sum ≤ 8) (hdg : decode cc pc = .ok (.invokestatic index, 3)) (hf : cells + rm.cells ≤ R.cells ∧ slots + rm.slots ≤ R.slots)
    (kk : ∀ (r : Option Value) (ad' : Nat → Nat → Nat) (S' : St) (H1 : Heap) (locs1 : List Loc), P r ad' S' → pic g base ad' S' H1 → va_S (fun q => base ≤ q) s.heap H1 locs1 → W p l e R s m args below meth c H1 locs1 (cells + rm.cells) (slots + rm.slots) Q (F0 m (pc + 3) ls (r.toList ++ rest))) : W p l e R s m args below meth c H locs cells slots Q (F0 m pc ls st0) := by
  refine q_gox (vx_runSX (As := As) (rest := rest) (Ts := []) (hh := hh) ⟨hx, hb, hml, hown, fun _ h => nomatch h⟩ hM ⟨⟨rfl, rfl, hR.1, hR.2, fun w hw a' U hW => ?_, List.mem_cons_self⟩, hK.b ic hc rfl, hK.b ii hi rfl, hfa.1, fun sig h => ?_, hK.b il hl rfl, hK.b is hst rfl⟩ (q_pre hK hZ hP hS As) rfl hn hls hstk (lv_room hcat) hdg hf) hS (fun E ce q H1 locs1 hE _ _ _ _ _ => hE.elim) kk
  · rw [List.mem_singleton.mp hw]
    exact (hK.warm hW).b ic hc rfl
  · have h2 := hfa.2
    rw [h] at h2
    exact (Option.some.inj h2).symm
end QL
set_option maxHeartbeats 4000000 in
set_option maxRecDepth 100000 in
theorem c_L_type (l : Launch) (g : GT) (base : Nat) (ad : Nat → Nat → Nat) (S : St) (z : Int) (hfl : l.stackTraces = false) (hwc : wC S) (hrn : rng z) : vx_Met l yL_type [Cond.codeWith yL_type cL_type 3 (some FieldType.int) [(0, 5, 6, 16), (0, 5, 10, 19)]] ({ frames := 7, cells := 1, slots := 6, locals := 112 }) (va_Pc [.ref (ad 1 0), .int (i32 (z))] (PK g base ad S)) (gQ g base (lhQ ad (sg z ≠ -1) (S 1 0 1 < 12) (True) (-1000002) (-1000003) 0 (S 1 0 1 + 1) S (st (st S 1 1 (S 1 0 1) (sg z)) 1 0 1 (S 1 0 1 + 1)))) (xQ g base ad S (fun _ => False)) 1 6 (fun q => base ≤ q) := by
  refine mk_mh (own := RL) (lv0 := [(0, .ref (ad 1 0)), (1, .int (i32 (z)))]) (by decide) rfl (Nat.le_of_ble_eq_true rfl) rfl ?_
  intro p e s m below meth cz av Qm hx hb hr hml hown hlocks ht hK hZ hP hQm ls hl
  have hS : va_S (fun q => base ≤ q) s.heap s.heap [] := va_S.rf
  refine lv_aload_n hx hb dL_type_0 rfl (lv_at hl 0 rfl) ?_
  refine lv_iload_n hx hb dL_type_1 rfl (lv_at hl 1 rfl) ?_
  refine q_callVx (k := 1) (rest := []) hx hb hml hl.1 hown hK hZ hP hS hwc.h1 rfl rfl rfl (c_X3_type l g base ad S z hfl hwc hrn) t_391 t_392 (q_callB hK 390 15 393 t_390 t_15 t_393 f_yX3_type ⟨by decide, by decide⟩) rfl rfl (Nat.le_of_ble_eq_true rfl) dL_type_2 ⟨by decide, by decide⟩ (fun E ce q9 H locs hE hq9 hv9 hc9 hP hS => ?_) (fun rr ad9 S9 H locs hQ hP hS => ?_)
  · rcases hE with ⟨rfl, h1⟩ | ⟨rfl, h1, h2⟩ | ⟨rfl, h1, h2, h3⟩
    · refine vx_catch (own := RL) (name := eA) hown [] ⟨0, 5, 6, 16⟩ [⟨0, 5, 10, 19⟩] ht (fun z hz => nomatch hz) (by decide) (by decide) (hK.b 129 t_129 rfl) (hK.b 208 t_208 rfl) hq9 hv9 hc9 ?_
      refine lv_astore_n (lv' := [(2, .ref q9), (0, .ref (ad 1 0)), (1, .int (i32 (z)))]) hx hb dL_type_6 rfl hl (by decide) rfl (fun ls hl => ?_)
      refine q_ldc (z := -1000002) hx hb hown hK t_249 rfl dL_type_7 ?_
      subst hQm
      refine vx_ret ?_
      exact q_iret hx hb hr hlocks hP hS ⟨⟨by rw [lv_1 h1], rfl⟩, Or.inl ⟨fun y => h1 y.1, rfl⟩⟩ (by decide) (Nat.le_of_ble_eq_true rfl) dL_type_9
    · refine vx_catch (own := RL) (name := eS) hown [⟨0, 5, 6, 16⟩] ⟨0, 5, 10, 19⟩ [] ht (fun z hz => by rw [List.mem_singleton.mp hz]; exact Or.inr ⟨by decide, eA, hK.b 129 t_129 rfl, hK.2.2.2.2.2.2 (eS, eA) (by decide)⟩) (by decide) (by decide) (hK.b 130 t_130 rfl) (hK.b 229 t_229 rfl) hq9 hv9 hc9 ?_
      refine lv_astore_n (lv' := [(2, .ref q9), (0, .ref (ad 1 0)), (1, .int (i32 (z)))]) hx hb dL_type_10 rfl hl (by decide) rfl (fun ls hl => ?_)
      refine q_ldc (z := -1000003) hx hb hown hK t_250 rfl dL_type_11 ?_
      subst hQm
      refine vx_ret ?_
      exact q_iret hx hb hr hlocks hP hS ⟨⟨by rw [lv_2 h1 h2], rfl⟩, Or.inl ⟨fun y => h2 y.2.1, rfl⟩⟩ (by decide) (Nat.le_of_ble_eq_true rfl) dL_type_13
    · exact (h3 trivial).elim
  · obtain ⟨hc, h1, h2, h3⟩ := hQ
    subst h1
    rw [h2] at hP
    rw [h3] at hP
    subst hQm
    refine vx_ret ?_
    exact q_iret hx hb hr hlocks hP hS ⟨⟨by rw [lv_0 hc.1 hc.2.1 hc.2.2], rfl⟩, Or.inr ⟨hc, rfl⟩⟩ (by decide) (Nat.le_of_ble_eq_true rfl) dL_type_5

set_option maxHeartbeats 4000000 in
set_option maxRecDepth 100000 in
theorem c_L_cartoon (l : Launch) (g : GT) (base : Nat) (ad : Nat → Nat → Nat) (S : St) (z : Int) (hfl : l.stackTraces = false) (hwc : wC S) (hrn : rng z) (hcf : ∀ j : Nat, S 1 3 j = 1 → (j : Int) < S 1 0 3) (hpf : ∀ j : Nat, S 1 6 j = 1 → (j : Int) < S 1 0 6) : vx_Met l yL_cartoon [Cond.codeWith yL_cartoon cL_cartoon 3 (some FieldType.int) [(0, 5, 6, 16), (0, 5, 10, 19)]] ({ frames := 7, cells := 2, slots := 125, locals := 112 }) (va_Pc [.ref (ad 1 0), .int (i32 (z))] (PK g base ad S)) (gQ g base (lhN ad (2 ≤ z ∧ z ≤ 12) (S 1 0 3 < 5) (True) (-1000002) (-1000003) 0 (S 1 0 3) S (ctS S z))) (xQ g base ad S (fun _ => False)) 2 125 (fun q => base ≤ q) := by
  refine mk_mh (own := RL) (lv0 := [(0, .ref (ad 1 0)), (1, .int (i32 (z)))]) (by decide) rfl (Nat.le_of_ble_eq_true rfl) rfl ?_
  intro p e s m below meth cz av Qm hx hb hr hml hown hlocks ht hK hZ hP hQm ls hl
  have hS : va_S (fun q => base ≤ q) s.heap s.heap [] := va_S.rf
  refine lv_aload_n hx hb dL_cartoon_0 rfl (lv_at hl 0 rfl) ?_
  refine lv_iload_n hx hb dL_cartoon_1 rfl (lv_at hl 1 rfl) ?_
  refine q_callVx (k := 1) (rest := []) hx hb hml hl.1 hown hK hZ hP hS hwc.h1 rfl rfl rfl (c_X3_cartoon l g base ad S z hfl hwc hrn hcf hpf) t_354 t_355 (q_callB hK 353 15 356 t_353 t_15 t_356 f_yX3_cartoon ⟨by decide, by decide⟩) rfl rfl (Nat.le_of_ble_eq_true rfl) dL_cartoon_2 ⟨by decide, by decide⟩ (fun E ce q9 H locs hE hq9 hv9 hc9 hP hS => ?_) (fun rr ad9 S9 H locs hQ hP hS => ?_)
  · rcases hE with ⟨rfl, h1⟩ | ⟨rfl, h1, h2⟩ | ⟨rfl, h1, h2, h3⟩
    · refine vx_catch (own := RL) (name := eA) hown [] ⟨0, 5, 6, 16⟩ [⟨0, 5, 10, 19⟩] ht (fun z hz => nomatch hz) (by decide) (by decide) (hK.b 129 t_129 rfl) (hK.b 208 t_208 rfl) hq9 hv9 hc9 ?_
      refine lv_astore_n (lv' := [(2, .ref q9), (0, .ref (ad 1 0)), (1, .int (i32 (z)))]) hx hb dL_cartoon_6 rfl hl (by decide) rfl (fun ls hl => ?_)
      refine q_ldc (z := -1000002) hx hb hown hK t_249 rfl dL_cartoon_7 ?_
      subst hQm
      refine vx_ret ?_
      exact q_iret hx hb hr hlocks hP hS ⟨⟨by rw [lv_1 h1], fun _ _ _ => rfl⟩, Or.inl ⟨fun y => h1 y.1, rfl⟩⟩ (by decide) (Nat.le_of_ble_eq_true rfl) dL_cartoon_9
    · refine vx_catch (own := RL) (name := eS) hown [⟨0, 5, 6, 16⟩] ⟨0, 5, 10, 19⟩ [] ht (fun z hz => by rw [List.mem_singleton.mp hz]; exact Or.inr ⟨by decide, eA, hK.b 129 t_129 rfl, hK.2.2.2.2.2.2 (eS, eA) (by decide)⟩) (by decide) (by decide) (hK.b 130 t_130 rfl) (hK.b 229 t_229 rfl) hq9 hv9 hc9 ?_
      refine lv_astore_n (lv' := [(2, .ref q9), (0, .ref (ad 1 0)), (1, .int (i32 (z)))]) hx hb dL_cartoon_10 rfl hl (by decide) rfl (fun ls hl => ?_)
      refine q_ldc (z := -1000003) hx hb hown hK t_250 rfl dL_cartoon_11 ?_
      subst hQm
      refine vx_ret ?_
      exact q_iret hx hb hr hlocks hP hS ⟨⟨by rw [lv_2 h1 h2], fun _ _ _ => rfl⟩, Or.inl ⟨fun y => h2 y.2.1, rfl⟩⟩ (by decide) (Nat.le_of_ble_eq_true rfl) dL_cartoon_13
    · exact (h3 trivial).elim
  · obtain ⟨hc, A9, h1, h2, h3⟩ := hQ
    subst h1
    have ek : ∀ x q, x < 4 → ad9 x q = ad x q := fun x q h => by rw [h2]; exact adN_n (by omega)
    rw [h3] at hP
    subst hQm
    refine vx_ret ?_
    exact q_iret hx hb hr hlocks hP hS ⟨⟨by rw [lv_0 hc.1 hc.2.1 hc.2.2], ek⟩, Or.inr ⟨hc, rfl⟩⟩ (by decide) (Nat.le_of_ble_eq_true rfl) dL_cartoon_5

set_option maxHeartbeats 4000000 in
set_option maxRecDepth 100000 in
theorem c_L_row (l : Launch) (g : GT) (base : Nat) (ad : Nat → Nat → Nat) (S : St) (x : Int) (hfl : l.stackTraces = false) (hwc : wC S) (hrn : rng x) : vx_Met l yL_row [Cond.codeWith yL_row cL_row 3 (some FieldType.int) [(0, 5, 6, 29), (0, 5, 10, 19)]] ({ frames := 8, cells := 2, slots := 12, locals := 134 }) (va_Pc [.ref (ad 1 0), .int (i32 (x))] (PK g base ad S)) (gQ g base (lhQ ad (ceC S x) (S 1 0 1 = S (4 + x.toNat) 0 0 ∧ S (4 + x.toNat) 0 1 < 10) (True) (-1000001) (-1000003) 0 (S (4 + x.toNat) 0 1 + 1) S (st (st (adF S (4 + x.toNat) (S (4 + x.toNat) 0 0)) (4 + x.toNat) 0 1 (S (4 + x.toNat) 0 1 + 1)) 1 0 1 0))) (xQ g base ad S (fun _ => False)) 2 12 (fun q => base ≤ q) := by
  refine mk_mh (own := RL) (lv0 := [(0, .ref (ad 1 0)), (1, .int (i32 (x)))]) (by decide) rfl (Nat.le_of_ble_eq_true rfl) rfl ?_
  intro p e s m below meth cz av Qm hx hb hr hml hown hlocks ht hK hZ hP hQm ls hl
  have hS : va_S (fun q => base ≤ q) s.heap s.heap [] := va_S.rf
  refine lv_aload_n hx hb dL_row_0 rfl (lv_at hl 0 rfl) ?_
  refine lv_iload_n hx hb dL_row_1 rfl (lv_at hl 1 rfl) ?_
  refine q_callVx (k := 1) (rest := []) hx hb hml hl.1 hown hK hZ hP hS hwc.h1 rfl rfl rfl (c_X3_row l g base ad S x hfl hwc hrn) t_404 t_405 (q_callB hK 403 15 406 t_403 t_15 t_406 f_yX3_row ⟨by decide, by decide⟩) rfl rfl (Nat.le_of_ble_eq_true rfl) dL_row_2 ⟨by decide, by decide⟩ (fun E ce q9 H locs hE hq9 hv9 hc9 hP hS => ?_) (fun rr ad9 S9 H locs hQ hP hS => ?_)
  · rcases hE with ⟨rfl, h1⟩ | ⟨rfl, h1, h2⟩ | ⟨rfl, h1, h2, h3⟩
    · refine vx_catch (own := RL) (name := eB) hown [] ⟨0, 5, 6, 29⟩ [⟨0, 5, 10, 19⟩] ht (fun z hz => nomatch hz) (by decide) (by decide) (hK.b 128 t_128 rfl) (hK.b 140 t_140 rfl) hq9 hv9 hc9 ?_
      refine lv_astore_n (lv' := [(2, .ref q9), (0, .ref (ad 1 0)), (1, .int (i32 (x)))]) hx hb dL_row_6 rfl hl (by decide) rfl (fun ls hl => ?_)
      refine q_ldc (z := -1000001) hx hb hown hK t_248 rfl dL_row_7 ?_
      subst hQm
      refine vx_ret ?_
      exact q_iret hx hb hr hlocks hP hS ⟨⟨by rw [lv_1 h1], rfl⟩, Or.inl ⟨fun y => h1 y.1, rfl⟩⟩ (by decide) (Nat.le_of_ble_eq_true rfl) dL_row_9
    · refine vx_catch (own := RL) (name := eS) hown [⟨0, 5, 6, 29⟩] ⟨0, 5, 10, 19⟩ [] ht (fun z hz => by rw [List.mem_singleton.mp hz]; exact Or.inr ⟨by decide, eB, hK.b 128 t_128 rfl, hK.2.2.2.2.2.2 (eS, eB) (by decide)⟩) (by decide) (by decide) (hK.b 130 t_130 rfl) (hK.b 229 t_229 rfl) hq9 hv9 hc9 ?_
      refine lv_astore_n (lv' := [(2, .ref q9), (0, .ref (ad 1 0)), (1, .int (i32 (x)))]) hx hb dL_row_10 rfl hl (by decide) rfl (fun ls hl => ?_)
      refine q_ldc (z := -1000003) hx hb hown hK t_250 rfl dL_row_11 ?_
      subst hQm
      refine vx_ret ?_
      exact q_iret hx hb hr hlocks hP hS ⟨⟨by rw [lv_2 h1 h2], rfl⟩, Or.inl ⟨fun y => h2 y.2.1, rfl⟩⟩ (by decide) (Nat.le_of_ble_eq_true rfl) dL_row_13
    · exact (h3 trivial).elim
  · obtain ⟨hc, h1, h2, h3⟩ := hQ
    subst h1
    rw [h2] at hP
    rw [h3] at hP
    subst hQm
    refine vx_ret ?_
    exact q_iret hx hb hr hlocks hP hS ⟨⟨by rw [lv_0 hc.1 hc.2.1 hc.2.2], rfl⟩, Or.inr ⟨hc, rfl⟩⟩ (by decide) (Nat.le_of_ble_eq_true rfl) dL_row_5

set_option maxHeartbeats 4000000 in
set_option maxRecDepth 100000 in
theorem c_L_hatch (l : Launch) (g : GT) (base : Nat) (ad : Nat → Nat → Nat) (S : St) (x u w : Int) (hfl : l.stackTraces = false) (hwc : wC S) (hrn : rng x) (hrn2 : rng u) (hrn3 : rng w) : vx_Met l yL_hatch [Cond.codeWith yL_hatch cL_hatch 5 (some FieldType.int) [(0, 8, 9, 29)]] ({ frames := 8, cells := 3, slots := 18, locals := 136 }) (va_Pc [.ref (ad 1 0), .int (i32 (x)), .int (i32 (u)), .int (i32 (w))] (PK g base ad S)) (gQ g base (lhQ ad (ceC S x ∧ (0 ≤ u ∧ u < 6) ∧ (0 ≤ w ∧ w < 6)) (True) (True) (-1000001) 0 0 (0) S (st (st S (4 + x.toNat) 0 3 u) (4 + x.toNat) 0 4 w))) (xQ g base ad S (fun _ => False)) 3 18 (fun q => base ≤ q) := by
  refine mk_mh (own := RL) (lv0 := [(0, .ref (ad 1 0)), (1, .int (i32 (x))), (2, .int (i32 (u))), (3, .int (i32 (w)))]) (by decide) rfl (Nat.le_of_ble_eq_true rfl) rfl ?_
  intro p e s m below meth cz av Qm hx hb hr hml hown hlocks ht hK hZ hP hQm ls hl
  have hS : va_S (fun q => base ≤ q) s.heap s.heap [] := va_S.rf
  refine lv_aload_n hx hb dL_hatch_0 rfl (lv_at hl 0 rfl) ?_
  refine lv_iload_n hx hb dL_hatch_1 rfl (lv_at hl 1 rfl) ?_
  refine lv_iload_n hx hb dL_hatch_2 rfl (lv_at hl 2 rfl) ?_
  refine lv_iload_n hx hb dL_hatch_3 rfl (lv_at hl 3 rfl) ?_
  refine q_callVx (k := 1) (rest := []) hx hb hml hl.1 hown hK hZ hP hS hwc.h1 rfl rfl rfl (c_X3_hatch l g base ad S x u w hfl hwc hrn hrn2 hrn3) t_432 t_433 (q_callB hK 431 15 434 t_431 t_15 t_434 f_yX3_hatch ⟨by decide, by decide⟩) rfl rfl (Nat.le_of_ble_eq_true rfl) dL_hatch_4 ⟨by decide, by decide⟩ (fun E ce q9 H locs hE hq9 hv9 hc9 hP hS => ?_) (fun rr ad9 S9 H locs hQ hP hS => ?_)
  · rcases hE with ⟨rfl, h1⟩ | ⟨rfl, h1, h2⟩ | ⟨rfl, h1, h2, h3⟩
    · refine vx_catch (own := RL) (name := eB) hown [] ⟨0, 8, 9, 29⟩ [] ht (fun z hz => nomatch hz) (by decide) (by decide) (hK.b 128 t_128 rfl) (hK.b 140 t_140 rfl) hq9 hv9 hc9 ?_
      refine lv_astore (lv' := [(4, .ref q9), (0, .ref (ad 1 0)), (1, .int (i32 (x))), (2, .int (i32 (u))), (3, .int (i32 (w)))]) hx hb dL_hatch_9 hl (by decide) rfl (fun ls hl => ?_)
      refine q_ldc (z := -1000001) hx hb hown hK t_248 rfl dL_hatch_11 ?_
      subst hQm
      refine vx_ret ?_
      exact q_iret hx hb hr hlocks hP hS ⟨⟨by rw [lv_1 h1], rfl⟩, Or.inl ⟨fun y => h1 y.1, rfl⟩⟩ (by decide) (Nat.le_of_ble_eq_true rfl) dL_hatch_13
    · exact (h2 trivial).elim
    · exact (h3 trivial).elim
  · obtain ⟨hc, h1, h2, h3⟩ := hQ
    subst h1
    rw [h2] at hP
    rw [h3] at hP
    refine lv_iconst (v := i32 0) hx hb dL_hatch_7 rfl ?_
    subst hQm
    refine vx_ret ?_
    exact q_iret hx hb hr hlocks hP hS ⟨⟨by rw [lv_0 hc.1 hc.2.1 hc.2.2], rfl⟩, Or.inr ⟨hc, rfl⟩⟩ (by decide) (Nat.le_of_ble_eq_true rfl) dL_hatch_8

set_option maxHeartbeats 4000000 in
set_option maxRecDepth 100000 in
theorem c_L_dye (l : Launch) (g : GT) (base : Nat) (ad : Nat → Nat → Nat) (S : St) (u n f : Int) (bl : Prop) (hfl : l.stackTraces = false) (hwc : wC S) (hrn : rng u) (hrn2 : rng n) (hrn3 : rng f) : vx_Met l yL_dye [Cond.codeWith yL_dye cL_dye 6 (some FieldType.int) [(0, 9, 10, 29), (0, 9, 15, 16), (0, 9, 20, 19)]] ({ frames := 8, cells := 2, slots := 12, locals := 134 }) (va_Pc [.ref (ad 1 0), .int (i32 (u)), .int (i32 (n)), .int (i32 (f)), .int (i32 (b2 (bl)))] (PK g base ad S)) (gQ g base (lhQ ad (0 ≤ u ∧ u < 6) ((1 ≤ n ∧ n ≤ 999) ∧ (0 ≤ f ∧ f ≤ 9)) (S 2 0 0 < 20) (-1000001) (-1000002) (-1000003) (S 2 0 0) S (st (st (st (st (st (st S 2 2 (S 2 0 0) u) 2 3 (S 2 0 0) n) 2 4 (S 2 0 0) n) 2 5 (S 2 0 0) f) 2 6 (S 2 0 0) (b2 bl)) 2 0 0 (S 2 0 0 + 1)))) (xQ g base ad S (fun _ => False)) 2 12 (fun q => base ≤ q) := by
  refine mk_mh (own := RL) (lv0 := [(0, .ref (ad 1 0)), (1, .int (i32 (u))), (2, .int (i32 (n))), (3, .int (i32 (f))), (4, .int (i32 (b2 (bl))))]) (by decide) rfl (Nat.le_of_ble_eq_true rfl) rfl ?_
  intro p e s m below meth cz av Qm hx hb hr hml hown hlocks ht hK hZ hP hQm ls hl
  have hS : va_S (fun q => base ≤ q) s.heap s.heap [] := va_S.rf
  refine lv_aload_n hx hb dL_dye_0 rfl (lv_at hl 0 rfl) ?_
  refine lv_iload_n hx hb dL_dye_1 rfl (lv_at hl 1 rfl) ?_
  refine lv_iload_n hx hb dL_dye_2 rfl (lv_at hl 2 rfl) ?_
  refine lv_iload_n hx hb dL_dye_3 rfl (lv_at hl 3 rfl) ?_
  refine lv_iload hx hb dL_dye_4 (lv_at hl 4 rfl) ?_
  refine q_callVx (k := 1) (rest := []) hx hb hml hl.1 hown hK hZ hP hS hwc.h1 rfl rfl rfl (c_X3_dye l g base ad S u n f bl hfl hwc hrn hrn2 hrn3) t_132 t_133 (q_callB hK 131 15 134 t_131 t_15 t_134 f_yX3_dye ⟨by decide, by decide⟩) rfl rfl (Nat.le_of_ble_eq_true rfl) dL_dye_6 ⟨by decide, by decide⟩ (fun E ce q9 H locs hE hq9 hv9 hc9 hP hS => ?_) (fun rr ad9 S9 H locs hQ hP hS => ?_)
  · rcases hE with ⟨rfl, h1⟩ | ⟨rfl, h1, h2⟩ | ⟨rfl, h1, h2, h3⟩
    · refine vx_catch (own := RL) (name := eB) hown [] ⟨0, 9, 10, 29⟩ [⟨0, 9, 15, 16⟩, ⟨0, 9, 20, 19⟩] ht (fun z hz => nomatch hz) (by decide) (by decide) (hK.b 128 t_128 rfl) (hK.b 140 t_140 rfl) hq9 hv9 hc9 ?_
      refine lv_astore (lv' := [(5, .ref q9), (0, .ref (ad 1 0)), (1, .int (i32 (u))), (2, .int (i32 (n))), (3, .int (i32 (f))), (4, .int (i32 (b2 (bl))))]) hx hb dL_dye_10 hl (by decide) rfl (fun ls hl => ?_)
      refine q_ldc (z := -1000001) hx hb hown hK t_248 rfl dL_dye_12 ?_
      subst hQm
      refine vx_ret ?_
      exact q_iret hx hb hr hlocks hP hS ⟨⟨by rw [lv_1 h1], rfl⟩, Or.inl ⟨fun y => h1 y.1, rfl⟩⟩ (by decide) (Nat.le_of_ble_eq_true rfl) dL_dye_14
    · refine vx_catch (own := RL) (name := eA) hown [⟨0, 9, 10, 29⟩] ⟨0, 9, 15, 16⟩ [⟨0, 9, 20, 19⟩] ht (fun z hz => by rw [List.mem_singleton.mp hz]; exact Or.inr ⟨by decide, eB, hK.b 128 t_128 rfl, hK.2.2.2.2.2.2 (eA, eB) (by decide)⟩) (by decide) (by decide) (hK.b 129 t_129 rfl) (hK.b 208 t_208 rfl) hq9 hv9 hc9 ?_
      refine lv_astore (lv' := [(5, .ref q9), (0, .ref (ad 1 0)), (1, .int (i32 (u))), (2, .int (i32 (n))), (3, .int (i32 (f))), (4, .int (i32 (b2 (bl))))]) hx hb dL_dye_15 hl (by decide) rfl (fun ls hl => ?_)
      refine q_ldc (z := -1000002) hx hb hown hK t_249 rfl dL_dye_17 ?_
      subst hQm
      refine vx_ret ?_
      exact q_iret hx hb hr hlocks hP hS ⟨⟨by rw [lv_2 h1 h2], rfl⟩, Or.inl ⟨fun y => h2 y.2.1, rfl⟩⟩ (by decide) (Nat.le_of_ble_eq_true rfl) dL_dye_19
    · refine vx_catch (own := RL) (name := eS) hown [⟨0, 9, 10, 29⟩, ⟨0, 9, 15, 16⟩] ⟨0, 9, 20, 19⟩ [] ht (fun z hz => by rcases List.mem_cons.mp hz with h9 | h9; (rw [h9]; exact Or.inr ⟨by decide, eB, hK.b 128 t_128 rfl, hK.2.2.2.2.2.2 (eS, eB) (by decide)⟩); rw [List.mem_singleton.mp h9]; exact Or.inr ⟨by decide, eA, hK.b 129 t_129 rfl, hK.2.2.2.2.2.2 (eS, eA) (by decide)⟩) (by decide) (by decide) (hK.b 130 t_130 rfl) (hK.b 229 t_229 rfl) hq9 hv9 hc9 ?_
      refine lv_astore (lv' := [(5, .ref q9), (0, .ref (ad 1 0)), (1, .int (i32 (u))), (2, .int (i32 (n))), (3, .int (i32 (f))), (4, .int (i32 (b2 (bl))))]) hx hb dL_dye_20 hl (by decide) rfl (fun ls hl => ?_)
      refine q_ldc (z := -1000003) hx hb hown hK t_250 rfl dL_dye_22 ?_
      subst hQm
      refine vx_ret ?_
      exact q_iret hx hb hr hlocks hP hS ⟨⟨by rw [lv_3 h1 h2 h3], rfl⟩, Or.inl ⟨fun y => h3 y.2.2, rfl⟩⟩ (by decide) (Nat.le_of_ble_eq_true rfl) dL_dye_24
  · obtain ⟨hc, h1, h2, h3⟩ := hQ
    subst h1
    rw [h2] at hP
    rw [h3] at hP
    subst hQm
    refine vx_ret ?_
    exact q_iret hx hb hr hlocks hP hS ⟨⟨by rw [lv_0 hc.1 hc.2.1 hc.2.2], rfl⟩, Or.inr ⟨hc, rfl⟩⟩ (by decide) (Nat.le_of_ble_eq_true rfl) dL_dye_9

set_option maxHeartbeats 4000000 in
set_option maxRecDepth 100000 in
theorem c_L_left (l : Launch) (g : GT) (base : Nat) (ad : Nat → Nat → Nat) (S : St) (x : Int) (hfl : l.stackTraces = false) (hwc : wC S) (hrn : rng x) : vx_Met l yL_left [Cond.codeWith yL_left cL_left 3 (some FieldType.int) [(0, 5, 6, 29)]] ({ frames := 7, cells := 1, slots := 6, locals := 111 }) (va_Pc [.ref (ad 1 0), .int (i32 (x))] (PK g base ad S)) (gQ g base (an (some (.int (i32 (lv3 (0 ≤ x ∧ x < S 2 0 0) (True) (True) (-1000001) 0 0 (S 2 4 x))))) ad S)) (xQ g base ad S (fun _ => False)) 1 6 (fun q => base ≤ q) := by
  refine mk_mh (own := RL) (lv0 := [(0, .ref (ad 1 0)), (1, .int (i32 (x)))]) (by decide) rfl (Nat.le_of_ble_eq_true rfl) rfl ?_
  intro p e s m below meth cz av Qm hx hb hr hml hown hlocks ht hK hZ hP hQm ls hl
  have hS : va_S (fun q => base ≤ q) s.heap s.heap [] := va_S.rf
  refine lv_aload_n hx hb dL_left_0 rfl (lv_at hl 0 rfl) ?_
  refine lv_iload_n hx hb dL_left_1 rfl (lv_at hl 1 rfl) ?_
  refine q_callVx (k := 1) (rest := []) hx hb hml hl.1 hown hK hZ hP hS hwc.h1 rfl rfl rfl (c_X3_left l g base ad S x hfl hwc hrn) t_255 t_256 (q_callB hK 254 15 257 t_254 t_15 t_257 f_yX3_left ⟨by decide, by decide⟩) rfl rfl (Nat.le_of_ble_eq_true rfl) dL_left_2 ⟨by decide, by decide⟩ (fun E ce q9 H locs hE hq9 hv9 hc9 hP hS => ?_) (fun rr ad9 S9 H locs hQ hP hS => ?_)
  · rcases hE with ⟨rfl, h1⟩ | ⟨rfl, h1, h2⟩ | ⟨rfl, h1, h2, h3⟩
    · refine vx_catch (own := RL) (name := eB) hown [] ⟨0, 5, 6, 29⟩ [] ht (fun z hz => nomatch hz) (by decide) (by decide) (hK.b 128 t_128 rfl) (hK.b 140 t_140 rfl) hq9 hv9 hc9 ?_
      refine lv_astore_n (lv' := [(2, .ref q9), (0, .ref (ad 1 0)), (1, .int (i32 (x)))]) hx hb dL_left_6 rfl hl (by decide) rfl (fun ls hl => ?_)
      refine q_ldc (z := -1000001) hx hb hown hK t_248 rfl dL_left_7 ?_
      subst hQm
      refine vx_ret ?_
      exact q_iret hx hb hr hlocks hP hS ⟨by rw [lv_1 h1], rfl, rfl⟩ (by decide) (Nat.le_of_ble_eq_true rfl) dL_left_9
    · exact (h2 trivial).elim
    · exact (h3 trivial).elim
  · obtain ⟨hc, h1, h2, h3⟩ := hQ
    subst h1
    rw [h2] at hP
    rw [h3] at hP
    subst hQm
    refine vx_ret ?_
    exact q_iret hx hb hr hlocks hP hS ⟨by rw [lv_0 hc.1 hc.2.1 hc.2.2], rfl, rfl⟩ (by decide) (Nat.le_of_ble_eq_true rfl) dL_left_5

set_option maxHeartbeats 4000000 in
set_option maxRecDepth 100000 in
theorem c_L_loom (l : Launch) (g : GT) (base : Nat) (ad : Nat → Nat → Nat) (S : St) (x n : Int) (mir : Prop) (hfl : l.stackTraces = false) (hwc : wC S) (hrn : rng x) (hrn2 : rng n) (hcf : ∀ j : Nat, S 1 3 j = 1 → (j : Int) < S 1 0 3) (hpf : ∀ j : Nat, S 1 6 j = 1 → (j : Int) < S 1 0 6) : vx_Met l yL_loom [Cond.codeWith yL_loom cL_loom 5 (some FieldType.int) [(0, 7, 8, 29), (0, 7, 13, 16), (0, 7, 18, 19)]] ({ frames := 8, cells := 9, slots := 793, locals := 137 }) (va_Pc [.ref (ad 1 0), .int (i32 (x)), .int (i32 (n)), .int (i32 (b2 (mir)))] (PK g base ad S)) (gQ g base (lhN ad (ceC S x) (1 ≤ n ∧ n ≤ 4 ∧ n ≤ S (4 + x.toNat) 0 0) (1 ≤ S (4 + x.toNat) 0 1 ∧ S 1 0 6 < 20) (-1000001) (-1000002) (-1000003) (S 1 0 6) S (lmS S x n mir))) (xQ g base ad S (fun _ => False)) 9 793 (fun q => base ≤ q) := by
  refine mk_mh (own := RL) (lv0 := [(0, .ref (ad 1 0)), (1, .int (i32 (x))), (2, .int (i32 (n))), (3, .int (i32 (b2 (mir))))]) (by decide) rfl (Nat.le_of_ble_eq_true rfl) rfl ?_
  intro p e s m below meth cz av Qm hx hb hr hml hown hlocks ht hK hZ hP hQm ls hl
  have hS : va_S (fun q => base ≤ q) s.heap s.heap [] := va_S.rf
  refine lv_aload_n hx hb dL_loom_0 rfl (lv_at hl 0 rfl) ?_
  refine lv_iload_n hx hb dL_loom_1 rfl (lv_at hl 1 rfl) ?_
  refine lv_iload_n hx hb dL_loom_2 rfl (lv_at hl 2 rfl) ?_
  refine lv_iload_n hx hb dL_loom_3 rfl (lv_at hl 3 rfl) ?_
  refine q_callVx (k := 1) (rest := []) hx hb hml hl.1 hown hK hZ hP hS hwc.h1 rfl rfl rfl (c_X3_loom l g base ad S x n mir hfl hwc hrn hrn2 hcf hpf) t_446 t_447 (q_callB hK 445 15 448 t_445 t_15 t_448 f_yX3_loom ⟨by decide, by decide⟩) rfl rfl (Nat.le_of_ble_eq_true rfl) dL_loom_4 ⟨by decide, by decide⟩ (fun E ce q9 H locs hE hq9 hv9 hc9 hP hS => ?_) (fun rr ad9 S9 H locs hQ hP hS => ?_)
  · rcases hE with ⟨rfl, h1⟩ | ⟨rfl, h1, h2⟩ | ⟨rfl, h1, h2, h3⟩
    · refine vx_catch (own := RL) (name := eB) hown [] ⟨0, 7, 8, 29⟩ [⟨0, 7, 13, 16⟩, ⟨0, 7, 18, 19⟩] ht (fun z hz => nomatch hz) (by decide) (by decide) (hK.b 128 t_128 rfl) (hK.b 140 t_140 rfl) hq9 hv9 hc9 ?_
      refine lv_astore (lv' := [(4, .ref q9), (0, .ref (ad 1 0)), (1, .int (i32 (x))), (2, .int (i32 (n))), (3, .int (i32 (b2 (mir))))]) hx hb dL_loom_8 hl (by decide) rfl (fun ls hl => ?_)
      refine q_ldc (z := -1000001) hx hb hown hK t_248 rfl dL_loom_10 ?_
      subst hQm
      refine vx_ret ?_
      exact q_iret hx hb hr hlocks hP hS ⟨⟨by rw [lv_1 h1], fun _ _ _ => rfl⟩, Or.inl ⟨fun y => h1 y.1, rfl⟩⟩ (by decide) (Nat.le_of_ble_eq_true rfl) dL_loom_12
    · refine vx_catch (own := RL) (name := eA) hown [⟨0, 7, 8, 29⟩] ⟨0, 7, 13, 16⟩ [⟨0, 7, 18, 19⟩] ht (fun z hz => by rw [List.mem_singleton.mp hz]; exact Or.inr ⟨by decide, eB, hK.b 128 t_128 rfl, hK.2.2.2.2.2.2 (eA, eB) (by decide)⟩) (by decide) (by decide) (hK.b 129 t_129 rfl) (hK.b 208 t_208 rfl) hq9 hv9 hc9 ?_
      refine lv_astore (lv' := [(4, .ref q9), (0, .ref (ad 1 0)), (1, .int (i32 (x))), (2, .int (i32 (n))), (3, .int (i32 (b2 (mir))))]) hx hb dL_loom_13 hl (by decide) rfl (fun ls hl => ?_)
      refine q_ldc (z := -1000002) hx hb hown hK t_249 rfl dL_loom_15 ?_
      subst hQm
      refine vx_ret ?_
      exact q_iret hx hb hr hlocks hP hS ⟨⟨by rw [lv_2 h1 h2], fun _ _ _ => rfl⟩, Or.inl ⟨fun y => h2 y.2.1, rfl⟩⟩ (by decide) (Nat.le_of_ble_eq_true rfl) dL_loom_17
    · refine vx_catch (own := RL) (name := eS) hown [⟨0, 7, 8, 29⟩, ⟨0, 7, 13, 16⟩] ⟨0, 7, 18, 19⟩ [] ht (fun z hz => by rcases List.mem_cons.mp hz with h9 | h9; (rw [h9]; exact Or.inr ⟨by decide, eB, hK.b 128 t_128 rfl, hK.2.2.2.2.2.2 (eS, eB) (by decide)⟩); rw [List.mem_singleton.mp h9]; exact Or.inr ⟨by decide, eA, hK.b 129 t_129 rfl, hK.2.2.2.2.2.2 (eS, eA) (by decide)⟩) (by decide) (by decide) (hK.b 130 t_130 rfl) (hK.b 229 t_229 rfl) hq9 hv9 hc9 ?_
      refine lv_astore (lv' := [(4, .ref q9), (0, .ref (ad 1 0)), (1, .int (i32 (x))), (2, .int (i32 (n))), (3, .int (i32 (b2 (mir))))]) hx hb dL_loom_18 hl (by decide) rfl (fun ls hl => ?_)
      refine q_ldc (z := -1000003) hx hb hown hK t_250 rfl dL_loom_20 ?_
      subst hQm
      refine vx_ret ?_
      exact q_iret hx hb hr hlocks hP hS ⟨⟨by rw [lv_3 h1 h2 h3], fun _ _ _ => rfl⟩, Or.inl ⟨fun y => h3 y.2.2, rfl⟩⟩ (by decide) (Nat.le_of_ble_eq_true rfl) dL_loom_22
  · obtain ⟨hc, A9, h1, h2, h3⟩ := hQ
    subst h1
    have ek : ∀ x q, x < 4 → ad9 x q = ad x q := fun x q h => by rw [h2]; exact adN_n (by omega)
    rw [h3] at hP
    subst hQm
    refine vx_ret ?_
    exact q_iret hx hb hr hlocks hP hS ⟨⟨by rw [lv_0 hc.1 hc.2.1 hc.2.2], ek⟩, Or.inr ⟨hc, rfl⟩⟩ (by decide) (Nat.le_of_ble_eq_true rfl) dL_loom_7

set_option maxHeartbeats 4000000 in
set_option maxRecDepth 100000 in
theorem c_L_weave (l : Launch) (g : GT) (base : Nat) (ad : Nat → Nat → Nat) (S : St) (x w : Int) (hfl : l.stackTraces = false) (hwc : wC S) (hrn : rng x) (hrn2 : rng w) : vx_Met l yL_weave [Cond.codeWith yL_weave cL_weave 4 (some FieldType.int) [(0, 6, 7, 29), (0, 6, 11, 19)]] ({ frames := 8, cells := 2, slots := 12, locals := 135 }) (va_Pc [.ref (ad 1 0), .int (i32 (x)), .int (i32 (w))] (PK g base ad S)) (gQ g base (lhQ ad (peC S x ∧ (0 ≤ w ∧ w < S (10 + x.toNat) 0 2)) (maC S (10 + x.toNat) w ∧ tsC S (10 + x.toNat) w) (True) (-1000001) (-1000003) 0 (S (10 + x.toNat) 4 w) S (wvS S (10 + x.toNat) w))) (xQ g base ad S (fun _ => False)) 2 12 (fun q => base ≤ q) := by
  refine mk_mh (own := RL) (lv0 := [(0, .ref (ad 1 0)), (1, .int (i32 (x))), (2, .int (i32 (w)))]) (by decide) rfl (Nat.le_of_ble_eq_true rfl) rfl ?_
  intro p e s m below meth cz av Qm hx hb hr hml hown hlocks ht hK hZ hP hQm ls hl
  have hS : va_S (fun q => base ≤ q) s.heap s.heap [] := va_S.rf
  refine lv_aload_n hx hb dL_weave_0 rfl (lv_at hl 0 rfl) ?_
  refine lv_iload_n hx hb dL_weave_1 rfl (lv_at hl 1 rfl) ?_
  refine lv_iload_n hx hb dL_weave_2 rfl (lv_at hl 2 rfl) ?_
  refine q_callVx (k := 1) (rest := []) hx hb hml hl.1 hown hK hZ hP hS hwc.h1 rfl rfl rfl (c_X3_weave l g base ad S x w hfl hwc hrn hrn2) t_538 t_539 (q_callB hK 537 15 540 t_537 t_15 t_540 f_yX3_weave ⟨by decide, by decide⟩) rfl rfl (Nat.le_of_ble_eq_true rfl) dL_weave_3 ⟨by decide, by decide⟩ (fun E ce q9 H locs hE hq9 hv9 hc9 hP hS => ?_) (fun rr ad9 S9 H locs hQ hP hS => ?_)
  · rcases hE with ⟨rfl, h1⟩ | ⟨rfl, h1, h2⟩ | ⟨rfl, h1, h2, h3⟩
    · refine vx_catch (own := RL) (name := eB) hown [] ⟨0, 6, 7, 29⟩ [⟨0, 6, 11, 19⟩] ht (fun z hz => nomatch hz) (by decide) (by decide) (hK.b 128 t_128 rfl) (hK.b 140 t_140 rfl) hq9 hv9 hc9 ?_
      refine lv_astore_n (lv' := [(3, .ref q9), (0, .ref (ad 1 0)), (1, .int (i32 (x))), (2, .int (i32 (w)))]) hx hb dL_weave_7 rfl hl (by decide) rfl (fun ls hl => ?_)
      refine q_ldc (z := -1000001) hx hb hown hK t_248 rfl dL_weave_8 ?_
      subst hQm
      refine vx_ret ?_
      exact q_iret hx hb hr hlocks hP hS ⟨⟨by rw [lv_1 h1], rfl⟩, Or.inl ⟨fun y => h1 y.1, rfl⟩⟩ (by decide) (Nat.le_of_ble_eq_true rfl) dL_weave_10
    · refine vx_catch (own := RL) (name := eS) hown [⟨0, 6, 7, 29⟩] ⟨0, 6, 11, 19⟩ [] ht (fun z hz => by rw [List.mem_singleton.mp hz]; exact Or.inr ⟨by decide, eB, hK.b 128 t_128 rfl, hK.2.2.2.2.2.2 (eS, eB) (by decide)⟩) (by decide) (by decide) (hK.b 130 t_130 rfl) (hK.b 229 t_229 rfl) hq9 hv9 hc9 ?_
      refine lv_astore_n (lv' := [(3, .ref q9), (0, .ref (ad 1 0)), (1, .int (i32 (x))), (2, .int (i32 (w)))]) hx hb dL_weave_11 rfl hl (by decide) rfl (fun ls hl => ?_)
      refine q_ldc (z := -1000003) hx hb hown hK t_250 rfl dL_weave_12 ?_
      subst hQm
      refine vx_ret ?_
      exact q_iret hx hb hr hlocks hP hS ⟨⟨by rw [lv_2 h1 h2], rfl⟩, Or.inl ⟨fun y => h2 y.2.1, rfl⟩⟩ (by decide) (Nat.le_of_ble_eq_true rfl) dL_weave_14
    · exact (h3 trivial).elim
  · obtain ⟨hc, h1, h2, h3⟩ := hQ
    subst h1
    rw [h2] at hP
    rw [h3] at hP
    subst hQm
    refine vx_ret ?_
    exact q_iret hx hb hr hlocks hP hS ⟨⟨by rw [lv_0 hc.1 hc.2.1 hc.2.2], rfl⟩, Or.inr ⟨hc, rfl⟩⟩ (by decide) (Nat.le_of_ble_eq_true rfl) dL_weave_6

set_option maxHeartbeats 4000000 in
set_option maxRecDepth 100000 in
theorem c_L_pieceIs (l : Launch) (g : GT) (base : Nat) (ad : Nat → Nat → Nat) (S : St) (x w : Int) (hfl : l.stackTraces = false) (hwc : wC S) (hrn : rng x) (hrn2 : rng w) : vx_Met l yL_pieceIs [Cond.codeWith yL_pieceIs cL_pieceIs 4 (some FieldType.int) [(0, 6, 7, 29), (0, 6, 11, 16)]] ({ frames := 8, cells := 2, slots := 12, locals := 135 }) (va_Pc [.ref (ad 1 0), .int (i32 (x)), .int (i32 (w))] (PK g base ad S)) (gQ g base (an (some (.int (i32 (lv3 (peC S x) (0 ≤ w ∧ w < 6) (True) (-1000001) (-1000002) 0 (pcC S (10 + x.toNat) w))))) ad S)) (xQ g base ad S (fun _ => False)) 2 12 (fun q => base ≤ q) := by
  refine mk_mh (own := RL) (lv0 := [(0, .ref (ad 1 0)), (1, .int (i32 (x))), (2, .int (i32 (w)))]) (by decide) rfl (Nat.le_of_ble_eq_true rfl) rfl ?_
  intro p e s m below meth cz av Qm hx hb hr hml hown hlocks ht hK hZ hP hQm ls hl
  have hS : va_S (fun q => base ≤ q) s.heap s.heap [] := va_S.rf
  refine lv_aload_n hx hb dL_pieceIs_0 rfl (lv_at hl 0 rfl) ?_
  refine lv_iload_n hx hb dL_pieceIs_1 rfl (lv_at hl 1 rfl) ?_
  refine lv_iload_n hx hb dL_pieceIs_2 rfl (lv_at hl 2 rfl) ?_
  refine q_callVx (k := 1) (rest := []) hx hb hml hl.1 hown hK hZ hP hS hwc.h1 rfl rfl rfl (c_X3_pieceIs l g base ad S x w hfl hwc hrn hrn2) t_270 t_271 (q_callB hK 269 15 272 t_269 t_15 t_272 f_yX3_pieceIs ⟨by decide, by decide⟩) rfl rfl (Nat.le_of_ble_eq_true rfl) dL_pieceIs_3 ⟨by decide, by decide⟩ (fun E ce q9 H locs hE hq9 hv9 hc9 hP hS => ?_) (fun rr ad9 S9 H locs hQ hP hS => ?_)
  · rcases hE with ⟨rfl, h1⟩ | ⟨rfl, h1, h2⟩ | ⟨rfl, h1, h2, h3⟩
    · refine vx_catch (own := RL) (name := eB) hown [] ⟨0, 6, 7, 29⟩ [⟨0, 6, 11, 16⟩] ht (fun z hz => nomatch hz) (by decide) (by decide) (hK.b 128 t_128 rfl) (hK.b 140 t_140 rfl) hq9 hv9 hc9 ?_
      refine lv_astore_n (lv' := [(3, .ref q9), (0, .ref (ad 1 0)), (1, .int (i32 (x))), (2, .int (i32 (w)))]) hx hb dL_pieceIs_7 rfl hl (by decide) rfl (fun ls hl => ?_)
      refine q_ldc (z := -1000001) hx hb hown hK t_248 rfl dL_pieceIs_8 ?_
      subst hQm
      refine vx_ret ?_
      exact q_iret hx hb hr hlocks hP hS ⟨by rw [lv_1 h1], rfl, rfl⟩ (by decide) (Nat.le_of_ble_eq_true rfl) dL_pieceIs_10
    · refine vx_catch (own := RL) (name := eA) hown [⟨0, 6, 7, 29⟩] ⟨0, 6, 11, 16⟩ [] ht (fun z hz => by rw [List.mem_singleton.mp hz]; exact Or.inr ⟨by decide, eB, hK.b 128 t_128 rfl, hK.2.2.2.2.2.2 (eA, eB) (by decide)⟩) (by decide) (by decide) (hK.b 129 t_129 rfl) (hK.b 208 t_208 rfl) hq9 hv9 hc9 ?_
      refine lv_astore_n (lv' := [(3, .ref q9), (0, .ref (ad 1 0)), (1, .int (i32 (x))), (2, .int (i32 (w)))]) hx hb dL_pieceIs_11 rfl hl (by decide) rfl (fun ls hl => ?_)
      refine q_ldc (z := -1000002) hx hb hown hK t_249 rfl dL_pieceIs_12 ?_
      subst hQm
      refine vx_ret ?_
      exact q_iret hx hb hr hlocks hP hS ⟨by rw [lv_2 h1 h2], rfl, rfl⟩ (by decide) (Nat.le_of_ble_eq_true rfl) dL_pieceIs_14
    · exact (h3 trivial).elim
  · obtain ⟨hc, h1, h2, h3⟩ := hQ
    subst h1
    rw [h2] at hP
    rw [h3] at hP
    subst hQm
    refine vx_ret ?_
    exact q_iret hx hb hr hlocks hP hS ⟨by rw [lv_0 hc.1 hc.2.1 hc.2.2], rfl, rfl⟩ (by decide) (Nat.le_of_ble_eq_true rfl) dL_pieceIs_6

set_option maxHeartbeats 4000000 in
set_option maxRecDepth 100000 in
theorem c_L_cell (l : Launch) (g : GT) (base : Nat) (ad : Nat → Nat → Nat) (S : St) (x r c w : Int) (hfl : l.stackTraces = false) (hwc : wC S) (hrn : rng x) (hrn2 : rng r) (hrn3 : rng c) (hrn4 : rng w) : vx_Met l yL_cell [Cond.codeWith yL_cell cL_cell 6 (some FieldType.int) [(0, 9, 10, 29), (0, 9, 15, 16)]] ({ frames := 8, cells := 2, slots := 12, locals := 137 }) (va_Pc [.ref (ad 1 0), .int (i32 (x)), .int (i32 (r)), .int (i32 (c)), .int (i32 (w))] (PK g base ad S)) (gQ g base (an (some (.int (i32 (lv3 (peC S x ∧ (0 ≤ r ∧ r < S (10 + x.toNat) 0 1 ∧ 0 ≤ c ∧ c < S (10 + x.toNat) 0 0)) (0 ≤ w ∧ w < 3) (True) (-1000001) (-1000002) 0 (ceF S (10 + x.toNat) r c w))))) ad S)) (xQ g base ad S (fun _ => False)) 2 12 (fun q => base ≤ q) := by
  refine mk_mh (own := RL) (lv0 := [(0, .ref (ad 1 0)), (1, .int (i32 (x))), (2, .int (i32 (r))), (3, .int (i32 (c))), (4, .int (i32 (w)))]) (by decide) rfl (Nat.le_of_ble_eq_true rfl) rfl ?_
  intro p e s m below meth cz av Qm hx hb hr hml hown hlocks ht hK hZ hP hQm ls hl
  have hS : va_S (fun q => base ≤ q) s.heap s.heap [] := va_S.rf
  refine lv_aload_n hx hb dL_cell_0 rfl (lv_at hl 0 rfl) ?_
  refine lv_iload_n hx hb dL_cell_1 rfl (lv_at hl 1 rfl) ?_
  refine lv_iload_n hx hb dL_cell_2 rfl (lv_at hl 2 rfl) ?_
  refine lv_iload_n hx hb dL_cell_3 rfl (lv_at hl 3 rfl) ?_
  refine lv_iload hx hb dL_cell_4 (lv_at hl 4 rfl) ?_
  refine q_callVx (k := 1) (rest := []) hx hb hml hl.1 hown hK hZ hP hS hwc.h1 rfl rfl rfl (c_X3_cell l g base ad S x r c w hfl hwc hrn hrn2 hrn3 hrn4) t_335 t_336 (q_callB hK 334 15 337 t_334 t_15 t_337 f_yX3_cell ⟨by decide, by decide⟩) rfl rfl (Nat.le_of_ble_eq_true rfl) dL_cell_6 ⟨by decide, by decide⟩ (fun E ce q9 H locs hE hq9 hv9 hc9 hP hS => ?_) (fun rr ad9 S9 H locs hQ hP hS => ?_)
  · rcases hE with ⟨rfl, h1⟩ | ⟨rfl, h1, h2⟩ | ⟨rfl, h1, h2, h3⟩
    · refine vx_catch (own := RL) (name := eB) hown [] ⟨0, 9, 10, 29⟩ [⟨0, 9, 15, 16⟩] ht (fun z hz => nomatch hz) (by decide) (by decide) (hK.b 128 t_128 rfl) (hK.b 140 t_140 rfl) hq9 hv9 hc9 ?_
      refine lv_astore (lv' := [(5, .ref q9), (0, .ref (ad 1 0)), (1, .int (i32 (x))), (2, .int (i32 (r))), (3, .int (i32 (c))), (4, .int (i32 (w)))]) hx hb dL_cell_10 hl (by decide) rfl (fun ls hl => ?_)
      refine q_ldc (z := -1000001) hx hb hown hK t_248 rfl dL_cell_12 ?_
      subst hQm
      refine vx_ret ?_
      exact q_iret hx hb hr hlocks hP hS ⟨by rw [lv_1 h1], rfl, rfl⟩ (by decide) (Nat.le_of_ble_eq_true rfl) dL_cell_14
    · refine vx_catch (own := RL) (name := eA) hown [⟨0, 9, 10, 29⟩] ⟨0, 9, 15, 16⟩ [] ht (fun z hz => by rw [List.mem_singleton.mp hz]; exact Or.inr ⟨by decide, eB, hK.b 128 t_128 rfl, hK.2.2.2.2.2.2 (eA, eB) (by decide)⟩) (by decide) (by decide) (hK.b 129 t_129 rfl) (hK.b 208 t_208 rfl) hq9 hv9 hc9 ?_
      refine lv_astore (lv' := [(5, .ref q9), (0, .ref (ad 1 0)), (1, .int (i32 (x))), (2, .int (i32 (r))), (3, .int (i32 (c))), (4, .int (i32 (w)))]) hx hb dL_cell_15 hl (by decide) rfl (fun ls hl => ?_)
      refine q_ldc (z := -1000002) hx hb hown hK t_249 rfl dL_cell_17 ?_
      subst hQm
      refine vx_ret ?_
      exact q_iret hx hb hr hlocks hP hS ⟨by rw [lv_2 h1 h2], rfl, rfl⟩ (by decide) (Nat.le_of_ble_eq_true rfl) dL_cell_19
    · exact (h3 trivial).elim
  · obtain ⟨hc, h1, h2, h3⟩ := hQ
    subst h1
    rw [h2] at hP
    rw [h3] at hP
    subst hQm
    refine vx_ret ?_
    exact q_iret hx hb hr hlocks hP hS ⟨by rw [lv_0 hc.1 hc.2.1 hc.2.2], rfl, rfl⟩ (by decide) (Nat.le_of_ble_eq_true rfl) dL_cell_9

set_option maxHeartbeats 4000000 in
set_option maxRecDepth 100000 in
theorem c_L_sew (l : Launch) (g : GT) (base : Nat) (ad : Nat → Nat → Nat) (S : St) (x q : Int) (hfl : l.stackTraces = false) (hwc : wC S) (hrn : rng x) (hrn2 : rng q) : vx_Met l yL_sew [Cond.codeWith yL_sew cL_sew 4 (some FieldType.int) [(0, 14, 15, 29), (0, 14, 19, 19)]] ({ frames := 8, cells := 3, slots := 18, locals := 136 }) (va_Pc [.ref (ad 1 0), .int (i32 (x)), .int (i32 (q))] (PK g base ad S)) (gQ g base (lhQ ad (peC S x ∧ (1 ≤ q ∧ q < S (10 + x.toNat) 0 0)) (dnC S (10 + x.toNat)) (True) (-1000001) (-1000003) 0 (b2 (slC S (10 + x.toNat) q)) S (st S (10 + x.toNat) 9 q 1))) (xQ g base ad S (fun _ => False)) 3 18 (fun q => base ≤ q) := by
  refine mk_mh (own := RL) (lv0 := [(0, .ref (ad 1 0)), (1, .int (i32 (x))), (2, .int (i32 (q)))]) (by decide) rfl (Nat.le_of_ble_eq_true rfl) rfl ?_
  intro p e s m below meth cz av Qm hx hb hr hml hown hlocks ht hK hZ hP hQm ls hl
  have hS : va_S (fun q => base ≤ q) s.heap s.heap [] := va_S.rf
  refine lv_aload_n hx hb dL_sew_0 rfl (lv_at hl 0 rfl) ?_
  refine lv_iload_n hx hb dL_sew_1 rfl (lv_at hl 1 rfl) ?_
  refine lv_iload_n hx hb dL_sew_2 rfl (lv_at hl 2 rfl) ?_
  refine q_callVx (k := 1) (rest := []) hx hb hml hl.1 hown hK hZ hP hS hwc.h1 rfl rfl rfl (c_X3_sew l g base ad S x q hfl hwc hrn hrn2) t_679 t_680 (q_callB hK 678 15 681 t_678 t_15 t_681 f_yX3_sew ⟨by decide, by decide⟩) rfl rfl (Nat.le_of_ble_eq_true rfl) dL_sew_3 ⟨by decide, by decide⟩ (fun E ce q9 H locs hE hq9 hv9 hc9 hP hS => ?_) (fun rr ad9 S9 H locs hQ hP hS => ?_)
  · rcases hE with ⟨rfl, h1⟩ | ⟨rfl, h1, h2⟩ | ⟨rfl, h1, h2, h3⟩
    · refine vx_catch (own := RL) (name := eB) hown [] ⟨0, 14, 15, 29⟩ [⟨0, 14, 19, 19⟩] ht (fun z hz => nomatch hz) (by decide) (by decide) (hK.b 128 t_128 rfl) (hK.b 140 t_140 rfl) hq9 hv9 hc9 ?_
      refine lv_astore_n (lv' := [(3, .ref q9), (0, .ref (ad 1 0)), (1, .int (i32 (x))), (2, .int (i32 (q)))]) hx hb dL_sew_15 rfl hl (by decide) rfl (fun ls hl => ?_)
      refine q_ldc (z := -1000001) hx hb hown hK t_248 rfl dL_sew_16 ?_
      subst hQm
      refine vx_ret ?_
      exact q_iret hx hb hr hlocks hP hS ⟨⟨by rw [lv_1 h1], rfl⟩, Or.inl ⟨fun y => h1 y.1, rfl⟩⟩ (by decide) (Nat.le_of_ble_eq_true rfl) dL_sew_18
    · refine vx_catch (own := RL) (name := eS) hown [⟨0, 14, 15, 29⟩] ⟨0, 14, 19, 19⟩ [] ht (fun z hz => by rw [List.mem_singleton.mp hz]; exact Or.inr ⟨by decide, eB, hK.b 128 t_128 rfl, hK.2.2.2.2.2.2 (eS, eB) (by decide)⟩) (by decide) (by decide) (hK.b 130 t_130 rfl) (hK.b 229 t_229 rfl) hq9 hv9 hc9 ?_
      refine lv_astore_n (lv' := [(3, .ref q9), (0, .ref (ad 1 0)), (1, .int (i32 (x))), (2, .int (i32 (q)))]) hx hb dL_sew_19 rfl hl (by decide) rfl (fun ls hl => ?_)
      refine q_ldc (z := -1000003) hx hb hown hK t_250 rfl dL_sew_20 ?_
      subst hQm
      refine vx_ret ?_
      exact q_iret hx hb hr hlocks hP hS ⟨⟨by rw [lv_2 h1 h2], rfl⟩, Or.inl ⟨fun y => h2 y.2.1, rfl⟩⟩ (by decide) (Nat.le_of_ble_eq_true rfl) dL_sew_22
    · exact (h3 trivial).elim
  · obtain ⟨hc, h1, h2, h3⟩ := hQ
    subst h1
    rw [h2] at hP
    rw [h3] at hP
    refine q_if_eqb (tgt := 13) hx hb dL_sew_6 (by decide) (fun h9 => ?_) (fun h9 => ?_)
    · refine lv_iconst (v := i32 0) hx hb dL_sew_13 rfl ?_
      subst hQm
      refine vx_ret ?_
      exact q_iret hx hb hr hlocks hP hS ⟨⟨by rw [lv_0 hc.1 hc.2.1 hc.2.2, b2_f h9], rfl⟩, Or.inr ⟨hc, rfl⟩⟩ (by decide) (Nat.le_of_ble_eq_true rfl) dL_sew_14
    · refine lv_iconst (v := i32 1) hx hb dL_sew_9 rfl ?_
      refine lv_goto (tgt := 14) hx hb dL_sew_10 (by decide) ?_
      subst hQm
      refine vx_ret ?_
      exact q_iret hx hb hr hlocks hP hS ⟨⟨by rw [lv_0 hc.1 hc.2.1 hc.2.2, b2_t h9], rfl⟩, Or.inr ⟨hc, rfl⟩⟩ (by decide) (Nat.le_of_ble_eq_true rfl) dL_sew_14

set_option maxHeartbeats 4000000 in
set_option maxRecDepth 100000 in
theorem c_L_light (l : Launch) (g : GT) (base : Nat) (ad : Nat → Nat → Nat) (S : St) (x t : Int) (hfl : l.stackTraces = false) (hwc : wC S) (hrn : rng x) (hrn2 : rng t) : vx_Met l yL_light [Cond.codeWith yL_light cL_light 4 (some FieldType.int) [(0, 6, 7, 29), (0, 6, 11, 16), (0, 6, 15, 19)]] ({ frames := 8, cells := 2, slots := 12, locals := 135 }) (va_Pc [.ref (ad 1 0), .int (i32 (x)), .int (i32 (t))] (PK g base ad S)) (gQ g base (lhQ ad (peC S x) (1 ≤ t ∧ t ≤ 9999) (dnC S (10 + x.toNat)) (-1000001) (-1000002) (-1000003) (shC (ltS S (10 + x.toNat) t) (10 + x.toNat)) S (ltS S (10 + x.toNat) t))) (xQ g base ad S (fun _ => False)) 2 12 (fun q => base ≤ q) := by
  refine mk_mh (own := RL) (lv0 := [(0, .ref (ad 1 0)), (1, .int (i32 (x))), (2, .int (i32 (t)))]) (by decide) rfl (Nat.le_of_ble_eq_true rfl) rfl ?_
  intro p e s m below meth cz av Qm hx hb hr hml hown hlocks ht hK hZ hP hQm ls hl
  have hS : va_S (fun q => base ≤ q) s.heap s.heap [] := va_S.rf
  refine lv_aload_n hx hb dL_light_0 rfl (lv_at hl 0 rfl) ?_
  refine lv_iload_n hx hb dL_light_1 rfl (lv_at hl 1 rfl) ?_
  refine lv_iload_n hx hb dL_light_2 rfl (lv_at hl 2 rfl) ?_
  refine q_callVx (k := 1) (rest := []) hx hb hml hl.1 hown hK hZ hP hS hwc.h1 rfl rfl rfl (c_X3_light l g base ad S x t hfl hwc hrn hrn2) t_694 t_695 (q_callB hK 693 15 696 t_693 t_15 t_696 f_yX3_light ⟨by decide, by decide⟩) rfl rfl (Nat.le_of_ble_eq_true rfl) dL_light_3 ⟨by decide, by decide⟩ (fun E ce q9 H locs hE hq9 hv9 hc9 hP hS => ?_) (fun rr ad9 S9 H locs hQ hP hS => ?_)
  · rcases hE with ⟨rfl, h1⟩ | ⟨rfl, h1, h2⟩ | ⟨rfl, h1, h2, h3⟩
    · refine vx_catch (own := RL) (name := eB) hown [] ⟨0, 6, 7, 29⟩ [⟨0, 6, 11, 16⟩, ⟨0, 6, 15, 19⟩] ht (fun z hz => nomatch hz) (by decide) (by decide) (hK.b 128 t_128 rfl) (hK.b 140 t_140 rfl) hq9 hv9 hc9 ?_
      refine lv_astore_n (lv' := [(3, .ref q9), (0, .ref (ad 1 0)), (1, .int (i32 (x))), (2, .int (i32 (t)))]) hx hb dL_light_7 rfl hl (by decide) rfl (fun ls hl => ?_)
      refine q_ldc (z := -1000001) hx hb hown hK t_248 rfl dL_light_8 ?_
      subst hQm
      refine vx_ret ?_
      exact q_iret hx hb hr hlocks hP hS ⟨⟨by rw [lv_1 h1], rfl⟩, Or.inl ⟨fun y => h1 y.1, rfl⟩⟩ (by decide) (Nat.le_of_ble_eq_true rfl) dL_light_10
    · refine vx_catch (own := RL) (name := eA) hown [⟨0, 6, 7, 29⟩] ⟨0, 6, 11, 16⟩ [⟨0, 6, 15, 19⟩] ht (fun z hz => by rw [List.mem_singleton.mp hz]; exact Or.inr ⟨by decide, eB, hK.b 128 t_128 rfl, hK.2.2.2.2.2.2 (eA, eB) (by decide)⟩) (by decide) (by decide) (hK.b 129 t_129 rfl) (hK.b 208 t_208 rfl) hq9 hv9 hc9 ?_
      refine lv_astore_n (lv' := [(3, .ref q9), (0, .ref (ad 1 0)), (1, .int (i32 (x))), (2, .int (i32 (t)))]) hx hb dL_light_11 rfl hl (by decide) rfl (fun ls hl => ?_)
      refine q_ldc (z := -1000002) hx hb hown hK t_249 rfl dL_light_12 ?_
      subst hQm
      refine vx_ret ?_
      exact q_iret hx hb hr hlocks hP hS ⟨⟨by rw [lv_2 h1 h2], rfl⟩, Or.inl ⟨fun y => h2 y.2.1, rfl⟩⟩ (by decide) (Nat.le_of_ble_eq_true rfl) dL_light_14
    · refine vx_catch (own := RL) (name := eS) hown [⟨0, 6, 7, 29⟩, ⟨0, 6, 11, 16⟩] ⟨0, 6, 15, 19⟩ [] ht (fun z hz => by rcases List.mem_cons.mp hz with h9 | h9; (rw [h9]; exact Or.inr ⟨by decide, eB, hK.b 128 t_128 rfl, hK.2.2.2.2.2.2 (eS, eB) (by decide)⟩); rw [List.mem_singleton.mp h9]; exact Or.inr ⟨by decide, eA, hK.b 129 t_129 rfl, hK.2.2.2.2.2.2 (eS, eA) (by decide)⟩) (by decide) (by decide) (hK.b 130 t_130 rfl) (hK.b 229 t_229 rfl) hq9 hv9 hc9 ?_
      refine lv_astore_n (lv' := [(3, .ref q9), (0, .ref (ad 1 0)), (1, .int (i32 (x))), (2, .int (i32 (t)))]) hx hb dL_light_15 rfl hl (by decide) rfl (fun ls hl => ?_)
      refine q_ldc (z := -1000003) hx hb hown hK t_250 rfl dL_light_16 ?_
      subst hQm
      refine vx_ret ?_
      exact q_iret hx hb hr hlocks hP hS ⟨⟨by rw [lv_3 h1 h2 h3], rfl⟩, Or.inl ⟨fun y => h3 y.2.2, rfl⟩⟩ (by decide) (Nat.le_of_ble_eq_true rfl) dL_light_18
  · obtain ⟨hc, h1, h2, h3⟩ := hQ
    subst h1
    rw [h2] at hP
    rw [h3] at hP
    subst hQm
    refine vx_ret ?_
    exact q_iret hx hb hr hlocks hP hS ⟨⟨by rw [lv_0 hc.1 hc.2.1 hc.2.2], rfl⟩, Or.inr ⟨hc, rfl⟩⟩ (by decide) (Nat.le_of_ble_eq_true rfl) dL_light_6

set_option maxHeartbeats 4000000 in
set_option maxRecDepth 100000 in
theorem c_L_wash (l : Launch) (g : GT) (base : Nat) (ad : Nat → Nat → Nat) (S : St) (x : Int) (hfl : l.stackTraces = false) (hwc : wC S) (hrn : rng x) : vx_Met l yL_wash [Cond.codeWith yL_wash cL_wash 3 (some FieldType.int) [(0, 5, 6, 29), (0, 5, 10, 19)]] ({ frames := 8, cells := 2, slots := 12, locals := 135 }) (va_Pc [.ref (ad 1 0), .int (i32 (x))] (PK g base ad S)) (gQ g base (lhQ ad (peC S x) (dnC S (10 + x.toNat)) (True) (-1000001) (-1000003) 0 (shC (waS S (10 + x.toNat)) (10 + x.toNat)) S (waS S (10 + x.toNat)))) (xQ g base ad S (fun _ => False)) 2 12 (fun q => base ≤ q) := by
  refine mk_mh (own := RL) (lv0 := [(0, .ref (ad 1 0)), (1, .int (i32 (x)))]) (by decide) rfl (Nat.le_of_ble_eq_true rfl) rfl ?_
  intro p e s m below meth cz av Qm hx hb hr hml hown hlocks ht hK hZ hP hQm ls hl
  have hS : va_S (fun q => base ≤ q) s.heap s.heap [] := va_S.rf
  refine lv_aload_n hx hb dL_wash_0 rfl (lv_at hl 0 rfl) ?_
  refine lv_iload_n hx hb dL_wash_1 rfl (lv_at hl 1 rfl) ?_
  refine q_callVx (k := 1) (rest := []) hx hb hml hl.1 hown hK hZ hP hS hwc.h1 rfl rfl rfl (c_X3_wash l g base ad S x hfl hwc hrn) t_634 t_635 (q_callB hK 633 15 636 t_633 t_15 t_636 f_yX3_wash ⟨by decide, by decide⟩) rfl rfl (Nat.le_of_ble_eq_true rfl) dL_wash_2 ⟨by decide, by decide⟩ (fun E ce q9 H locs hE hq9 hv9 hc9 hP hS => ?_) (fun rr ad9 S9 H locs hQ hP hS => ?_)
  · rcases hE with ⟨rfl, h1⟩ | ⟨rfl, h1, h2⟩ | ⟨rfl, h1, h2, h3⟩
    · refine vx_catch (own := RL) (name := eB) hown [] ⟨0, 5, 6, 29⟩ [⟨0, 5, 10, 19⟩] ht (fun z hz => nomatch hz) (by decide) (by decide) (hK.b 128 t_128 rfl) (hK.b 140 t_140 rfl) hq9 hv9 hc9 ?_
      refine lv_astore_n (lv' := [(2, .ref q9), (0, .ref (ad 1 0)), (1, .int (i32 (x)))]) hx hb dL_wash_6 rfl hl (by decide) rfl (fun ls hl => ?_)
      refine q_ldc (z := -1000001) hx hb hown hK t_248 rfl dL_wash_7 ?_
      subst hQm
      refine vx_ret ?_
      exact q_iret hx hb hr hlocks hP hS ⟨⟨by rw [lv_1 h1], rfl⟩, Or.inl ⟨fun y => h1 y.1, rfl⟩⟩ (by decide) (Nat.le_of_ble_eq_true rfl) dL_wash_9
    · refine vx_catch (own := RL) (name := eS) hown [⟨0, 5, 6, 29⟩] ⟨0, 5, 10, 19⟩ [] ht (fun z hz => by rw [List.mem_singleton.mp hz]; exact Or.inr ⟨by decide, eB, hK.b 128 t_128 rfl, hK.2.2.2.2.2.2 (eS, eB) (by decide)⟩) (by decide) (by decide) (hK.b 130 t_130 rfl) (hK.b 229 t_229 rfl) hq9 hv9 hc9 ?_
      refine lv_astore_n (lv' := [(2, .ref q9), (0, .ref (ad 1 0)), (1, .int (i32 (x)))]) hx hb dL_wash_10 rfl hl (by decide) rfl (fun ls hl => ?_)
      refine q_ldc (z := -1000003) hx hb hown hK t_250 rfl dL_wash_11 ?_
      subst hQm
      refine vx_ret ?_
      exact q_iret hx hb hr hlocks hP hS ⟨⟨by rw [lv_2 h1 h2], rfl⟩, Or.inl ⟨fun y => h2 y.2.1, rfl⟩⟩ (by decide) (Nat.le_of_ble_eq_true rfl) dL_wash_13
    · exact (h3 trivial).elim
  · obtain ⟨hc, h1, h2, h3⟩ := hQ
    subst h1
    rw [h2] at hP
    rw [h3] at hP
    subst hQm
    refine vx_ret ?_
    exact q_iret hx hb hr hlocks hP hS ⟨⟨by rw [lv_0 hc.1 hc.2.1 hc.2.2], rfl⟩, Or.inr ⟨hc, rfl⟩⟩ (by decide) (Nat.le_of_ble_eq_true rfl) dL_wash_5

set_option maxHeartbeats 4000000 in
set_option maxRecDepth 100000 in
theorem c_L_cut (l : Launch) (g : GT) (base : Nat) (ad : Nat → Nat → Nat) (S : St) (x q : Int) (hfl : l.stackTraces = false) (hwc : wC S) (hrn : rng x) (hrn2 : rng q) (hcf : ∀ j : Nat, S 1 3 j = 1 → (j : Int) < S 1 0 3) (hpf : ∀ j : Nat, S 1 6 j = 1 → (j : Int) < S 1 0 6) : vx_Met l yL_cut [Cond.codeWith yL_cut cL_cut 4 (some FieldType.int) [(0, 6, 7, 29), (0, 6, 11, 19)]] ({ frames := 8, cells := 11, slots := 805, locals := 136 }) (va_Pc [.ref (ad 1 0), .int (i32 (x)), .int (i32 (q))] (PK g base ad S)) (gQ g base (lhN ad (peC S x ∧ (1 ≤ q ∧ q < S (10 + x.toNat) 0 0)) (dnC S (10 + x.toNat) ∧ S 1 0 6 < 20) (True) (-1000001) (-1000003) 0 (S 1 0 6) S (cuS S x q))) (xQ g base ad S (fun _ => False)) 11 805 (fun q => base ≤ q) := by
  refine mk_mh (own := RL) (lv0 := [(0, .ref (ad 1 0)), (1, .int (i32 (x))), (2, .int (i32 (q)))]) (by decide) rfl (Nat.le_of_ble_eq_true rfl) rfl ?_
  intro p e s m below meth cz av Qm hx hb hr hml hown hlocks ht hK hZ hP hQm ls hl
  have hS : va_S (fun q => base ≤ q) s.heap s.heap [] := va_S.rf
  refine lv_aload_n hx hb dL_cut_0 rfl (lv_at hl 0 rfl) ?_
  refine lv_iload_n hx hb dL_cut_1 rfl (lv_at hl 1 rfl) ?_
  refine lv_iload_n hx hb dL_cut_2 rfl (lv_at hl 2 rfl) ?_
  refine q_callVx (k := 1) (rest := []) hx hb hml hl.1 hown hK hZ hP hS hwc.h1 rfl rfl rfl (c_X3_cut l g base ad S x q hfl hwc hrn hrn2 hcf hpf) t_661 t_662 (q_callB hK 660 15 663 t_660 t_15 t_663 f_yX3_cut ⟨by decide, by decide⟩) rfl rfl (Nat.le_of_ble_eq_true rfl) dL_cut_3 ⟨by decide, by decide⟩ (fun E ce q9 H locs hE hq9 hv9 hc9 hP hS => ?_) (fun rr ad9 S9 H locs hQ hP hS => ?_)
  · rcases hE with ⟨rfl, h1⟩ | ⟨rfl, h1, h2⟩ | ⟨rfl, h1, h2, h3⟩
    · refine vx_catch (own := RL) (name := eB) hown [] ⟨0, 6, 7, 29⟩ [⟨0, 6, 11, 19⟩] ht (fun z hz => nomatch hz) (by decide) (by decide) (hK.b 128 t_128 rfl) (hK.b 140 t_140 rfl) hq9 hv9 hc9 ?_
      refine lv_astore_n (lv' := [(3, .ref q9), (0, .ref (ad 1 0)), (1, .int (i32 (x))), (2, .int (i32 (q)))]) hx hb dL_cut_7 rfl hl (by decide) rfl (fun ls hl => ?_)
      refine q_ldc (z := -1000001) hx hb hown hK t_248 rfl dL_cut_8 ?_
      subst hQm
      refine vx_ret ?_
      exact q_iret hx hb hr hlocks hP hS ⟨⟨by rw [lv_1 h1], fun _ _ _ => rfl⟩, Or.inl ⟨fun y => h1 y.1, rfl⟩⟩ (by decide) (Nat.le_of_ble_eq_true rfl) dL_cut_10
    · refine vx_catch (own := RL) (name := eS) hown [⟨0, 6, 7, 29⟩] ⟨0, 6, 11, 19⟩ [] ht (fun z hz => by rw [List.mem_singleton.mp hz]; exact Or.inr ⟨by decide, eB, hK.b 128 t_128 rfl, hK.2.2.2.2.2.2 (eS, eB) (by decide)⟩) (by decide) (by decide) (hK.b 130 t_130 rfl) (hK.b 229 t_229 rfl) hq9 hv9 hc9 ?_
      refine lv_astore_n (lv' := [(3, .ref q9), (0, .ref (ad 1 0)), (1, .int (i32 (x))), (2, .int (i32 (q)))]) hx hb dL_cut_11 rfl hl (by decide) rfl (fun ls hl => ?_)
      refine q_ldc (z := -1000003) hx hb hown hK t_250 rfl dL_cut_12 ?_
      subst hQm
      refine vx_ret ?_
      exact q_iret hx hb hr hlocks hP hS ⟨⟨by rw [lv_2 h1 h2], fun _ _ _ => rfl⟩, Or.inl ⟨fun y => h2 y.2.1, rfl⟩⟩ (by decide) (Nat.le_of_ble_eq_true rfl) dL_cut_14
    · exact (h3 trivial).elim
  · obtain ⟨hc, A9, h1, h2, h3⟩ := hQ
    subst h1
    have ek : ∀ x q, x < 4 → ad9 x q = ad x q := fun x q h => by rw [h2]; exact adN_n (by omega)
    rw [h3] at hP
    subst hQm
    refine vx_ret ?_
    exact q_iret hx hb hr hlocks hP hS ⟨⟨by rw [lv_0 hc.1 hc.2.1 hc.2.2], ek⟩, Or.inr ⟨hc, rfl⟩⟩ (by decide) (Nat.le_of_ble_eq_true rfl) dL_cut_6

set_option maxHeartbeats 4000000 in
set_option maxRecDepth 100000 in
theorem c_L_match (l : Launch) (g : GT) (base : Nat) (ad : Nat → Nat → Nat) (S : St) (x z : Int) (hfl : l.stackTraces = false) (hwc : wC S) (hrn : rng x) (hrn2 : rng z) : vx_Met l yL_match [Cond.codeWith yL_match cL_match 4 (some FieldType.int) [(0, 6, 7, 29), (0, 6, 11, 16), (0, 6, 15, 19)]] ({ frames := 9, cells := 4, slots := 24, locals := 157 }) (va_Pc [.ref (ad 1 0), .int (i32 (x)), .int (i32 (z))] (PK g base ad S)) (gQ g base (an (some (.int (i32 (lv3 (peC S x ∧ peC S z) (x ≠ z) (dnC S (10 + x.toNat) ∧ dnC S (10 + z.toNat)) (-1000001) (-1000002) (-1000003) (mtC S (10 + x.toNat) (10 + z.toNat)))))) ad S)) (xQ g base ad S (fun _ => False)) 4 24 (fun q => base ≤ q) := by
  refine mk_mh (own := RL) (lv0 := [(0, .ref (ad 1 0)), (1, .int (i32 (x))), (2, .int (i32 (z)))]) (by decide) rfl (Nat.le_of_ble_eq_true rfl) rfl ?_
  intro p e s m below meth cz av Qm hx hb hr hml hown hlocks ht hK hZ hP hQm ls hl
  have hS : va_S (fun q => base ≤ q) s.heap s.heap [] := va_S.rf
  refine lv_aload_n hx hb dL_match_0 rfl (lv_at hl 0 rfl) ?_
  refine lv_iload_n hx hb dL_match_1 rfl (lv_at hl 1 rfl) ?_
  refine lv_iload_n hx hb dL_match_2 rfl (lv_at hl 2 rfl) ?_
  refine q_callVx (k := 1) (rest := []) hx hb hml hl.1 hown hK hZ hP hS hwc.h1 rfl rfl rfl (c_X3_match l g base ad S x z hfl hwc hrn hrn2) t_589 t_590 (q_callB hK 588 15 591 t_588 t_15 t_591 f_yX3_match ⟨by decide, by decide⟩) rfl rfl (Nat.le_of_ble_eq_true rfl) dL_match_3 ⟨by decide, by decide⟩ (fun E ce q9 H locs hE hq9 hv9 hc9 hP hS => ?_) (fun rr ad9 S9 H locs hQ hP hS => ?_)
  · rcases hE with ⟨rfl, h1⟩ | ⟨rfl, h1, h2⟩ | ⟨rfl, h1, h2, h3⟩
    · refine vx_catch (own := RL) (name := eB) hown [] ⟨0, 6, 7, 29⟩ [⟨0, 6, 11, 16⟩, ⟨0, 6, 15, 19⟩] ht (fun z hz => nomatch hz) (by decide) (by decide) (hK.b 128 t_128 rfl) (hK.b 140 t_140 rfl) hq9 hv9 hc9 ?_
      refine lv_astore_n (lv' := [(3, .ref q9), (0, .ref (ad 1 0)), (1, .int (i32 (x))), (2, .int (i32 (z)))]) hx hb dL_match_7 rfl hl (by decide) rfl (fun ls hl => ?_)
      refine q_ldc (z := -1000001) hx hb hown hK t_248 rfl dL_match_8 ?_
      subst hQm
      refine vx_ret ?_
      exact q_iret hx hb hr hlocks hP hS ⟨by rw [lv_1 h1], rfl, rfl⟩ (by decide) (Nat.le_of_ble_eq_true rfl) dL_match_10
    · refine vx_catch (own := RL) (name := eA) hown [⟨0, 6, 7, 29⟩] ⟨0, 6, 11, 16⟩ [⟨0, 6, 15, 19⟩] ht (fun z hz => by rw [List.mem_singleton.mp hz]; exact Or.inr ⟨by decide, eB, hK.b 128 t_128 rfl, hK.2.2.2.2.2.2 (eA, eB) (by decide)⟩) (by decide) (by decide) (hK.b 129 t_129 rfl) (hK.b 208 t_208 rfl) hq9 hv9 hc9 ?_
      refine lv_astore_n (lv' := [(3, .ref q9), (0, .ref (ad 1 0)), (1, .int (i32 (x))), (2, .int (i32 (z)))]) hx hb dL_match_11 rfl hl (by decide) rfl (fun ls hl => ?_)
      refine q_ldc (z := -1000002) hx hb hown hK t_249 rfl dL_match_12 ?_
      subst hQm
      refine vx_ret ?_
      exact q_iret hx hb hr hlocks hP hS ⟨by rw [lv_2 h1 h2], rfl, rfl⟩ (by decide) (Nat.le_of_ble_eq_true rfl) dL_match_14
    · refine vx_catch (own := RL) (name := eS) hown [⟨0, 6, 7, 29⟩, ⟨0, 6, 11, 16⟩] ⟨0, 6, 15, 19⟩ [] ht (fun z hz => by rcases List.mem_cons.mp hz with h9 | h9; (rw [h9]; exact Or.inr ⟨by decide, eB, hK.b 128 t_128 rfl, hK.2.2.2.2.2.2 (eS, eB) (by decide)⟩); rw [List.mem_singleton.mp h9]; exact Or.inr ⟨by decide, eA, hK.b 129 t_129 rfl, hK.2.2.2.2.2.2 (eS, eA) (by decide)⟩) (by decide) (by decide) (hK.b 130 t_130 rfl) (hK.b 229 t_229 rfl) hq9 hv9 hc9 ?_
      refine lv_astore_n (lv' := [(3, .ref q9), (0, .ref (ad 1 0)), (1, .int (i32 (x))), (2, .int (i32 (z)))]) hx hb dL_match_15 rfl hl (by decide) rfl (fun ls hl => ?_)
      refine q_ldc (z := -1000003) hx hb hown hK t_250 rfl dL_match_16 ?_
      subst hQm
      refine vx_ret ?_
      exact q_iret hx hb hr hlocks hP hS ⟨by rw [lv_3 h1 h2 h3], rfl, rfl⟩ (by decide) (Nat.le_of_ble_eq_true rfl) dL_match_18
  · obtain ⟨hc, h1, h2, h3⟩ := hQ
    subst h1
    rw [h2] at hP
    rw [h3] at hP
    subst hQm
    refine vx_ret ?_
    exact q_iret hx hb hr hlocks hP hS ⟨by rw [lv_0 hc.1 hc.2.1 hc.2.2], rfl, rfl⟩ (by decide) (Nat.le_of_ble_eq_true rfl) dL_match_6

set_option maxHeartbeats 4000000 in
set_option maxRecDepth 100000 in
theorem c_L_join (l : Launch) (g : GT) (base : Nat) (ad : Nat → Nat → Nat) (S : St) (x z : Int) (hfl : l.stackTraces = false) (hwc : wC S) (hrn : rng x) (hrn2 : rng z) : vx_Met l yL_join [Cond.codeWith yL_join cL_join 4 (some FieldType.int) [(0, 14, 15, 29), (0, 14, 19, 16), (0, 14, 23, 19)]] ({ frames := 9, cells := 5, slots := 30, locals := 158 }) (va_Pc [.ref (ad 1 0), .int (i32 (x)), .int (i32 (z))] (PK g base ad S)) (gQ g base (lhQ ad (peC S x ∧ peC S z) (x ≠ z) (dnC S (10 + x.toNat) ∧ dnC S (10 + z.toNat) ∧ S (10 + x.toNat) 0 1 = S (10 + z.toNat) 0 1 ∧ S (10 + x.toNat) 0 0 + S (10 + z.toNat) 0 0 ≤ 24) (-1000001) (-1000002) (-1000003) (b2 (jnS S (10 + x.toNat) (10 + z.toNat) z (10 + x.toNat) 8 (S (10 + x.toNat) 0 0 - 1) + 1 = jnS S (10 + x.toNat) (10 + z.toNat) z (10 + x.toNat) 8 (S (10 + x.toNat) 0 0))) S (jnS S (10 + x.toNat) (10 + z.toNat) z))) (xQ g base ad S (fun _ => False)) 5 30 (fun q => base ≤ q) := by
  refine mk_mh (own := RL) (lv0 := [(0, .ref (ad 1 0)), (1, .int (i32 (x))), (2, .int (i32 (z)))]) (by decide) rfl (Nat.le_of_ble_eq_true rfl) rfl ?_
  intro p e s m below meth cz av Qm hx hb hr hml hown hlocks ht hK hZ hP hQm ls hl
  have hS : va_S (fun q => base ≤ q) s.heap s.heap [] := va_S.rf
  refine lv_aload_n hx hb dL_join_0 rfl (lv_at hl 0 rfl) ?_
  refine lv_iload_n hx hb dL_join_1 rfl (lv_at hl 1 rfl) ?_
  refine lv_iload_n hx hb dL_join_2 rfl (lv_at hl 2 rfl) ?_
  refine q_callVx (k := 1) (rest := []) hx hb hml hl.1 hown hK hZ hP hS hwc.h1 rfl rfl rfl (c_X3_join l g base ad S x z hfl hwc hrn hrn2) t_608 t_609 (q_callB hK 607 15 610 t_607 t_15 t_610 f_yX3_join ⟨by decide, by decide⟩) rfl rfl (Nat.le_of_ble_eq_true rfl) dL_join_3 ⟨by decide, by decide⟩ (fun E ce q9 H locs hE hq9 hv9 hc9 hP hS => ?_) (fun rr ad9 S9 H locs hQ hP hS => ?_)
  · rcases hE with ⟨rfl, h1⟩ | ⟨rfl, h1, h2⟩ | ⟨rfl, h1, h2, h3⟩
    · refine vx_catch (own := RL) (name := eB) hown [] ⟨0, 14, 15, 29⟩ [⟨0, 14, 19, 16⟩, ⟨0, 14, 23, 19⟩] ht (fun z hz => nomatch hz) (by decide) (by decide) (hK.b 128 t_128 rfl) (hK.b 140 t_140 rfl) hq9 hv9 hc9 ?_
      refine lv_astore_n (lv' := [(3, .ref q9), (0, .ref (ad 1 0)), (1, .int (i32 (x))), (2, .int (i32 (z)))]) hx hb dL_join_15 rfl hl (by decide) rfl (fun ls hl => ?_)
      refine q_ldc (z := -1000001) hx hb hown hK t_248 rfl dL_join_16 ?_
      subst hQm
      refine vx_ret ?_
      exact q_iret hx hb hr hlocks hP hS ⟨⟨by rw [lv_1 h1], rfl⟩, Or.inl ⟨fun y => h1 y.1, rfl⟩⟩ (by decide) (Nat.le_of_ble_eq_true rfl) dL_join_18
    · refine vx_catch (own := RL) (name := eA) hown [⟨0, 14, 15, 29⟩] ⟨0, 14, 19, 16⟩ [⟨0, 14, 23, 19⟩] ht (fun z hz => by rw [List.mem_singleton.mp hz]; exact Or.inr ⟨by decide, eB, hK.b 128 t_128 rfl, hK.2.2.2.2.2.2 (eA, eB) (by decide)⟩) (by decide) (by decide) (hK.b 129 t_129 rfl) (hK.b 208 t_208 rfl) hq9 hv9 hc9 ?_
      refine lv_astore_n (lv' := [(3, .ref q9), (0, .ref (ad 1 0)), (1, .int (i32 (x))), (2, .int (i32 (z)))]) hx hb dL_join_19 rfl hl (by decide) rfl (fun ls hl => ?_)
      refine q_ldc (z := -1000002) hx hb hown hK t_249 rfl dL_join_20 ?_
      subst hQm
      refine vx_ret ?_
      exact q_iret hx hb hr hlocks hP hS ⟨⟨by rw [lv_2 h1 h2], rfl⟩, Or.inl ⟨fun y => h2 y.2.1, rfl⟩⟩ (by decide) (Nat.le_of_ble_eq_true rfl) dL_join_22
    · refine vx_catch (own := RL) (name := eS) hown [⟨0, 14, 15, 29⟩, ⟨0, 14, 19, 16⟩] ⟨0, 14, 23, 19⟩ [] ht (fun z hz => by rcases List.mem_cons.mp hz with h9 | h9; (rw [h9]; exact Or.inr ⟨by decide, eB, hK.b 128 t_128 rfl, hK.2.2.2.2.2.2 (eS, eB) (by decide)⟩); rw [List.mem_singleton.mp h9]; exact Or.inr ⟨by decide, eA, hK.b 129 t_129 rfl, hK.2.2.2.2.2.2 (eS, eA) (by decide)⟩) (by decide) (by decide) (hK.b 130 t_130 rfl) (hK.b 229 t_229 rfl) hq9 hv9 hc9 ?_
      refine lv_astore_n (lv' := [(3, .ref q9), (0, .ref (ad 1 0)), (1, .int (i32 (x))), (2, .int (i32 (z)))]) hx hb dL_join_23 rfl hl (by decide) rfl (fun ls hl => ?_)
      refine q_ldc (z := -1000003) hx hb hown hK t_250 rfl dL_join_24 ?_
      subst hQm
      refine vx_ret ?_
      exact q_iret hx hb hr hlocks hP hS ⟨⟨by rw [lv_3 h1 h2 h3], rfl⟩, Or.inl ⟨fun y => h3 y.2.2, rfl⟩⟩ (by decide) (Nat.le_of_ble_eq_true rfl) dL_join_26
  · obtain ⟨hc, h1, h2, h3⟩ := hQ
    subst h1
    rw [h2] at hP
    rw [h3] at hP
    refine q_if_eqb (tgt := 13) hx hb dL_join_6 (by decide) (fun h9 => ?_) (fun h9 => ?_)
    · refine lv_iconst (v := i32 0) hx hb dL_join_13 rfl ?_
      subst hQm
      refine vx_ret ?_
      exact q_iret hx hb hr hlocks hP hS ⟨⟨by rw [lv_0 hc.1 hc.2.1 hc.2.2, b2_f h9], rfl⟩, Or.inr ⟨hc, rfl⟩⟩ (by decide) (Nat.le_of_ble_eq_true rfl) dL_join_14
    · refine lv_iconst (v := i32 1) hx hb dL_join_9 rfl ?_
      refine lv_goto (tgt := 14) hx hb dL_join_10 (by decide) ?_
      subst hQm
      refine vx_ret ?_
      exact q_iret hx hb hr hlocks hP hS ⟨⟨by rw [lv_0 hc.1 hc.2.1 hc.2.2, b2_t h9], rfl⟩, Or.inr ⟨hc, rfl⟩⟩ (by decide) (Nat.le_of_ble_eq_true rfl) dL_join_14

set_option maxHeartbeats 4000000 in
set_option maxRecDepth 100000 in
theorem c_L_isTrue (l : Launch) (g : GT) (base : Nat) (ad : Nat → Nat → Nat) (S : St) (x : Int) (hfl : l.stackTraces = false) (hwc : wC S) (hrn : rng x) : vx_Met l yL_isTrue [Cond.codeWith yL_isTrue cL_isTrue 3 (some FieldType.int) [(0, 13, 14, 29)]] ({ frames := 8, cells := 1, slots := 6, locals := 133 }) (va_Pc [.ref (ad 1 0), .int (i32 (x))] (PK g base ad S)) (gQ g base (an (some (.int (i32 (lv3 (peC S x) (True) (True) (-1000001) 0 0 (b2 (∀ j, 1 ≤ j → j < S (10 + x.toNat) 0 0 → S (10 + x.toNat) 8 (j - 1) + 1 = S (10 + x.toNat) 8 j)))))) ad S)) (xQ g base ad S (fun _ => False)) 1 6 (fun q => base ≤ q) := by
  refine mk_mh (own := RL) (lv0 := [(0, .ref (ad 1 0)), (1, .int (i32 (x)))]) (by decide) rfl (Nat.le_of_ble_eq_true rfl) rfl ?_
  intro p e s m below meth cz av Qm hx hb hr hml hown hlocks ht hK hZ hP hQm ls hl
  have hS : va_S (fun q => base ≤ q) s.heap s.heap [] := va_S.rf
  refine lv_aload_n hx hb dL_isTrue_0 rfl (lv_at hl 0 rfl) ?_
  refine lv_iload_n hx hb dL_isTrue_1 rfl (lv_at hl 1 rfl) ?_
  refine q_callVx (k := 1) (rest := []) hx hb hml hl.1 hown hK hZ hP hS hwc.h1 rfl rfl rfl (c_X3_isTrue l g base ad S x hfl hwc hrn) t_520 t_521 (q_callB hK 519 15 522 t_519 t_15 t_522 f_yX3_isTrue ⟨by decide, by decide⟩) rfl rfl (Nat.le_of_ble_eq_true rfl) dL_isTrue_2 ⟨by decide, by decide⟩ (fun E ce q9 H locs hE hq9 hv9 hc9 hP hS => ?_) (fun rr ad9 S9 H locs hQ hP hS => ?_)
  · rcases hE with ⟨rfl, h1⟩ | ⟨rfl, h1, h2⟩ | ⟨rfl, h1, h2, h3⟩
    · refine vx_catch (own := RL) (name := eB) hown [] ⟨0, 13, 14, 29⟩ [] ht (fun z hz => nomatch hz) (by decide) (by decide) (hK.b 128 t_128 rfl) (hK.b 140 t_140 rfl) hq9 hv9 hc9 ?_
      refine lv_astore_n (lv' := [(2, .ref q9), (0, .ref (ad 1 0)), (1, .int (i32 (x)))]) hx hb dL_isTrue_14 rfl hl (by decide) rfl (fun ls hl => ?_)
      refine q_ldc (z := -1000001) hx hb hown hK t_248 rfl dL_isTrue_15 ?_
      subst hQm
      refine vx_ret ?_
      exact q_iret hx hb hr hlocks hP hS ⟨by rw [lv_1 h1], rfl, rfl⟩ (by decide) (Nat.le_of_ble_eq_true rfl) dL_isTrue_17
    · exact (h2 trivial).elim
    · exact (h3 trivial).elim
  · obtain ⟨hc, h1, h2, h3⟩ := hQ
    subst h1
    rw [h2] at hP
    rw [h3] at hP
    refine q_if_eqb (tgt := 12) hx hb dL_isTrue_5 (by decide) (fun h9 => ?_) (fun h9 => ?_)
    · refine lv_iconst (v := i32 0) hx hb dL_isTrue_12 rfl ?_
      subst hQm
      refine vx_ret ?_
      exact q_iret hx hb hr hlocks hP hS ⟨by rw [lv_0 hc.1 hc.2.1 hc.2.2, b2_f h9], rfl, rfl⟩ (by decide) (Nat.le_of_ble_eq_true rfl) dL_isTrue_13
    · refine lv_iconst (v := i32 1) hx hb dL_isTrue_8 rfl ?_
      refine lv_goto (tgt := 13) hx hb dL_isTrue_9 (by decide) ?_
      subst hQm
      refine vx_ret ?_
      exact q_iret hx hb hr hlocks hP hS ⟨by rw [lv_0 hc.1 hc.2.1 hc.2.2, b2_t h9], rfl, rfl⟩ (by decide) (Nat.le_of_ble_eq_true rfl) dL_isTrue_13

set_option maxHeartbeats 4000000 in
set_option maxRecDepth 100000 in
theorem c_L_likeness (l : Launch) (g : GT) (base : Nat) (ad : Nat → Nat → Nat) (S : St) (x z : Int) (hfl : l.stackTraces = false) (hwc : wC S) (hrn : rng x) (hrn2 : rng z) : vx_Met l yL_likeness [Cond.codeWith yL_likeness cL_likeness 4 (some FieldType.int) [(0, 6, 7, 29)]] ({ frames := 8, cells := 2, slots := 12, locals := 136 }) (va_Pc [.ref (ad 1 0), .int (i32 (x)), .int (i32 (z))] (PK g base ad S)) (gQ g base (an (some (.int (i32 (lv3 (peC S x ∧ ceC S z) (True) (True) (-1000001) 0 0 (lnC S (10 + x.toNat) (4 + z.toNat)))))) ad S)) (xQ g base ad S (fun _ => False)) 2 12 (fun q => base ≤ q) := by
  refine mk_mh (own := RL) (lv0 := [(0, .ref (ad 1 0)), (1, .int (i32 (x))), (2, .int (i32 (z)))]) (by decide) rfl (Nat.le_of_ble_eq_true rfl) rfl ?_
  intro p e s m below meth cz av Qm hx hb hr hml hown hlocks ht hK hZ hP hQm ls hl
  have hS : va_S (fun q => base ≤ q) s.heap s.heap [] := va_S.rf
  refine lv_aload_n hx hb dL_likeness_0 rfl (lv_at hl 0 rfl) ?_
  refine lv_iload_n hx hb dL_likeness_1 rfl (lv_at hl 1 rfl) ?_
  refine lv_iload_n hx hb dL_likeness_2 rfl (lv_at hl 2 rfl) ?_
  refine q_callVx (k := 1) (rest := []) hx hb hml hl.1 hown hK hZ hP hS hwc.h1 rfl rfl rfl (c_X3_likeness l g base ad S x z hfl hwc hrn hrn2) t_508 t_509 (q_callB hK 507 15 510 t_507 t_15 t_510 f_yX3_likeness ⟨by decide, by decide⟩) rfl rfl (Nat.le_of_ble_eq_true rfl) dL_likeness_3 ⟨by decide, by decide⟩ (fun E ce q9 H locs hE hq9 hv9 hc9 hP hS => ?_) (fun rr ad9 S9 H locs hQ hP hS => ?_)
  · rcases hE with ⟨rfl, h1⟩ | ⟨rfl, h1, h2⟩ | ⟨rfl, h1, h2, h3⟩
    · refine vx_catch (own := RL) (name := eB) hown [] ⟨0, 6, 7, 29⟩ [] ht (fun z hz => nomatch hz) (by decide) (by decide) (hK.b 128 t_128 rfl) (hK.b 140 t_140 rfl) hq9 hv9 hc9 ?_
      refine lv_astore_n (lv' := [(3, .ref q9), (0, .ref (ad 1 0)), (1, .int (i32 (x))), (2, .int (i32 (z)))]) hx hb dL_likeness_7 rfl hl (by decide) rfl (fun ls hl => ?_)
      refine q_ldc (z := -1000001) hx hb hown hK t_248 rfl dL_likeness_8 ?_
      subst hQm
      refine vx_ret ?_
      exact q_iret hx hb hr hlocks hP hS ⟨by rw [lv_1 h1], rfl, rfl⟩ (by decide) (Nat.le_of_ble_eq_true rfl) dL_likeness_10
    · exact (h2 trivial).elim
    · exact (h3 trivial).elim
  · obtain ⟨hc, h1, h2, h3⟩ := hQ
    subst h1
    rw [h2] at hP
    rw [h3] at hP
    subst hQm
    refine vx_ret ?_
    exact q_iret hx hb hr hlocks hP hS ⟨by rw [lv_0 hc.1 hc.2.1 hc.2.2], rfl, rfl⟩ (by decide) (Nat.le_of_ble_eq_true rfl) dL_likeness_6
