/-! ===== the law's helpers ===== -/
def wr (z : Int) : Int := (i32 z).toInt
theorem wr_rng (z : Int) : rng (wr z) := ⟨by have := (i32 z).le_toInt; unfold wr; omega, by have := (i32 z).toInt_lt; unfold wr; omega⟩
theorem wr_i (z : Int) : i32 (wr z) = i32 z := Int32.ofInt_toInt (i32 z)
theorem wr_64 (z : Int) : (i32 z).toInt64 = i64 (wr z) := by rw [← i64_of32 (wr_rng z), wr_i]
theorem wr_id {z : Int} (h : rng z) : wr z = z := i32_toInt h
/-- how a helper ends: its code, and the world as it was or as the call left it -/
def lhP (ad : Nat → Nat → Nat) (A B C : Prop) (S Z : St) : Option Value → (Nat → Nat → Nat) → St → Prop := fun r ad' S' =>
  r = some (.int (i32 (thr A B C))) ∧ ((¬ (A ∧ B ∧ C) ∧ ad' = ad ∧ S' = S) ∨ ((A ∧ B ∧ C) ∧ (∀ x q, x < 4 → ad' x q = ad x q) ∧ S' = Z))
theorem mk_mh {l : Launch} {y : MethodName} {cc : ByteArray} {maxL : Nat} {ret : Option FieldType} {own : String} {g : GT} {base : Nat} {ad : Nat → Nat → Nat} {S : St} {av : List Value} {lv0 : List (Nat × Value)} {rm : Room} {hh : List (Nat × Nat × Nat × Nat)} {Qc : Array Value → State → Outcome → State → Prop} {XC : String → State → State → Prop} {mc ms : Nat}
    (hy : plainName y.cls = true) (ho : y.cls = own) (hn : (lg_sl av).length ≤ maxL) (hlv : lv_args 0 av = lv0)
    (body : ∀ (p : Program) (e : Env) (s : State) (m : MethodId) (below : List Frame) (meth : Method) (c : Code) (av : Array Value) (Qm : State → Prop), p.tables.exec = Jvm.exec → c.code = cc → meth.sig.returnType = ret → c.maxLocals = maxL → s.vm.findClass own = some m.cls → meth.locks = false → c.exceptionTable.toList = tableOf hh → KK g s → ZZ base s s.heap → pic g base ad S s.heap → Qm = vx_MQ below Qc XC av s mc ms (fun q => base ≤ q) → ∀ ls : Array Slot, lv_has ls maxL lv0 →
      W p l e rm s m av below meth c s.heap [] 0 0 Qm (F0 m 0 ls [])) :
    vx_Met l y [Cond.codeWith y cc maxL ret hh] rm (va_Pc av (PK g base ad S)) Qc XC mc ms (fun q => base ≤ q) := by
  refine vx_ofWH (cc := cc) (maxL := maxL) (ret := ret) (hh := hh) hy rfl ?_
  intro p e s m args below meth c s₁ B hml hv
  obtain ⟨rfl, hK, hZ, hP⟩ := hv
  have hown : s.vm.findClass own = some m.cls := by rw [← ho]; exact findClass_of_methodNamed B.named
  have ht : c.exceptionTable.toList = tableOf hh := vx_table (x := y) B (atoms_spec (ws := [Cond.codeWith y cc maxL ret hh]) B.pre _ List.mem_cons_self)
  rw [lg_entry_eq]
  exact body p e s m below meth c _ _ B.exec B.bytes B.returns hml hown B.notSynchronized ht hK hZ hP rfl _ (hlv ▸ lv_entry av hn)
section QL
variable {p : Program} {l : Launch} {e : Env} {R : Room} {s : State} {m : MethodId} {args : Array Value} {below : List Frame} {meth : Method} {c : Code} {H : Heap} {locs : List Loc} {cells slots : Nat} {Q : State → Prop}
variable {cc : ByteArray} {pc : Nat} {ls : Array Slot} {rest st0 : List Value} {g : GT} {base : Nat} {ad : Nat → Nat → Nat} {S : St} {own : String}
variable {P : Option Value → (Nat → Nat → Nat) → St → Prop} {y : MethodName} {bytes : ByteArray} {maxL nL n index : Nat} {rm : Room} {As : List Value} {ret : Option FieldType} {hh : List (Nat × Nat × Nat × Nat)}
theorem q_callH (hx : p.tables.exec = Jvm.exec) (hb : c.code = cc) (hml : c.maxLocals = nL) (hls : ls.size = nL) (hown : s.vm.findClass own = some m.cls) (hK : KK g s) (hZ : ZZ base s s.heap) (hP : pic g base ad S H) (hS : va_S (fun q => base ≤ q) s.heap H locs)
    (hM : vx_Met l y [Cond.codeWith y bytes maxL ret hh] rm (va_Pc As (PK g base ad S)) (gQ g base P) (xQ g base ad S (fun _ => False)) rm.cells rm.slots (fun q => base ≤ q)) {il ii ic is : Nat} (hl : lw_tbl[il]? = some (.methodLink own index y)) (hi : lw_tbl[ii]? = some (.initialized y.cls)) (hc : lw_tbl[ic]? = some (.codeWith y bytes maxL ret hh)) (hst : lw_tbl[is]? = some (.static y)) (hfa : (y.cls ≠ "java/lang/invoke/MethodHandle" ∧ y.cls ≠ "java/lang/invoke/VarHandle") ∧ (parseMethodDescriptor y.desc).map (fun d => d.parameters.length) = some n) (hR : rm.frames + 1 ≤ R.frames ∧ 8 + (maxL + 11) + rm.locals ≤ R.locals) (hn : As.length = n) (hstk : st0 = As.reverse ++ rest) (hcat : (rest.map fun v => v.category).sum ≤ 8) (hdg : decode cc pc = .ok (.invokestatic index, 3)) (hf : cells + rm.cells ≤ R.cells ∧ slots + rm.slots ≤ R.slots)
    (kk : ∀ (r : Option Value) (ad' : Nat → Nat → Nat) (S' : St) (H1 : Heap) (locs1 : List Loc), P r ad' S' → pic g base ad' S' H1 → va_S (fun q => base ≤ q) s.heap H1 locs1 → W p l e R s m args below meth c H1 locs1 (cells + rm.cells) (slots + rm.slots) Q (F0 m (pc + 3) ls (r.toList ++ rest))) : W p l e R s m args below meth c H locs cells slots Q (F0 m pc ls st0) := by
  refine q_gox (vx_runSX (As := As) (rest := rest) (Ts := []) (hh := hh) ⟨hx, hb, hml, hown, fun _ h => nomatch h⟩ hM ⟨⟨rfl, rfl, hR.1, hR.2, fun w hw a' U hW => ?_, List.mem_cons_self⟩, hK.b ic hc rfl, hK.b ii hi rfl, hfa.1, fun sig h => ?_, hK.b il hl rfl, hK.b is hst rfl⟩ (q_pre hK hZ hP hS As) rfl hn hls hstk (lv_room hcat) hdg hf) hS (fun E ce q H1 locs1 hE _ _ _ _ _ => hE.elim) kk
  · rw [List.mem_singleton.mp hw]
    exact (hK.warm hW).b ic hc rfl
  · have h2 := hfa.2
    rw [h] at h2
    exact (Option.some.inj h2).symm
end QL
set_option maxHeartbeats 4000000 in
set_option maxRecDepth 100000 in
theorem c_L_type (l : Launch) (g : GT) (base : Nat) (ad : Nat → Nat → Nat) (S : St) (z : Int) (hfl : l.stackTraces = false) (hwc : wC S) (hrn : rng z) (hal3 : S 3 0 (-1) = 1) : vx_Met l yL_type [Cond.codeWith yL_type cL_type 4 (some FieldType.int) [(0, 9, 12, 13), (0, 9, 15, 15)]] ({ frames := 7, cells := 1, slots := 6, locals := 112 }) (va_Pc [.ref (ad 1 0), .int (i32 (z)), .ref (ad 3 1)] (PK g base ad S)) (gQ g base (lhP ad (sg z ≠ -1) (S 1 0 1 < 12) (True) S (st (st (st S 1 1 (S 1 0 1) (sg z)) 1 0 1 (S 1 0 1 + 1)) 3 1 0 (wr (S 1 0 1 + 1))))) (xQ g base ad S (fun _ => False)) 1 6 (fun q => base ≤ q) := by
  refine mk_mh (own := RL) (lv0 := [(0, .ref (ad 1 0)), (1, .int (i32 (z))), (2, .ref (ad 3 1))]) (by decide) rfl (Nat.le_of_ble_eq_true rfl) rfl ?_
  intro p e s m below meth cz av Qm hx hb hr hml hown hlocks ht hK hZ hP hQm ls hl
  have hS : va_S (fun q => base ≤ q) s.heap s.heap [] := va_S.rf
  refine lv_aload_n hx hb dL_type_0 rfl (lv_at hl 2 rfl) ?_
  refine lv_iconst (v := i32 (0)) hx hb dL_type_1 rfl ?_
  refine lv_aload_n hx hb dL_type_2 rfl (lv_at hl 0 rfl) ?_
  refine lv_iload_n hx hb dL_type_3 rfl (lv_at hl 1 rfl) ?_
  refine q_callVx (k := 1) (rest := [.int (i32 (0)), .ref (ad 3 1)]) hx hb hml hl.1 hown hK hZ hP hS hwc.h1 rfl rfl rfl (c_X3_type l g base ad S z hfl hwc hrn) t_158 t_159 (q_callB hK 157 34 160 t_157 t_34 t_160 f_yX3_type ⟨by decide, by decide⟩) rfl rfl (Nat.le_of_ble_eq_true rfl) dL_type_4 ⟨by decide, by decide⟩ (fun E ce q9 H locs hE hq9 hv9 hc9 hP hS => ?_) (fun rr ad9 S9 H locs hQ hP hS => ?_)
  · rcases hE with ⟨rfl, h1⟩ | ⟨rfl, h1, h2⟩ | ⟨rfl, h1, h2, h3⟩
    · refine vx_catch (own := RL) (name := eA) hown [] ⟨0, 9, 12, 13⟩ [⟨0, 9, 15, 15⟩] ht (fun z hz => nomatch hz) (by decide) (by decide) (hK.b 155 t_155 rfl) (hK.b 166 t_166 rfl) hq9 hv9 hc9 ?_
      refine lv_astore_n (lv' := [(3, .ref q9), (0, .ref (ad 1 0)), (1, .int (i32 (z))), (2, .ref (ad 3 1))]) hx hb dL_type_12 rfl hl (by decide) rfl (fun ls hl => ?_)
      refine lv_iconst (v := i32 1) hx hb dL_type_13 rfl ?_
      subst hQm
      refine vx_ret ?_
      exact q_iret hx hb hr hlocks hP hS ⟨by rw [thr_1 h1], Or.inl ⟨fun y => h1 y.1, rfl, rfl⟩⟩ (by decide) (Nat.le_of_ble_eq_true rfl) dL_type_14
    · refine vx_catch (own := RL) (name := eS) hown [⟨0, 9, 12, 13⟩] ⟨0, 9, 15, 15⟩ [] ht (fun z hz => by rw [List.mem_singleton.mp hz]; exact Or.inr ⟨by decide, eA, hK.b 155 t_155 rfl, hK.2.2.2.2.2.2 (eS, eA) (by decide)⟩) (by decide) (by decide) (hK.b 156 t_156 rfl) (hK.b 234 t_234 rfl) hq9 hv9 hc9 ?_
      refine lv_astore_n (lv' := [(3, .ref q9), (0, .ref (ad 1 0)), (1, .int (i32 (z))), (2, .ref (ad 3 1))]) hx hb dL_type_15 rfl hl (by decide) rfl (fun ls hl => ?_)
      refine lv_iconst (v := i32 2) hx hb dL_type_16 rfl ?_
      subst hQm
      refine vx_ret ?_
      exact q_iret hx hb hr hlocks hP hS ⟨by rw [thr_2 h1 h2], Or.inl ⟨fun y => h2 y.2.1, rfl, rfl⟩⟩ (by decide) (Nat.le_of_ble_eq_true rfl) dL_type_17
    · exact (h3 trivial).elim
  · obtain ⟨hc, h1, h2, h3⟩ := hQ
    subst h1
    rw [h2] at hP
    have ek : ∀ x q, x < 4 → ad x q = ad x q := fun _ _ _ => rfl
    rw [h3] at hP
    have hal3z : (st (st S 1 1 (S 1 0 1) (sg z)) 1 0 1 (S 1 0 1 + 1)) 3 0 (-1) = 1 := by
      rw [st_at, if_neg (by omega)]
      rw [st_at, if_neg (by omega)]
      exact hal3
    refine lv_i2l hx hb dL_type_7 (wr_64 _) ?_
    refine p_last (o := 3) (r := 1) (k := 3) (n := 1) (z := 0) (v := wr (S 1 0 1 + 1)) hx hb hK hP hS hal3z rfl rfl (by decide) (by decide) (by decide) (by decide) (wr_rng _) dL_type_8 (fun H locs hP hS => ?_)
    refine lv_goto (tgt := 18) hx hb dL_type_9 (by decide) ?_
    refine lv_iconst (v := i32 0) hx hb dL_type_18 rfl ?_
    subst hQm
    refine vx_ret ?_
    exact q_iret hx hb hr hlocks hP hS ⟨by rw [thr_0 hc.1 hc.2.1 hc.2.2], Or.inr ⟨hc, ek, rfl⟩⟩ (by decide) (Nat.le_of_ble_eq_true rfl) dL_type_19

set_option maxHeartbeats 4000000 in
set_option maxRecDepth 100000 in
theorem c_L_cartoon (l : Launch) (g : GT) (base : Nat) (ad : Nat → Nat → Nat) (S : St) (z : Int) (hfl : l.stackTraces = false) (hwc : wC S) (hrn : rng z) (hcf : ∀ j : Nat, S 1 3 j = 1 → (j : Int) < S 1 0 3) (hpf : ∀ j : Nat, S 1 6 j = 1 → (j : Int) < S 1 0 6) (hal3 : S 3 0 (-1) = 1) : vx_Met l yL_cartoon [Cond.codeWith yL_cartoon cL_cartoon 4 (some FieldType.int) [(0, 9, 12, 13), (0, 9, 15, 15)]] ({ frames := 7, cells := 2, slots := 125, locals := 112 }) (va_Pc [.ref (ad 1 0), .int (i32 (z)), .ref (ad 3 1)] (PK g base ad S)) (gQ g base (lhP ad (2 ≤ z ∧ z ≤ 12) (S 1 0 3 < 5) (True) S (st (ctS S z) 3 1 0 (wr (S 1 0 3))))) (xQ g base ad S (fun _ => False)) 2 125 (fun q => base ≤ q) := by
  refine mk_mh (own := RL) (lv0 := [(0, .ref (ad 1 0)), (1, .int (i32 (z))), (2, .ref (ad 3 1))]) (by decide) rfl (Nat.le_of_ble_eq_true rfl) rfl ?_
  intro p e s m below meth cz av Qm hx hb hr hml hown hlocks ht hK hZ hP hQm ls hl
  have hS : va_S (fun q => base ≤ q) s.heap s.heap [] := va_S.rf
  refine lv_aload_n hx hb dL_cartoon_0 rfl (lv_at hl 2 rfl) ?_
  refine lv_iconst (v := i32 (0)) hx hb dL_cartoon_1 rfl ?_
  refine lv_aload_n hx hb dL_cartoon_2 rfl (lv_at hl 0 rfl) ?_
  refine lv_iload_n hx hb dL_cartoon_3 rfl (lv_at hl 1 rfl) ?_
  refine q_callVx (k := 1) (rest := [.int (i32 (0)), .ref (ad 3 1)]) hx hb hml hl.1 hown hK hZ hP hS hwc.h1 rfl rfl rfl (c_X3_cartoon l g base ad S z hfl hwc hrn hcf hpf) t_253 t_254 (q_callB hK 252 34 255 t_252 t_34 t_255 f_yX3_cartoon ⟨by decide, by decide⟩) rfl rfl (Nat.le_of_ble_eq_true rfl) dL_cartoon_4 ⟨by decide, by decide⟩ (fun E ce q9 H locs hE hq9 hv9 hc9 hP hS => ?_) (fun rr ad9 S9 H locs hQ hP hS => ?_)
  · rcases hE with ⟨rfl, h1⟩ | ⟨rfl, h1, h2⟩ | ⟨rfl, h1, h2, h3⟩
    · refine vx_catch (own := RL) (name := eA) hown [] ⟨0, 9, 12, 13⟩ [⟨0, 9, 15, 15⟩] ht (fun z hz => nomatch hz) (by decide) (by decide) (hK.b 155 t_155 rfl) (hK.b 166 t_166 rfl) hq9 hv9 hc9 ?_
      refine lv_astore_n (lv' := [(3, .ref q9), (0, .ref (ad 1 0)), (1, .int (i32 (z))), (2, .ref (ad 3 1))]) hx hb dL_cartoon_12 rfl hl (by decide) rfl (fun ls hl => ?_)
      refine lv_iconst (v := i32 1) hx hb dL_cartoon_13 rfl ?_
      subst hQm
      refine vx_ret ?_
      exact q_iret hx hb hr hlocks hP hS ⟨by rw [thr_1 h1], Or.inl ⟨fun y => h1 y.1, rfl, rfl⟩⟩ (by decide) (Nat.le_of_ble_eq_true rfl) dL_cartoon_14
    · refine vx_catch (own := RL) (name := eS) hown [⟨0, 9, 12, 13⟩] ⟨0, 9, 15, 15⟩ [] ht (fun z hz => by rw [List.mem_singleton.mp hz]; exact Or.inr ⟨by decide, eA, hK.b 155 t_155 rfl, hK.2.2.2.2.2.2 (eS, eA) (by decide)⟩) (by decide) (by decide) (hK.b 156 t_156 rfl) (hK.b 234 t_234 rfl) hq9 hv9 hc9 ?_
      refine lv_astore_n (lv' := [(3, .ref q9), (0, .ref (ad 1 0)), (1, .int (i32 (z))), (2, .ref (ad 3 1))]) hx hb dL_cartoon_15 rfl hl (by decide) rfl (fun ls hl => ?_)
      refine lv_iconst (v := i32 2) hx hb dL_cartoon_16 rfl ?_
      subst hQm
      refine vx_ret ?_
      exact q_iret hx hb hr hlocks hP hS ⟨by rw [thr_2 h1 h2], Or.inl ⟨fun y => h2 y.2.1, rfl, rfl⟩⟩ (by decide) (Nat.le_of_ble_eq_true rfl) dL_cartoon_17
    · exact (h3 trivial).elim
  · obtain ⟨hc, A9, h1, h2, h3⟩ := hQ
    subst h1
    have ek : ∀ x q, x < 4 → ad9 x q = ad x q := fun x q h => by rw [h2]; exact adN_n (by omega)
    clear h2
    have eg : F0 m 7 ls ((some (.int (i32 (S 1 0 3)))).toList ++ [.int (i32 (0)), .ref (ad 3 1)]) = F0 m 7 ls [.int (i32 (S 1 0 3)), .int (i32 0), .ref (ad9 3 1)] := by rw [ek 3 1 (by decide)]; rfl
    refine W.eq eg ?_
    rw [h3] at hP
    have hal3z : (ctS S z) 3 0 (-1) = 1 := by
      unfold ctS
      rw [st_at, if_neg (by omega)]
      rw [st_at, if_neg (by omega)]
      rw [nwS_n (by omega)]
      exact hal3
    refine lv_i2l hx hb dL_cartoon_7 (wr_64 _) ?_
    refine p_last (o := 3) (r := 1) (k := 3) (n := 1) (z := 0) (v := wr (S 1 0 3)) hx hb hK hP hS hal3z rfl rfl (by decide) (by decide) (by decide) (by decide) (wr_rng _) dL_cartoon_8 (fun H locs hP hS => ?_)
    refine lv_goto (tgt := 18) hx hb dL_cartoon_9 (by decide) ?_
    refine lv_iconst (v := i32 0) hx hb dL_cartoon_18 rfl ?_
    subst hQm
    refine vx_ret ?_
    exact q_iret hx hb hr hlocks hP hS ⟨by rw [thr_0 hc.1 hc.2.1 hc.2.2], Or.inr ⟨hc, ek, rfl⟩⟩ (by decide) (Nat.le_of_ble_eq_true rfl) dL_cartoon_19

set_option maxHeartbeats 4000000 in
set_option maxRecDepth 100000 in
theorem c_L_row (l : Launch) (g : GT) (base : Nat) (ad : Nat → Nat → Nat) (S : St) (x : Int) (hfl : l.stackTraces = false) (hwc : wC S) (hrn : rng x) (hal3 : S 3 0 (-1) = 1) : vx_Met l yL_row [Cond.codeWith yL_row cL_row 4 (some FieldType.int) [(0, 9, 12, 24), (0, 9, 15, 15)]] ({ frames := 8, cells := 2, slots := 12, locals := 134 }) (va_Pc [.ref (ad 1 0), .int (i32 (x)), .ref (ad 3 1)] (PK g base ad S)) (gQ g base (lhP ad (ceC S x) (S 1 0 1 = S (4 + x.toNat) 0 0 ∧ S (4 + x.toNat) 0 1 < 10) (True) S (st (st (st (adF S (4 + x.toNat) (S (4 + x.toNat) 0 0)) (4 + x.toNat) 0 1 (S (4 + x.toNat) 0 1 + 1)) 1 0 1 0) 3 1 0 (wr (S (4 + x.toNat) 0 1 + 1))))) (xQ g base ad S (fun _ => False)) 2 12 (fun q => base ≤ q) := by
  refine mk_mh (own := RL) (lv0 := [(0, .ref (ad 1 0)), (1, .int (i32 (x))), (2, .ref (ad 3 1))]) (by decide) rfl (Nat.le_of_ble_eq_true rfl) rfl ?_
  intro p e s m below meth cz av Qm hx hb hr hml hown hlocks ht hK hZ hP hQm ls hl
  have hS : va_S (fun q => base ≤ q) s.heap s.heap [] := va_S.rf
  refine lv_aload_n hx hb dL_row_0 rfl (lv_at hl 2 rfl) ?_
  refine lv_iconst (v := i32 (0)) hx hb dL_row_1 rfl ?_
  refine lv_aload_n hx hb dL_row_2 rfl (lv_at hl 0 rfl) ?_
  refine lv_iload_n hx hb dL_row_3 rfl (lv_at hl 1 rfl) ?_
  refine q_callVx (k := 1) (rest := [.int (i32 (0)), .ref (ad 3 1)]) hx hb hml hl.1 hown hK hZ hP hS hwc.h1 rfl rfl rfl (c_X3_row l g base ad S x hfl hwc hrn) t_284 t_285 (q_callB hK 283 34 286 t_283 t_34 t_286 f_yX3_row ⟨by decide, by decide⟩) rfl rfl (Nat.le_of_ble_eq_true rfl) dL_row_4 ⟨by decide, by decide⟩ (fun E ce q9 H locs hE hq9 hv9 hc9 hP hS => ?_) (fun rr ad9 S9 H locs hQ hP hS => ?_)
  · rcases hE with ⟨rfl, h1⟩ | ⟨rfl, h1, h2⟩ | ⟨rfl, h1, h2, h3⟩
    · refine vx_catch (own := RL) (name := eB) hown [] ⟨0, 9, 12, 24⟩ [⟨0, 9, 15, 15⟩] ht (fun z hz => nomatch hz) (by decide) (by decide) (hK.b 282 t_282 rfl) (hK.b 293 t_293 rfl) hq9 hv9 hc9 ?_
      refine lv_astore_n (lv' := [(3, .ref q9), (0, .ref (ad 1 0)), (1, .int (i32 (x))), (2, .ref (ad 3 1))]) hx hb dL_row_12 rfl hl (by decide) rfl (fun ls hl => ?_)
      refine lv_iconst (v := i32 1) hx hb dL_row_13 rfl ?_
      subst hQm
      refine vx_ret ?_
      exact q_iret hx hb hr hlocks hP hS ⟨by rw [thr_1 h1], Or.inl ⟨fun y => h1 y.1, rfl, rfl⟩⟩ (by decide) (Nat.le_of_ble_eq_true rfl) dL_row_14
    · refine vx_catch (own := RL) (name := eS) hown [⟨0, 9, 12, 24⟩] ⟨0, 9, 15, 15⟩ [] ht (fun z hz => by rw [List.mem_singleton.mp hz]; exact Or.inr ⟨by decide, eB, hK.b 282 t_282 rfl, hK.2.2.2.2.2.2 (eS, eB) (by decide)⟩) (by decide) (by decide) (hK.b 156 t_156 rfl) (hK.b 234 t_234 rfl) hq9 hv9 hc9 ?_
      refine lv_astore_n (lv' := [(3, .ref q9), (0, .ref (ad 1 0)), (1, .int (i32 (x))), (2, .ref (ad 3 1))]) hx hb dL_row_15 rfl hl (by decide) rfl (fun ls hl => ?_)
      refine lv_iconst (v := i32 2) hx hb dL_row_16 rfl ?_
      subst hQm
      refine vx_ret ?_
      exact q_iret hx hb hr hlocks hP hS ⟨by rw [thr_2 h1 h2], Or.inl ⟨fun y => h2 y.2.1, rfl, rfl⟩⟩ (by decide) (Nat.le_of_ble_eq_true rfl) dL_row_17
    · exact (h3 trivial).elim
  · obtain ⟨hc, h1, h2, h3⟩ := hQ
    subst h1
    rw [h2] at hP
    have ek : ∀ x q, x < 4 → ad x q = ad x q := fun _ _ _ => rfl
    rw [h3] at hP
    have hal3z : (st (st (adF S (4 + x.toNat) (S (4 + x.toNat) 0 0)) (4 + x.toNat) 0 1 (S (4 + x.toNat) 0 1 + 1)) 1 0 1 0) 3 0 (-1) = 1 := by
      rw [st_at, if_neg (by omega)]
      rw [st_at, if_neg (by omega)]
      rw [adF_o (by decide)]
      exact hal3
    refine lv_i2l hx hb dL_row_7 (wr_64 _) ?_
    refine p_last (o := 3) (r := 1) (k := 3) (n := 1) (z := 0) (v := wr (S (4 + x.toNat) 0 1 + 1)) hx hb hK hP hS hal3z rfl rfl (by decide) (by decide) (by decide) (by decide) (wr_rng _) dL_row_8 (fun H locs hP hS => ?_)
    refine lv_goto (tgt := 18) hx hb dL_row_9 (by decide) ?_
    refine lv_iconst (v := i32 0) hx hb dL_row_18 rfl ?_
    subst hQm
    refine vx_ret ?_
    exact q_iret hx hb hr hlocks hP hS ⟨by rw [thr_0 hc.1 hc.2.1 hc.2.2], Or.inr ⟨hc, ek, rfl⟩⟩ (by decide) (Nat.le_of_ble_eq_true rfl) dL_row_19

set_option maxHeartbeats 4000000 in
set_option maxRecDepth 100000 in
theorem c_L_hatch (l : Launch) (g : GT) (base : Nat) (ad : Nat → Nat → Nat) (S : St) (x u w : Int) (hfl : l.stackTraces = false) (hwc : wC S) (hrn : rng x) (hrn2 : rng u) (hrn3 : rng w) : vx_Met l yL_hatch [Cond.codeWith yL_hatch cL_hatch 5 (some FieldType.int) [(0, 7, 10, 24)]] ({ frames := 8, cells := 3, slots := 18, locals := 136 }) (va_Pc [.ref (ad 1 0), .int (i32 (x)), .int (i32 (u)), .int (i32 (w))] (PK g base ad S)) (gQ g base (lhP ad (ceC S x ∧ (0 ≤ u ∧ u < 6) ∧ (0 ≤ w ∧ w < 6)) (True) (True) S (st (st S (4 + x.toNat) 0 3 u) (4 + x.toNat) 0 4 w))) (xQ g base ad S (fun _ => False)) 3 18 (fun q => base ≤ q) := by
  refine mk_mh (own := RL) (lv0 := [(0, .ref (ad 1 0)), (1, .int (i32 (x))), (2, .int (i32 (u))), (3, .int (i32 (w)))]) (by decide) rfl (Nat.le_of_ble_eq_true rfl) rfl ?_
  intro p e s m below meth cz av Qm hx hb hr hml hown hlocks ht hK hZ hP hQm ls hl
  have hS : va_S (fun q => base ≤ q) s.heap s.heap [] := va_S.rf
  refine lv_aload_n hx hb dL_hatch_0 rfl (lv_at hl 0 rfl) ?_
  refine lv_iload_n hx hb dL_hatch_1 rfl (lv_at hl 1 rfl) ?_
  refine lv_iload_n hx hb dL_hatch_2 rfl (lv_at hl 2 rfl) ?_
  refine lv_iload_n hx hb dL_hatch_3 rfl (lv_at hl 3 rfl) ?_
  refine q_callVx (k := 1) (rest := []) hx hb hml hl.1 hown hK hZ hP hS hwc.h1 rfl rfl rfl (c_X3_hatch l g base ad S x u w hfl hwc hrn hrn2 hrn3) t_327 t_328 (q_callB hK 326 34 329 t_326 t_34 t_329 f_yX3_hatch ⟨by decide, by decide⟩) rfl rfl (Nat.le_of_ble_eq_true rfl) dL_hatch_4 ⟨by decide, by decide⟩ (fun E ce q9 H locs hE hq9 hv9 hc9 hP hS => ?_) (fun rr ad9 S9 H locs hQ hP hS => ?_)
  · rcases hE with ⟨rfl, h1⟩ | ⟨rfl, h1, h2⟩ | ⟨rfl, h1, h2, h3⟩
    · refine vx_catch (own := RL) (name := eB) hown [] ⟨0, 7, 10, 24⟩ [] ht (fun z hz => nomatch hz) (by decide) (by decide) (hK.b 282 t_282 rfl) (hK.b 293 t_293 rfl) hq9 hv9 hc9 ?_
      refine lv_astore (lv' := [(4, .ref q9), (0, .ref (ad 1 0)), (1, .int (i32 (x))), (2, .int (i32 (u))), (3, .int (i32 (w)))]) hx hb dL_hatch_10 hl (by decide) rfl (fun ls hl => ?_)
      refine lv_iconst (v := i32 1) hx hb dL_hatch_12 rfl ?_
      subst hQm
      refine vx_ret ?_
      exact q_iret hx hb hr hlocks hP hS ⟨by rw [thr_1 h1], Or.inl ⟨fun y => h1 y.1, rfl, rfl⟩⟩ (by decide) (Nat.le_of_ble_eq_true rfl) dL_hatch_13
    · exact (h2 trivial).elim
    · exact (h3 trivial).elim
  · obtain ⟨hc, h1, h2, h3⟩ := hQ
    subst h1
    rw [h2] at hP
    have ek : ∀ x q, x < 4 → ad x q = ad x q := fun _ _ _ => rfl
    rw [h3] at hP
    refine lv_goto (tgt := 14) hx hb dL_hatch_7 (by decide) ?_
    refine lv_iconst (v := i32 0) hx hb dL_hatch_14 rfl ?_
    subst hQm
    refine vx_ret ?_
    exact q_iret hx hb hr hlocks hP hS ⟨by rw [thr_0 hc.1 hc.2.1 hc.2.2], Or.inr ⟨hc, ek, rfl⟩⟩ (by decide) (Nat.le_of_ble_eq_true rfl) dL_hatch_15

set_option maxHeartbeats 4000000 in
set_option maxRecDepth 100000 in
theorem c_L_dye (l : Launch) (g : GT) (base : Nat) (ad : Nat → Nat → Nat) (S : St) (u n f : Int) (bl : Prop) (hfl : l.stackTraces = false) (hwc : wC S) (hrn : rng u) (hrn2 : rng n) (hrn3 : rng f) (hal3 : S 3 0 (-1) = 1) : vx_Met l yL_dye [Cond.codeWith yL_dye cL_dye 7 (some FieldType.int) [(0, 14, 17, 24), (0, 14, 21, 13), (0, 14, 25, 15)]] ({ frames := 8, cells := 2, slots := 12, locals := 134 }) (va_Pc [.ref (ad 1 0), .int (i32 (u)), .int (i32 (n)), .int (i32 (f)), .int (i32 (b2 (bl))), .ref (ad 3 1)] (PK g base ad S)) (gQ g base (lhP ad (0 ≤ u ∧ u < 6) ((1 ≤ n ∧ n ≤ 999) ∧ (0 ≤ f ∧ f ≤ 9)) (S 2 0 0 < 20) S (st (st (st (st (st (st (st S 2 2 (S 2 0 0) u) 2 3 (S 2 0 0) n) 2 4 (S 2 0 0) n) 2 5 (S 2 0 0) f) 2 6 (S 2 0 0) (b2 bl)) 2 0 0 (S 2 0 0 + 1)) 3 1 0 (wr (S 2 0 0))))) (xQ g base ad S (fun _ => False)) 2 12 (fun q => base ≤ q) := by
  refine mk_mh (own := RL) (lv0 := [(0, .ref (ad 1 0)), (1, .int (i32 (u))), (2, .int (i32 (n))), (3, .int (i32 (f))), (4, .int (i32 (b2 (bl)))), (5, .ref (ad 3 1))]) (by decide) rfl (Nat.le_of_ble_eq_true rfl) rfl ?_
  intro p e s m below meth cz av Qm hx hb hr hml hown hlocks ht hK hZ hP hQm ls hl
  have hS : va_S (fun q => base ≤ q) s.heap s.heap [] := va_S.rf
  refine lv_aload hx hb dL_dye_0 (lv_at hl 5 rfl) ?_
  refine lv_iconst (v := i32 (0)) hx hb dL_dye_2 rfl ?_
  refine lv_aload_n hx hb dL_dye_3 rfl (lv_at hl 0 rfl) ?_
  refine lv_iload_n hx hb dL_dye_4 rfl (lv_at hl 1 rfl) ?_
  refine lv_iload_n hx hb dL_dye_5 rfl (lv_at hl 2 rfl) ?_
  refine lv_iload_n hx hb dL_dye_6 rfl (lv_at hl 3 rfl) ?_
  refine lv_iload hx hb dL_dye_7 (lv_at hl 4 rfl) ?_
  refine q_callVx (k := 1) (rest := [.int (i32 (0)), .ref (ad 3 1)]) hx hb hml hl.1 hown hK hZ hP hS hwc.h1 rfl rfl rfl (c_X3_dye l g base ad S u n f bl hfl hwc hrn hrn2 hrn3) t_342 t_343 (q_callB hK 341 34 344 t_341 t_34 t_344 f_yX3_dye ⟨by decide, by decide⟩) rfl rfl (Nat.le_of_ble_eq_true rfl) dL_dye_9 ⟨by decide, by decide⟩ (fun E ce q9 H locs hE hq9 hv9 hc9 hP hS => ?_) (fun rr ad9 S9 H locs hQ hP hS => ?_)
  · rcases hE with ⟨rfl, h1⟩ | ⟨rfl, h1, h2⟩ | ⟨rfl, h1, h2, h3⟩
    · refine vx_catch (own := RL) (name := eB) hown [] ⟨0, 14, 17, 24⟩ [⟨0, 14, 21, 13⟩, ⟨0, 14, 25, 15⟩] ht (fun z hz => nomatch hz) (by decide) (by decide) (hK.b 282 t_282 rfl) (hK.b 293 t_293 rfl) hq9 hv9 hc9 ?_
      refine lv_astore (lv' := [(6, .ref q9), (0, .ref (ad 1 0)), (1, .int (i32 (u))), (2, .int (i32 (n))), (3, .int (i32 (f))), (4, .int (i32 (b2 (bl)))), (5, .ref (ad 3 1))]) hx hb dL_dye_17 hl (by decide) rfl (fun ls hl => ?_)
      refine lv_iconst (v := i32 1) hx hb dL_dye_19 rfl ?_
      subst hQm
      refine vx_ret ?_
      exact q_iret hx hb hr hlocks hP hS ⟨by rw [thr_1 h1], Or.inl ⟨fun y => h1 y.1, rfl, rfl⟩⟩ (by decide) (Nat.le_of_ble_eq_true rfl) dL_dye_20
    · refine vx_catch (own := RL) (name := eA) hown [⟨0, 14, 17, 24⟩] ⟨0, 14, 21, 13⟩ [⟨0, 14, 25, 15⟩] ht (fun z hz => by rw [List.mem_singleton.mp hz]; exact Or.inr ⟨by decide, eB, hK.b 282 t_282 rfl, hK.2.2.2.2.2.2 (eA, eB) (by decide)⟩) (by decide) (by decide) (hK.b 155 t_155 rfl) (hK.b 166 t_166 rfl) hq9 hv9 hc9 ?_
      refine lv_astore (lv' := [(6, .ref q9), (0, .ref (ad 1 0)), (1, .int (i32 (u))), (2, .int (i32 (n))), (3, .int (i32 (f))), (4, .int (i32 (b2 (bl)))), (5, .ref (ad 3 1))]) hx hb dL_dye_21 hl (by decide) rfl (fun ls hl => ?_)
      refine lv_iconst (v := i32 2) hx hb dL_dye_23 rfl ?_
      subst hQm
      refine vx_ret ?_
      exact q_iret hx hb hr hlocks hP hS ⟨by rw [thr_2 h1 h2], Or.inl ⟨fun y => h2 y.2.1, rfl, rfl⟩⟩ (by decide) (Nat.le_of_ble_eq_true rfl) dL_dye_24
    · refine vx_catch (own := RL) (name := eS) hown [⟨0, 14, 17, 24⟩, ⟨0, 14, 21, 13⟩] ⟨0, 14, 25, 15⟩ [] ht (fun z hz => by rcases List.mem_cons.mp hz with h9 | h9; (rw [h9]; exact Or.inr ⟨by decide, eB, hK.b 282 t_282 rfl, hK.2.2.2.2.2.2 (eS, eB) (by decide)⟩); rw [List.mem_singleton.mp h9]; exact Or.inr ⟨by decide, eA, hK.b 155 t_155 rfl, hK.2.2.2.2.2.2 (eS, eA) (by decide)⟩) (by decide) (by decide) (hK.b 156 t_156 rfl) (hK.b 234 t_234 rfl) hq9 hv9 hc9 ?_
      refine lv_astore (lv' := [(6, .ref q9), (0, .ref (ad 1 0)), (1, .int (i32 (u))), (2, .int (i32 (n))), (3, .int (i32 (f))), (4, .int (i32 (b2 (bl)))), (5, .ref (ad 3 1))]) hx hb dL_dye_25 hl (by decide) rfl (fun ls hl => ?_)
      refine lv_iconst (v := i32 3) hx hb dL_dye_27 rfl ?_
      subst hQm
      refine vx_ret ?_
      exact q_iret hx hb hr hlocks hP hS ⟨by rw [thr_3 h1 h2 h3], Or.inl ⟨fun y => h3 y.2.2, rfl, rfl⟩⟩ (by decide) (Nat.le_of_ble_eq_true rfl) dL_dye_28
  · obtain ⟨hc, h1, h2, h3⟩ := hQ
    subst h1
    rw [h2] at hP
    have ek : ∀ x q, x < 4 → ad x q = ad x q := fun _ _ _ => rfl
    rw [h3] at hP
    have hal3z : (st (st (st (st (st (st S 2 2 (S 2 0 0) u) 2 3 (S 2 0 0) n) 2 4 (S 2 0 0) n) 2 5 (S 2 0 0) f) 2 6 (S 2 0 0) (b2 bl)) 2 0 0 (S 2 0 0 + 1)) 3 0 (-1) = 1 := by
      rw [st_at, if_neg (by omega)]
      rw [st_at, if_neg (by omega)]
      rw [st_at, if_neg (by omega)]
      rw [st_at, if_neg (by omega)]
      rw [st_at, if_neg (by omega)]
      rw [st_at, if_neg (by omega)]
      exact hal3
    refine lv_i2l hx hb dL_dye_12 (wr_64 _) ?_
    refine p_last (o := 3) (r := 1) (k := 3) (n := 1) (z := 0) (v := wr (S 2 0 0)) hx hb hK hP hS hal3z rfl rfl (by decide) (by decide) (by decide) (by decide) (wr_rng _) dL_dye_13 (fun H locs hP hS => ?_)
    refine lv_goto (tgt := 29) hx hb dL_dye_14 (by decide) ?_
    refine lv_iconst (v := i32 0) hx hb dL_dye_29 rfl ?_
    subst hQm
    refine vx_ret ?_
    exact q_iret hx hb hr hlocks hP hS ⟨by rw [thr_0 hc.1 hc.2.1 hc.2.2], Or.inr ⟨hc, ek, rfl⟩⟩ (by decide) (Nat.le_of_ble_eq_true rfl) dL_dye_30

set_option maxHeartbeats 4000000 in
set_option maxRecDepth 100000 in
theorem c_L_left (l : Launch) (g : GT) (base : Nat) (ad : Nat → Nat → Nat) (S : St) (x : Int) (hfl : l.stackTraces = false) (hwc : wC S) (hrn : rng x) (hal3 : S 3 0 (-1) = 1) : vx_Met l yL_left [Cond.codeWith yL_left cL_left 4 (some FieldType.int) [(0, 9, 12, 24)]] ({ frames := 7, cells := 1, slots := 6, locals := 111 }) (va_Pc [.ref (ad 1 0), .int (i32 (x)), .ref (ad 3 1)] (PK g base ad S)) (gQ g base (lhP ad (0 ≤ x ∧ x < S 2 0 0) (True) (True) S (st (S) 3 1 0 (wr (S 2 4 x))))) (xQ g base ad S (fun _ => False)) 1 6 (fun q => base ≤ q) := by
  refine mk_mh (own := RL) (lv0 := [(0, .ref (ad 1 0)), (1, .int (i32 (x))), (2, .ref (ad 3 1))]) (by decide) rfl (Nat.le_of_ble_eq_true rfl) rfl ?_
  intro p e s m below meth cz av Qm hx hb hr hml hown hlocks ht hK hZ hP hQm ls hl
  have hS : va_S (fun q => base ≤ q) s.heap s.heap [] := va_S.rf
  refine lv_aload_n hx hb dL_left_0 rfl (lv_at hl 2 rfl) ?_
  refine lv_iconst (v := i32 (0)) hx hb dL_left_1 rfl ?_
  refine lv_aload_n hx hb dL_left_2 rfl (lv_at hl 0 rfl) ?_
  refine lv_iload_n hx hb dL_left_3 rfl (lv_at hl 1 rfl) ?_
  refine q_callVx (k := 1) (rest := [.int (i32 (0)), .ref (ad 3 1)]) hx hb hml hl.1 hown hK hZ hP hS hwc.h1 rfl rfl rfl (c_X3_left l g base ad S x hfl hwc hrn) t_361 t_362 (q_callB hK 360 34 363 t_360 t_34 t_363 f_yX3_left ⟨by decide, by decide⟩) rfl rfl (Nat.le_of_ble_eq_true rfl) dL_left_4 ⟨by decide, by decide⟩ (fun E ce q9 H locs hE hq9 hv9 hc9 hP hS => ?_) (fun rr ad9 S9 H locs hQ hP hS => ?_)
  · rcases hE with ⟨rfl, h1⟩ | ⟨rfl, h1, h2⟩ | ⟨rfl, h1, h2, h3⟩
    · refine vx_catch (own := RL) (name := eB) hown [] ⟨0, 9, 12, 24⟩ [] ht (fun z hz => nomatch hz) (by decide) (by decide) (hK.b 282 t_282 rfl) (hK.b 293 t_293 rfl) hq9 hv9 hc9 ?_
      refine lv_astore_n (lv' := [(3, .ref q9), (0, .ref (ad 1 0)), (1, .int (i32 (x))), (2, .ref (ad 3 1))]) hx hb dL_left_12 rfl hl (by decide) rfl (fun ls hl => ?_)
      refine lv_iconst (v := i32 1) hx hb dL_left_13 rfl ?_
      subst hQm
      refine vx_ret ?_
      exact q_iret hx hb hr hlocks hP hS ⟨by rw [thr_1 h1], Or.inl ⟨fun y => h1 y.1, rfl, rfl⟩⟩ (by decide) (Nat.le_of_ble_eq_true rfl) dL_left_14
    · exact (h2 trivial).elim
    · exact (h3 trivial).elim
  · obtain ⟨hc, h1, h2, h3⟩ := hQ
    subst h1
    rw [h2] at hP
    have ek : ∀ x q, x < 4 → ad x q = ad x q := fun _ _ _ => rfl
    rw [h3] at hP
    have hal3z : (S) 3 0 (-1) = 1 := by exact hal3
    refine lv_i2l hx hb dL_left_7 (wr_64 _) ?_
    refine p_last (o := 3) (r := 1) (k := 3) (n := 1) (z := 0) (v := wr (S 2 4 x)) hx hb hK hP hS hal3z rfl rfl (by decide) (by decide) (by decide) (by decide) (wr_rng _) dL_left_8 (fun H locs hP hS => ?_)
    refine lv_goto (tgt := 15) hx hb dL_left_9 (by decide) ?_
    refine lv_iconst (v := i32 0) hx hb dL_left_15 rfl ?_
    subst hQm
    refine vx_ret ?_
    exact q_iret hx hb hr hlocks hP hS ⟨by rw [thr_0 hc.1 hc.2.1 hc.2.2], Or.inr ⟨hc, ek, rfl⟩⟩ (by decide) (Nat.le_of_ble_eq_true rfl) dL_left_16

set_option maxHeartbeats 4000000 in
set_option maxRecDepth 100000 in
theorem c_L_loom (l : Launch) (g : GT) (base : Nat) (ad : Nat → Nat → Nat) (S : St) (x n : Int) (mir : Prop) (hfl : l.stackTraces = false) (hwc : wC S) (hrn : rng x) (hrn2 : rng n) (hcf : ∀ j : Nat, S 1 3 j = 1 → (j : Int) < S 1 0 3) (hpf : ∀ j : Nat, S 1 6 j = 1 → (j : Int) < S 1 0 6) (hal3 : S 3 0 (-1) = 1) : vx_Met l yL_loom [Cond.codeWith yL_loom cL_loom 6 (some FieldType.int) [(0, 12, 15, 24), (0, 12, 19, 13), (0, 12, 23, 15)]] ({ frames := 8, cells := 9, slots := 793, locals := 137 }) (va_Pc [.ref (ad 1 0), .int (i32 (x)), .int (i32 (n)), .int (i32 (b2 (mir))), .ref (ad 3 1)] (PK g base ad S)) (gQ g base (lhP ad (ceC S x) (1 ≤ n ∧ n ≤ 4 ∧ n ≤ S (4 + x.toNat) 0 0) (1 ≤ S (4 + x.toNat) 0 1 ∧ S 1 0 6 < 20) S (st (lmS S x n mir) 3 1 0 (wr (S 1 0 6))))) (xQ g base ad S (fun _ => False)) 9 793 (fun q => base ≤ q) := by
  refine mk_mh (own := RL) (lv0 := [(0, .ref (ad 1 0)), (1, .int (i32 (x))), (2, .int (i32 (n))), (3, .int (i32 (b2 (mir)))), (4, .ref (ad 3 1))]) (by decide) rfl (Nat.le_of_ble_eq_true rfl) rfl ?_
  intro p e s m below meth cz av Qm hx hb hr hml hown hlocks ht hK hZ hP hQm ls hl
  have hS : va_S (fun q => base ≤ q) s.heap s.heap [] := va_S.rf
  refine lv_aload hx hb dL_loom_0 (lv_at hl 4 rfl) ?_
  refine lv_iconst (v := i32 (0)) hx hb dL_loom_2 rfl ?_
  refine lv_aload_n hx hb dL_loom_3 rfl (lv_at hl 0 rfl) ?_
  refine lv_iload_n hx hb dL_loom_4 rfl (lv_at hl 1 rfl) ?_
  refine lv_iload_n hx hb dL_loom_5 rfl (lv_at hl 2 rfl) ?_
  refine lv_iload_n hx hb dL_loom_6 rfl (lv_at hl 3 rfl) ?_
  refine q_callVx (k := 1) (rest := [.int (i32 (0)), .ref (ad 3 1)]) hx hb hml hl.1 hown hK hZ hP hS hwc.h1 rfl rfl rfl (c_X3_loom l g base ad S x n mir hfl hwc hrn hrn2 hcf hpf) t_373 t_374 (q_callB hK 372 34 375 t_372 t_34 t_375 f_yX3_loom ⟨by decide, by decide⟩) rfl rfl (Nat.le_of_ble_eq_true rfl) dL_loom_7 ⟨by decide, by decide⟩ (fun E ce q9 H locs hE hq9 hv9 hc9 hP hS => ?_) (fun rr ad9 S9 H locs hQ hP hS => ?_)
  · rcases hE with ⟨rfl, h1⟩ | ⟨rfl, h1, h2⟩ | ⟨rfl, h1, h2, h3⟩
    · refine vx_catch (own := RL) (name := eB) hown [] ⟨0, 12, 15, 24⟩ [⟨0, 12, 19, 13⟩, ⟨0, 12, 23, 15⟩] ht (fun z hz => nomatch hz) (by decide) (by decide) (hK.b 282 t_282 rfl) (hK.b 293 t_293 rfl) hq9 hv9 hc9 ?_
      refine lv_astore (lv' := [(5, .ref q9), (0, .ref (ad 1 0)), (1, .int (i32 (x))), (2, .int (i32 (n))), (3, .int (i32 (b2 (mir)))), (4, .ref (ad 3 1))]) hx hb dL_loom_15 hl (by decide) rfl (fun ls hl => ?_)
      refine lv_iconst (v := i32 1) hx hb dL_loom_17 rfl ?_
      subst hQm
      refine vx_ret ?_
      exact q_iret hx hb hr hlocks hP hS ⟨by rw [thr_1 h1], Or.inl ⟨fun y => h1 y.1, rfl, rfl⟩⟩ (by decide) (Nat.le_of_ble_eq_true rfl) dL_loom_18
    · refine vx_catch (own := RL) (name := eA) hown [⟨0, 12, 15, 24⟩] ⟨0, 12, 19, 13⟩ [⟨0, 12, 23, 15⟩] ht (fun z hz => by rw [List.mem_singleton.mp hz]; exact Or.inr ⟨by decide, eB, hK.b 282 t_282 rfl, hK.2.2.2.2.2.2 (eA, eB) (by decide)⟩) (by decide) (by decide) (hK.b 155 t_155 rfl) (hK.b 166 t_166 rfl) hq9 hv9 hc9 ?_
      refine lv_astore (lv' := [(5, .ref q9), (0, .ref (ad 1 0)), (1, .int (i32 (x))), (2, .int (i32 (n))), (3, .int (i32 (b2 (mir)))), (4, .ref (ad 3 1))]) hx hb dL_loom_19 hl (by decide) rfl (fun ls hl => ?_)
      refine lv_iconst (v := i32 2) hx hb dL_loom_21 rfl ?_
      subst hQm
      refine vx_ret ?_
      exact q_iret hx hb hr hlocks hP hS ⟨by rw [thr_2 h1 h2], Or.inl ⟨fun y => h2 y.2.1, rfl, rfl⟩⟩ (by decide) (Nat.le_of_ble_eq_true rfl) dL_loom_22
    · refine vx_catch (own := RL) (name := eS) hown [⟨0, 12, 15, 24⟩, ⟨0, 12, 19, 13⟩] ⟨0, 12, 23, 15⟩ [] ht (fun z hz => by rcases List.mem_cons.mp hz with h9 | h9; (rw [h9]; exact Or.inr ⟨by decide, eB, hK.b 282 t_282 rfl, hK.2.2.2.2.2.2 (eS, eB) (by decide)⟩); rw [List.mem_singleton.mp h9]; exact Or.inr ⟨by decide, eA, hK.b 155 t_155 rfl, hK.2.2.2.2.2.2 (eS, eA) (by decide)⟩) (by decide) (by decide) (hK.b 156 t_156 rfl) (hK.b 234 t_234 rfl) hq9 hv9 hc9 ?_
      refine lv_astore (lv' := [(5, .ref q9), (0, .ref (ad 1 0)), (1, .int (i32 (x))), (2, .int (i32 (n))), (3, .int (i32 (b2 (mir)))), (4, .ref (ad 3 1))]) hx hb dL_loom_23 hl (by decide) rfl (fun ls hl => ?_)
      refine lv_iconst (v := i32 3) hx hb dL_loom_25 rfl ?_
      subst hQm
      refine vx_ret ?_
      exact q_iret hx hb hr hlocks hP hS ⟨by rw [thr_3 h1 h2 h3], Or.inl ⟨fun y => h3 y.2.2, rfl, rfl⟩⟩ (by decide) (Nat.le_of_ble_eq_true rfl) dL_loom_26
  · obtain ⟨hc, A9, h1, h2, h3⟩ := hQ
    subst h1
    have ek : ∀ x q, x < 4 → ad9 x q = ad x q := fun x q h => by rw [h2]; exact adN_n (by omega)
    clear h2
    have eg : F0 m 10 ls ((some (.int (i32 (S 1 0 6)))).toList ++ [.int (i32 (0)), .ref (ad 3 1)]) = F0 m 10 ls [.int (i32 (S 1 0 6)), .int (i32 0), .ref (ad9 3 1)] := by rw [ek 3 1 (by decide)]; rfl
    refine W.eq eg ?_
    rw [h3] at hP
    have hal3z : (lmS S x n mir) 3 0 (-1) = 1 := by
      unfold lmS
      rw [st_at, if_neg (by omega)]
      rw [st_at, if_neg (by omega)]
      rw [dfF_o (by decide) (by decide), nwS_n (by omega)]
      exact hal3
    refine lv_i2l hx hb dL_loom_10 (wr_64 _) ?_
    refine p_last (o := 3) (r := 1) (k := 3) (n := 1) (z := 0) (v := wr (S 1 0 6)) hx hb hK hP hS hal3z rfl rfl (by decide) (by decide) (by decide) (by decide) (wr_rng _) dL_loom_11 (fun H locs hP hS => ?_)
    refine lv_goto (tgt := 27) hx hb dL_loom_12 (by decide) ?_
    refine lv_iconst (v := i32 0) hx hb dL_loom_27 rfl ?_
    subst hQm
    refine vx_ret ?_
    exact q_iret hx hb hr hlocks hP hS ⟨by rw [thr_0 hc.1 hc.2.1 hc.2.2], Or.inr ⟨hc, ek, rfl⟩⟩ (by decide) (Nat.le_of_ble_eq_true rfl) dL_loom_28

set_option maxHeartbeats 4000000 in
set_option maxRecDepth 100000 in
theorem c_L_weave (l : Launch) (g : GT) (base : Nat) (ad : Nat → Nat → Nat) (S : St) (x w : Int) (hfl : l.stackTraces = false) (hwc : wC S) (hrn : rng x) (hrn2 : rng w) (hal3 : S 3 0 (-1) = 1) : vx_Met l yL_weave [Cond.codeWith yL_weave cL_weave 5 (some FieldType.int) [(0, 10, 13, 24), (0, 10, 17, 15)]] ({ frames := 8, cells := 2, slots := 12, locals := 135 }) (va_Pc [.ref (ad 1 0), .int (i32 (x)), .int (i32 (w)), .ref (ad 3 1)] (PK g base ad S)) (gQ g base (lhP ad (peC S x ∧ (0 ≤ w ∧ w < S (10 + x.toNat) 0 2)) (maC S (10 + x.toNat) w ∧ tsC S (10 + x.toNat) w) (True) S (st (wvS S (10 + x.toNat) w) 3 1 0 (wr (S (10 + x.toNat) 4 w))))) (xQ g base ad S (fun _ => False)) 2 12 (fun q => base ≤ q) := by
  refine mk_mh (own := RL) (lv0 := [(0, .ref (ad 1 0)), (1, .int (i32 (x))), (2, .int (i32 (w))), (3, .ref (ad 3 1))]) (by decide) rfl (Nat.le_of_ble_eq_true rfl) rfl ?_
  intro p e s m below meth cz av Qm hx hb hr hml hown hlocks ht hK hZ hP hQm ls hl
  have hS : va_S (fun q => base ≤ q) s.heap s.heap [] := va_S.rf
  refine lv_aload_n hx hb dL_weave_0 rfl (lv_at hl 3 rfl) ?_
  refine lv_iconst (v := i32 (0)) hx hb dL_weave_1 rfl ?_
  refine lv_aload_n hx hb dL_weave_2 rfl (lv_at hl 0 rfl) ?_
  refine lv_iload_n hx hb dL_weave_3 rfl (lv_at hl 1 rfl) ?_
  refine lv_iload_n hx hb dL_weave_4 rfl (lv_at hl 2 rfl) ?_
  refine q_callVx (k := 1) (rest := [.int (i32 (0)), .ref (ad 3 1)]) hx hb hml hl.1 hown hK hZ hP hS hwc.h1 rfl rfl rfl (c_X3_weave l g base ad S x w hfl hwc hrn hrn2) t_436 t_437 (q_callB hK 435 34 438 t_435 t_34 t_438 f_yX3_weave ⟨by decide, by decide⟩) rfl rfl (Nat.le_of_ble_eq_true rfl) dL_weave_5 ⟨by decide, by decide⟩ (fun E ce q9 H locs hE hq9 hv9 hc9 hP hS => ?_) (fun rr ad9 S9 H locs hQ hP hS => ?_)
  · rcases hE with ⟨rfl, h1⟩ | ⟨rfl, h1, h2⟩ | ⟨rfl, h1, h2, h3⟩
    · refine vx_catch (own := RL) (name := eB) hown [] ⟨0, 10, 13, 24⟩ [⟨0, 10, 17, 15⟩] ht (fun z hz => nomatch hz) (by decide) (by decide) (hK.b 282 t_282 rfl) (hK.b 293 t_293 rfl) hq9 hv9 hc9 ?_
      refine lv_astore (lv' := [(4, .ref q9), (0, .ref (ad 1 0)), (1, .int (i32 (x))), (2, .int (i32 (w))), (3, .ref (ad 3 1))]) hx hb dL_weave_13 hl (by decide) rfl (fun ls hl => ?_)
      refine lv_iconst (v := i32 1) hx hb dL_weave_15 rfl ?_
      subst hQm
      refine vx_ret ?_
      exact q_iret hx hb hr hlocks hP hS ⟨by rw [thr_1 h1], Or.inl ⟨fun y => h1 y.1, rfl, rfl⟩⟩ (by decide) (Nat.le_of_ble_eq_true rfl) dL_weave_16
    · refine vx_catch (own := RL) (name := eS) hown [⟨0, 10, 13, 24⟩] ⟨0, 10, 17, 15⟩ [] ht (fun z hz => by rw [List.mem_singleton.mp hz]; exact Or.inr ⟨by decide, eB, hK.b 282 t_282 rfl, hK.2.2.2.2.2.2 (eS, eB) (by decide)⟩) (by decide) (by decide) (hK.b 156 t_156 rfl) (hK.b 234 t_234 rfl) hq9 hv9 hc9 ?_
      refine lv_astore (lv' := [(4, .ref q9), (0, .ref (ad 1 0)), (1, .int (i32 (x))), (2, .int (i32 (w))), (3, .ref (ad 3 1))]) hx hb dL_weave_17 hl (by decide) rfl (fun ls hl => ?_)
      refine lv_iconst (v := i32 2) hx hb dL_weave_19 rfl ?_
      subst hQm
      refine vx_ret ?_
      exact q_iret hx hb hr hlocks hP hS ⟨by rw [thr_2 h1 h2], Or.inl ⟨fun y => h2 y.2.1, rfl, rfl⟩⟩ (by decide) (Nat.le_of_ble_eq_true rfl) dL_weave_20
    · exact (h3 trivial).elim
  · obtain ⟨hc, h1, h2, h3⟩ := hQ
    subst h1
    rw [h2] at hP
    have ek : ∀ x q, x < 4 → ad x q = ad x q := fun _ _ _ => rfl
    rw [h3] at hP
    have hal3z : (wvS S (10 + x.toNat) w) 3 0 (-1) = 1 := by
      unfold wvS
      rw [st_at, if_neg (by omega)]
      rw [wrI_o (by decide) (by decide) (by decide)]
      exact hal3
    refine lv_i2l hx hb dL_weave_8 (wr_64 _) ?_
    refine p_last (o := 3) (r := 1) (k := 3) (n := 1) (z := 0) (v := wr (S (10 + x.toNat) 4 w)) hx hb hK hP hS hal3z rfl rfl (by decide) (by decide) (by decide) (by decide) (wr_rng _) dL_weave_9 (fun H locs hP hS => ?_)
    refine lv_goto (tgt := 21) hx hb dL_weave_10 (by decide) ?_
    refine lv_iconst (v := i32 0) hx hb dL_weave_21 rfl ?_
    subst hQm
    refine vx_ret ?_
    exact q_iret hx hb hr hlocks hP hS ⟨by rw [thr_0 hc.1 hc.2.1 hc.2.2], Or.inr ⟨hc, ek, rfl⟩⟩ (by decide) (Nat.le_of_ble_eq_true rfl) dL_weave_22

set_option maxHeartbeats 4000000 in
set_option maxRecDepth 100000 in
theorem c_L_pieceIs (l : Launch) (g : GT) (base : Nat) (ad : Nat → Nat → Nat) (S : St) (x w : Int) (hfl : l.stackTraces = false) (hwc : wC S) (hrn : rng x) (hrn2 : rng w) (hal3 : S 3 0 (-1) = 1) : vx_Met l yL_pieceIs [Cond.codeWith yL_pieceIs cL_pieceIs 5 (some FieldType.int) [(0, 10, 13, 24), (0, 10, 17, 13)]] ({ frames := 8, cells := 2, slots := 12, locals := 135 }) (va_Pc [.ref (ad 1 0), .int (i32 (x)), .int (i32 (w)), .ref (ad 3 1)] (PK g base ad S)) (gQ g base (lhP ad (peC S x) (0 ≤ w ∧ w < 6) (True) S (st (S) 3 1 0 (wr (pcC S (10 + x.toNat) w))))) (xQ g base ad S (fun _ => False)) 2 12 (fun q => base ≤ q) := by
  refine mk_mh (own := RL) (lv0 := [(0, .ref (ad 1 0)), (1, .int (i32 (x))), (2, .int (i32 (w))), (3, .ref (ad 3 1))]) (by decide) rfl (Nat.le_of_ble_eq_true rfl) rfl ?_
  intro p e s m below meth cz av Qm hx hb hr hml hown hlocks ht hK hZ hP hQm ls hl
  have hS : va_S (fun q => base ≤ q) s.heap s.heap [] := va_S.rf
  refine lv_aload_n hx hb dL_pieceIs_0 rfl (lv_at hl 3 rfl) ?_
  refine lv_iconst (v := i32 (0)) hx hb dL_pieceIs_1 rfl ?_
  refine lv_aload_n hx hb dL_pieceIs_2 rfl (lv_at hl 0 rfl) ?_
  refine lv_iload_n hx hb dL_pieceIs_3 rfl (lv_at hl 1 rfl) ?_
  refine lv_iload_n hx hb dL_pieceIs_4 rfl (lv_at hl 2 rfl) ?_
  refine q_callVx (k := 1) (rest := [.int (i32 (0)), .ref (ad 3 1)]) hx hb hml hl.1 hown hK hZ hP hS hwc.h1 rfl rfl rfl (c_X3_pieceIs l g base ad S x w hfl hwc hrn hrn2) t_489 t_490 (q_callB hK 488 34 491 t_488 t_34 t_491 f_yX3_pieceIs ⟨by decide, by decide⟩) rfl rfl (Nat.le_of_ble_eq_true rfl) dL_pieceIs_5 ⟨by decide, by decide⟩ (fun E ce q9 H locs hE hq9 hv9 hc9 hP hS => ?_) (fun rr ad9 S9 H locs hQ hP hS => ?_)
  · rcases hE with ⟨rfl, h1⟩ | ⟨rfl, h1, h2⟩ | ⟨rfl, h1, h2, h3⟩
    · refine vx_catch (own := RL) (name := eB) hown [] ⟨0, 10, 13, 24⟩ [⟨0, 10, 17, 13⟩] ht (fun z hz => nomatch hz) (by decide) (by decide) (hK.b 282 t_282 rfl) (hK.b 293 t_293 rfl) hq9 hv9 hc9 ?_
      refine lv_astore (lv' := [(4, .ref q9), (0, .ref (ad 1 0)), (1, .int (i32 (x))), (2, .int (i32 (w))), (3, .ref (ad 3 1))]) hx hb dL_pieceIs_13 hl (by decide) rfl (fun ls hl => ?_)
      refine lv_iconst (v := i32 1) hx hb dL_pieceIs_15 rfl ?_
      subst hQm
      refine vx_ret ?_
      exact q_iret hx hb hr hlocks hP hS ⟨by rw [thr_1 h1], Or.inl ⟨fun y => h1 y.1, rfl, rfl⟩⟩ (by decide) (Nat.le_of_ble_eq_true rfl) dL_pieceIs_16
    · refine vx_catch (own := RL) (name := eA) hown [⟨0, 10, 13, 24⟩] ⟨0, 10, 17, 13⟩ [] ht (fun z hz => by rw [List.mem_singleton.mp hz]; exact Or.inr ⟨by decide, eB, hK.b 282 t_282 rfl, hK.2.2.2.2.2.2 (eA, eB) (by decide)⟩) (by decide) (by decide) (hK.b 155 t_155 rfl) (hK.b 166 t_166 rfl) hq9 hv9 hc9 ?_
      refine lv_astore (lv' := [(4, .ref q9), (0, .ref (ad 1 0)), (1, .int (i32 (x))), (2, .int (i32 (w))), (3, .ref (ad 3 1))]) hx hb dL_pieceIs_17 hl (by decide) rfl (fun ls hl => ?_)
      refine lv_iconst (v := i32 2) hx hb dL_pieceIs_19 rfl ?_
      subst hQm
      refine vx_ret ?_
      exact q_iret hx hb hr hlocks hP hS ⟨by rw [thr_2 h1 h2], Or.inl ⟨fun y => h2 y.2.1, rfl, rfl⟩⟩ (by decide) (Nat.le_of_ble_eq_true rfl) dL_pieceIs_20
    · exact (h3 trivial).elim
  · obtain ⟨hc, h1, h2, h3⟩ := hQ
    subst h1
    rw [h2] at hP
    have ek : ∀ x q, x < 4 → ad x q = ad x q := fun _ _ _ => rfl
    rw [h3] at hP
    have hal3z : (S) 3 0 (-1) = 1 := by exact hal3
    refine lv_i2l hx hb dL_pieceIs_8 (wr_64 _) ?_
    refine p_last (o := 3) (r := 1) (k := 3) (n := 1) (z := 0) (v := wr (pcC S (10 + x.toNat) w)) hx hb hK hP hS hal3z rfl rfl (by decide) (by decide) (by decide) (by decide) (wr_rng _) dL_pieceIs_9 (fun H locs hP hS => ?_)
    refine lv_goto (tgt := 21) hx hb dL_pieceIs_10 (by decide) ?_
    refine lv_iconst (v := i32 0) hx hb dL_pieceIs_21 rfl ?_
    subst hQm
    refine vx_ret ?_
    exact q_iret hx hb hr hlocks hP hS ⟨by rw [thr_0 hc.1 hc.2.1 hc.2.2], Or.inr ⟨hc, ek, rfl⟩⟩ (by decide) (Nat.le_of_ble_eq_true rfl) dL_pieceIs_22

set_option maxHeartbeats 4000000 in
set_option maxRecDepth 100000 in
theorem c_L_cell (l : Launch) (g : GT) (base : Nat) (ad : Nat → Nat → Nat) (S : St) (x r c w : Int) (hfl : l.stackTraces = false) (hwc : wC S) (hrn : rng x) (hrn2 : rng r) (hrn3 : rng c) (hrn4 : rng w) (hal3 : S 3 0 (-1) = 1) : vx_Met l yL_cell [Cond.codeWith yL_cell cL_cell 7 (some FieldType.int) [(0, 14, 17, 24), (0, 14, 21, 13)]] ({ frames := 8, cells := 2, slots := 12, locals := 137 }) (va_Pc [.ref (ad 1 0), .int (i32 (x)), .int (i32 (r)), .int (i32 (c)), .int (i32 (w)), .ref (ad 3 1)] (PK g base ad S)) (gQ g base (lhP ad (peC S x ∧ (0 ≤ r ∧ r < S (10 + x.toNat) 0 1 ∧ 0 ≤ c ∧ c < S (10 + x.toNat) 0 0)) (0 ≤ w ∧ w < 3) (True) S (st (S) 3 1 0 (wr (ceF S (10 + x.toNat) r c w))))) (xQ g base ad S (fun _ => False)) 2 12 (fun q => base ≤ q) := by
  refine mk_mh (own := RL) (lv0 := [(0, .ref (ad 1 0)), (1, .int (i32 (x))), (2, .int (i32 (r))), (3, .int (i32 (c))), (4, .int (i32 (w))), (5, .ref (ad 3 1))]) (by decide) rfl (Nat.le_of_ble_eq_true rfl) rfl ?_
  intro p e s m below meth cz av Qm hx hb hr hml hown hlocks ht hK hZ hP hQm ls hl
  have hS : va_S (fun q => base ≤ q) s.heap s.heap [] := va_S.rf
  refine lv_aload hx hb dL_cell_0 (lv_at hl 5 rfl) ?_
  refine lv_iconst (v := i32 (0)) hx hb dL_cell_2 rfl ?_
  refine lv_aload_n hx hb dL_cell_3 rfl (lv_at hl 0 rfl) ?_
  refine lv_iload_n hx hb dL_cell_4 rfl (lv_at hl 1 rfl) ?_
  refine lv_iload_n hx hb dL_cell_5 rfl (lv_at hl 2 rfl) ?_
  refine lv_iload_n hx hb dL_cell_6 rfl (lv_at hl 3 rfl) ?_
  refine lv_iload hx hb dL_cell_7 (lv_at hl 4 rfl) ?_
  refine q_callVx (k := 1) (rest := [.int (i32 (0)), .ref (ad 3 1)]) hx hb hml hl.1 hown hK hZ hP hS hwc.h1 rfl rfl rfl (c_X3_cell l g base ad S x r c w hfl hwc hrn hrn2 hrn3 hrn4) t_541 t_542 (q_callB hK 540 34 543 t_540 t_34 t_543 f_yX3_cell ⟨by decide, by decide⟩) rfl rfl (Nat.le_of_ble_eq_true rfl) dL_cell_9 ⟨by decide, by decide⟩ (fun E ce q9 H locs hE hq9 hv9 hc9 hP hS => ?_) (fun rr ad9 S9 H locs hQ hP hS => ?_)
  · rcases hE with ⟨rfl, h1⟩ | ⟨rfl, h1, h2⟩ | ⟨rfl, h1, h2, h3⟩
    · refine vx_catch (own := RL) (name := eB) hown [] ⟨0, 14, 17, 24⟩ [⟨0, 14, 21, 13⟩] ht (fun z hz => nomatch hz) (by decide) (by decide) (hK.b 282 t_282 rfl) (hK.b 293 t_293 rfl) hq9 hv9 hc9 ?_
      refine lv_astore (lv' := [(6, .ref q9), (0, .ref (ad 1 0)), (1, .int (i32 (x))), (2, .int (i32 (r))), (3, .int (i32 (c))), (4, .int (i32 (w))), (5, .ref (ad 3 1))]) hx hb dL_cell_17 hl (by decide) rfl (fun ls hl => ?_)
      refine lv_iconst (v := i32 1) hx hb dL_cell_19 rfl ?_
      subst hQm
      refine vx_ret ?_
      exact q_iret hx hb hr hlocks hP hS ⟨by rw [thr_1 h1], Or.inl ⟨fun y => h1 y.1, rfl, rfl⟩⟩ (by decide) (Nat.le_of_ble_eq_true rfl) dL_cell_20
    · refine vx_catch (own := RL) (name := eA) hown [⟨0, 14, 17, 24⟩] ⟨0, 14, 21, 13⟩ [] ht (fun z hz => by rw [List.mem_singleton.mp hz]; exact Or.inr ⟨by decide, eB, hK.b 282 t_282 rfl, hK.2.2.2.2.2.2 (eA, eB) (by decide)⟩) (by decide) (by decide) (hK.b 155 t_155 rfl) (hK.b 166 t_166 rfl) hq9 hv9 hc9 ?_
      refine lv_astore (lv' := [(6, .ref q9), (0, .ref (ad 1 0)), (1, .int (i32 (x))), (2, .int (i32 (r))), (3, .int (i32 (c))), (4, .int (i32 (w))), (5, .ref (ad 3 1))]) hx hb dL_cell_21 hl (by decide) rfl (fun ls hl => ?_)
      refine lv_iconst (v := i32 2) hx hb dL_cell_23 rfl ?_
      subst hQm
      refine vx_ret ?_
      exact q_iret hx hb hr hlocks hP hS ⟨by rw [thr_2 h1 h2], Or.inl ⟨fun y => h2 y.2.1, rfl, rfl⟩⟩ (by decide) (Nat.le_of_ble_eq_true rfl) dL_cell_24
    · exact (h3 trivial).elim
  · obtain ⟨hc, h1, h2, h3⟩ := hQ
    subst h1
    rw [h2] at hP
    have ek : ∀ x q, x < 4 → ad x q = ad x q := fun _ _ _ => rfl
    rw [h3] at hP
    have hal3z : (S) 3 0 (-1) = 1 := by exact hal3
    refine lv_i2l hx hb dL_cell_12 (wr_64 _) ?_
    refine p_last (o := 3) (r := 1) (k := 3) (n := 1) (z := 0) (v := wr (ceF S (10 + x.toNat) r c w)) hx hb hK hP hS hal3z rfl rfl (by decide) (by decide) (by decide) (by decide) (wr_rng _) dL_cell_13 (fun H locs hP hS => ?_)
    refine lv_goto (tgt := 25) hx hb dL_cell_14 (by decide) ?_
    refine lv_iconst (v := i32 0) hx hb dL_cell_25 rfl ?_
    subst hQm
    refine vx_ret ?_
    exact q_iret hx hb hr hlocks hP hS ⟨by rw [thr_0 hc.1 hc.2.1 hc.2.2], Or.inr ⟨hc, ek, rfl⟩⟩ (by decide) (Nat.le_of_ble_eq_true rfl) dL_cell_26

set_option maxHeartbeats 4000000 in
set_option maxRecDepth 100000 in
theorem c_L_sew (l : Launch) (g : GT) (base : Nat) (ad : Nat → Nat → Nat) (S : St) (x q : Int) (hfl : l.stackTraces = false) (hwc : wC S) (hrn : rng x) (hrn2 : rng q) (hal3 : S 3 0 (-1) = 1) : vx_Met l yL_sew [Cond.codeWith yL_sew cL_sew 5 (some FieldType.int) [(0, 17, 20, 24), (0, 17, 24, 15)]] ({ frames := 8, cells := 3, slots := 18, locals := 136 }) (va_Pc [.ref (ad 1 0), .int (i32 (x)), .int (i32 (q)), .ref (ad 3 1)] (PK g base ad S)) (gQ g base (lhP ad (peC S x ∧ (1 ≤ q ∧ q < S (10 + x.toNat) 0 0)) (dnC S (10 + x.toNat)) (True) S (st (st S (10 + x.toNat) 9 q 1) 3 1 0 (b2 (slC S (10 + x.toNat) q))))) (xQ g base ad S (fun _ => False)) 3 18 (fun q => base ≤ q) := by
  refine mk_mh (own := RL) (lv0 := [(0, .ref (ad 1 0)), (1, .int (i32 (x))), (2, .int (i32 (q))), (3, .ref (ad 3 1))]) (by decide) rfl (Nat.le_of_ble_eq_true rfl) rfl ?_
  intro p e s m below meth cz av Qm hx hb hr hml hown hlocks ht hK hZ hP hQm ls hl
  have hS : va_S (fun q => base ≤ q) s.heap s.heap [] := va_S.rf
  refine lv_aload_n hx hb dL_sew_0 rfl (lv_at hl 3 rfl) ?_
  refine lv_iconst (v := i32 (0)) hx hb dL_sew_1 rfl ?_
  refine lv_aload_n hx hb dL_sew_2 rfl (lv_at hl 0 rfl) ?_
  refine lv_iload_n hx hb dL_sew_3 rfl (lv_at hl 1 rfl) ?_
  refine lv_iload_n hx hb dL_sew_4 rfl (lv_at hl 2 rfl) ?_
  refine q_callVx (k := 1) (rest := [.int (i32 (0)), .ref (ad 3 1)]) hx hb hml hl.1 hown hK hZ hP hS hwc.h1 rfl rfl rfl (c_X3_sew l g base ad S x q hfl hwc hrn hrn2) t_557 t_558 (q_callB hK 556 34 559 t_556 t_34 t_559 f_yX3_sew ⟨by decide, by decide⟩) rfl rfl (Nat.le_of_ble_eq_true rfl) dL_sew_5 ⟨by decide, by decide⟩ (fun E ce q9 H locs hE hq9 hv9 hc9 hP hS => ?_) (fun rr ad9 S9 H locs hQ hP hS => ?_)
  · rcases hE with ⟨rfl, h1⟩ | ⟨rfl, h1, h2⟩ | ⟨rfl, h1, h2, h3⟩
    · refine vx_catch (own := RL) (name := eB) hown [] ⟨0, 17, 20, 24⟩ [⟨0, 17, 24, 15⟩] ht (fun z hz => nomatch hz) (by decide) (by decide) (hK.b 282 t_282 rfl) (hK.b 293 t_293 rfl) hq9 hv9 hc9 ?_
      refine lv_astore (lv' := [(4, .ref q9), (0, .ref (ad 1 0)), (1, .int (i32 (x))), (2, .int (i32 (q))), (3, .ref (ad 3 1))]) hx hb dL_sew_20 hl (by decide) rfl (fun ls hl => ?_)
      refine lv_iconst (v := i32 1) hx hb dL_sew_22 rfl ?_
      subst hQm
      refine vx_ret ?_
      exact q_iret hx hb hr hlocks hP hS ⟨by rw [thr_1 h1], Or.inl ⟨fun y => h1 y.1, rfl, rfl⟩⟩ (by decide) (Nat.le_of_ble_eq_true rfl) dL_sew_23
    · refine vx_catch (own := RL) (name := eS) hown [⟨0, 17, 20, 24⟩] ⟨0, 17, 24, 15⟩ [] ht (fun z hz => by rw [List.mem_singleton.mp hz]; exact Or.inr ⟨by decide, eB, hK.b 282 t_282 rfl, hK.2.2.2.2.2.2 (eS, eB) (by decide)⟩) (by decide) (by decide) (hK.b 156 t_156 rfl) (hK.b 234 t_234 rfl) hq9 hv9 hc9 ?_
      refine lv_astore (lv' := [(4, .ref q9), (0, .ref (ad 1 0)), (1, .int (i32 (x))), (2, .int (i32 (q))), (3, .ref (ad 3 1))]) hx hb dL_sew_24 hl (by decide) rfl (fun ls hl => ?_)
      refine lv_iconst (v := i32 2) hx hb dL_sew_26 rfl ?_
      subst hQm
      refine vx_ret ?_
      exact q_iret hx hb hr hlocks hP hS ⟨by rw [thr_2 h1 h2], Or.inl ⟨fun y => h2 y.2.1, rfl, rfl⟩⟩ (by decide) (Nat.le_of_ble_eq_true rfl) dL_sew_27
    · exact (h3 trivial).elim
  · obtain ⟨hc, h1, h2, h3⟩ := hQ
    subst h1
    rw [h2] at hP
    have ek : ∀ x q, x < 4 → ad x q = ad x q := fun _ _ _ => rfl
    rw [h3] at hP
    have hal3z : (st S (10 + x.toNat) 9 q 1) 3 0 (-1) = 1 := by
      rw [st_at, if_neg (by omega)]
      exact hal3
    refine q_if_eqb (tgt := 15) hx hb dL_sew_8 (by decide) (fun h9 => ?_) (fun h9 => ?_)
    · refine lv_lconst (v := i64 0) hx hb dL_sew_15 rfl ?_
      refine p_last (o := 3) (r := 1) (k := 3) (n := 1) (z := 0) (v := 0) hx hb hK hP hS hal3z rfl rfl (by decide) (by decide) (by decide) (by decide) ⟨by decide, by decide⟩ dL_sew_16 (fun H locs hP hS => ?_)
      refine lv_goto (tgt := 28) hx hb dL_sew_17 (by decide) ?_
      refine lv_iconst (v := i32 0) hx hb dL_sew_28 rfl ?_
      subst hQm
      refine vx_ret ?_
      exact q_iret hx hb hr hlocks hP hS ⟨by rw [thr_0 hc.1 hc.2.1 hc.2.2], Or.inr ⟨hc, ek, by rw [b2_f h9]⟩⟩ (by decide) (Nat.le_of_ble_eq_true rfl) dL_sew_29
    · refine lv_lconst (v := i64 1) hx hb dL_sew_11 rfl ?_
      refine lv_goto (tgt := 16) hx hb dL_sew_12 (by decide) ?_
      refine p_last (o := 3) (r := 1) (k := 3) (n := 1) (z := 0) (v := 1) hx hb hK hP hS hal3z rfl rfl (by decide) (by decide) (by decide) (by decide) ⟨by decide, by decide⟩ dL_sew_16 (fun H locs hP hS => ?_)
      refine lv_goto (tgt := 28) hx hb dL_sew_17 (by decide) ?_
      refine lv_iconst (v := i32 0) hx hb dL_sew_28 rfl ?_
      subst hQm
      refine vx_ret ?_
      exact q_iret hx hb hr hlocks hP hS ⟨by rw [thr_0 hc.1 hc.2.1 hc.2.2], Or.inr ⟨hc, ek, by rw [b2_t h9]⟩⟩ (by decide) (Nat.le_of_ble_eq_true rfl) dL_sew_29

set_option maxHeartbeats 4000000 in
set_option maxRecDepth 100000 in
theorem c_L_light (l : Launch) (g : GT) (base : Nat) (ad : Nat → Nat → Nat) (S : St) (x t : Int) (hfl : l.stackTraces = false) (hwc : wC S) (hrn : rng x) (hrn2 : rng t) (hal3 : S 3 0 (-1) = 1) : vx_Met l yL_light [Cond.codeWith yL_light cL_light 5 (some FieldType.int) [(0, 10, 13, 24), (0, 10, 17, 13), (0, 10, 21, 15)]] ({ frames := 8, cells := 2, slots := 12, locals := 135 }) (va_Pc [.ref (ad 1 0), .int (i32 (x)), .int (i32 (t)), .ref (ad 3 1)] (PK g base ad S)) (gQ g base (lhP ad (peC S x) (1 ≤ t ∧ t ≤ 9999) (dnC S (10 + x.toNat)) S (st (ltS S (10 + x.toNat) t) 3 1 0 (wr (shC (ltS S (10 + x.toNat) t) (10 + x.toNat)))))) (xQ g base ad S (fun _ => False)) 2 12 (fun q => base ≤ q) := by
  refine mk_mh (own := RL) (lv0 := [(0, .ref (ad 1 0)), (1, .int (i32 (x))), (2, .int (i32 (t))), (3, .ref (ad 3 1))]) (by decide) rfl (Nat.le_of_ble_eq_true rfl) rfl ?_
  intro p e s m below meth cz av Qm hx hb hr hml hown hlocks ht hK hZ hP hQm ls hl
  have hS : va_S (fun q => base ≤ q) s.heap s.heap [] := va_S.rf
  refine lv_aload_n hx hb dL_light_0 rfl (lv_at hl 3 rfl) ?_
  refine lv_iconst (v := i32 (0)) hx hb dL_light_1 rfl ?_
  refine lv_aload_n hx hb dL_light_2 rfl (lv_at hl 0 rfl) ?_
  refine lv_iload_n hx hb dL_light_3 rfl (lv_at hl 1 rfl) ?_
  refine lv_iload_n hx hb dL_light_4 rfl (lv_at hl 2 rfl) ?_
  refine q_callVx (k := 1) (rest := [.int (i32 (0)), .ref (ad 3 1)]) hx hb hml hl.1 hown hK hZ hP hS hwc.h1 rfl rfl rfl (c_X3_light l g base ad S x t hfl hwc hrn hrn2) t_581 t_582 (q_callB hK 580 34 583 t_580 t_34 t_583 f_yX3_light ⟨by decide, by decide⟩) rfl rfl (Nat.le_of_ble_eq_true rfl) dL_light_5 ⟨by decide, by decide⟩ (fun E ce q9 H locs hE hq9 hv9 hc9 hP hS => ?_) (fun rr ad9 S9 H locs hQ hP hS => ?_)
  · rcases hE with ⟨rfl, h1⟩ | ⟨rfl, h1, h2⟩ | ⟨rfl, h1, h2, h3⟩
    · refine vx_catch (own := RL) (name := eB) hown [] ⟨0, 10, 13, 24⟩ [⟨0, 10, 17, 13⟩, ⟨0, 10, 21, 15⟩] ht (fun z hz => nomatch hz) (by decide) (by decide) (hK.b 282 t_282 rfl) (hK.b 293 t_293 rfl) hq9 hv9 hc9 ?_
      refine lv_astore (lv' := [(4, .ref q9), (0, .ref (ad 1 0)), (1, .int (i32 (x))), (2, .int (i32 (t))), (3, .ref (ad 3 1))]) hx hb dL_light_13 hl (by decide) rfl (fun ls hl => ?_)
      refine lv_iconst (v := i32 1) hx hb dL_light_15 rfl ?_
      subst hQm
      refine vx_ret ?_
      exact q_iret hx hb hr hlocks hP hS ⟨by rw [thr_1 h1], Or.inl ⟨fun y => h1 y.1, rfl, rfl⟩⟩ (by decide) (Nat.le_of_ble_eq_true rfl) dL_light_16
    · refine vx_catch (own := RL) (name := eA) hown [⟨0, 10, 13, 24⟩] ⟨0, 10, 17, 13⟩ [⟨0, 10, 21, 15⟩] ht (fun z hz => by rw [List.mem_singleton.mp hz]; exact Or.inr ⟨by decide, eB, hK.b 282 t_282 rfl, hK.2.2.2.2.2.2 (eA, eB) (by decide)⟩) (by decide) (by decide) (hK.b 155 t_155 rfl) (hK.b 166 t_166 rfl) hq9 hv9 hc9 ?_
      refine lv_astore (lv' := [(4, .ref q9), (0, .ref (ad 1 0)), (1, .int (i32 (x))), (2, .int (i32 (t))), (3, .ref (ad 3 1))]) hx hb dL_light_17 hl (by decide) rfl (fun ls hl => ?_)
      refine lv_iconst (v := i32 2) hx hb dL_light_19 rfl ?_
      subst hQm
      refine vx_ret ?_
      exact q_iret hx hb hr hlocks hP hS ⟨by rw [thr_2 h1 h2], Or.inl ⟨fun y => h2 y.2.1, rfl, rfl⟩⟩ (by decide) (Nat.le_of_ble_eq_true rfl) dL_light_20
    · refine vx_catch (own := RL) (name := eS) hown [⟨0, 10, 13, 24⟩, ⟨0, 10, 17, 13⟩] ⟨0, 10, 21, 15⟩ [] ht (fun z hz => by rcases List.mem_cons.mp hz with h9 | h9; (rw [h9]; exact Or.inr ⟨by decide, eB, hK.b 282 t_282 rfl, hK.2.2.2.2.2.2 (eS, eB) (by decide)⟩); rw [List.mem_singleton.mp h9]; exact Or.inr ⟨by decide, eA, hK.b 155 t_155 rfl, hK.2.2.2.2.2.2 (eS, eA) (by decide)⟩) (by decide) (by decide) (hK.b 156 t_156 rfl) (hK.b 234 t_234 rfl) hq9 hv9 hc9 ?_
      refine lv_astore (lv' := [(4, .ref q9), (0, .ref (ad 1 0)), (1, .int (i32 (x))), (2, .int (i32 (t))), (3, .ref (ad 3 1))]) hx hb dL_light_21 hl (by decide) rfl (fun ls hl => ?_)
      refine lv_iconst (v := i32 3) hx hb dL_light_23 rfl ?_
      subst hQm
      refine vx_ret ?_
      exact q_iret hx hb hr hlocks hP hS ⟨by rw [thr_3 h1 h2 h3], Or.inl ⟨fun y => h3 y.2.2, rfl, rfl⟩⟩ (by decide) (Nat.le_of_ble_eq_true rfl) dL_light_24
  · obtain ⟨hc, h1, h2, h3⟩ := hQ
    subst h1
    rw [h2] at hP
    have ek : ∀ x q, x < 4 → ad x q = ad x q := fun _ _ _ => rfl
    rw [h3] at hP
    have hal3z : (ltS S (10 + x.toNat) t) 3 0 (-1) = 1 := by
      unfold ltS
      rw [clF_o (by decide)]
      exact hal3
    refine lv_i2l hx hb dL_light_8 (wr_64 _) ?_
    refine p_last (o := 3) (r := 1) (k := 3) (n := 1) (z := 0) (v := wr (shC (ltS S (10 + x.toNat) t) (10 + x.toNat))) hx hb hK hP hS hal3z rfl rfl (by decide) (by decide) (by decide) (by decide) (wr_rng _) dL_light_9 (fun H locs hP hS => ?_)
    refine lv_goto (tgt := 25) hx hb dL_light_10 (by decide) ?_
    refine lv_iconst (v := i32 0) hx hb dL_light_25 rfl ?_
    subst hQm
    refine vx_ret ?_
    exact q_iret hx hb hr hlocks hP hS ⟨by rw [thr_0 hc.1 hc.2.1 hc.2.2], Or.inr ⟨hc, ek, rfl⟩⟩ (by decide) (Nat.le_of_ble_eq_true rfl) dL_light_26

set_option maxHeartbeats 4000000 in
set_option maxRecDepth 100000 in
theorem c_L_wash (l : Launch) (g : GT) (base : Nat) (ad : Nat → Nat → Nat) (S : St) (x : Int) (hfl : l.stackTraces = false) (hwc : wC S) (hrn : rng x) (hal3 : S 3 0 (-1) = 1) : vx_Met l yL_wash [Cond.codeWith yL_wash cL_wash 4 (some FieldType.int) [(0, 9, 12, 24), (0, 9, 15, 15)]] ({ frames := 8, cells := 2, slots := 12, locals := 135 }) (va_Pc [.ref (ad 1 0), .int (i32 (x)), .ref (ad 3 1)] (PK g base ad S)) (gQ g base (lhP ad (peC S x) (dnC S (10 + x.toNat)) (True) S (st (waS S (10 + x.toNat)) 3 1 0 (wr (shC (waS S (10 + x.toNat)) (10 + x.toNat)))))) (xQ g base ad S (fun _ => False)) 2 12 (fun q => base ≤ q) := by
  refine mk_mh (own := RL) (lv0 := [(0, .ref (ad 1 0)), (1, .int (i32 (x))), (2, .ref (ad 3 1))]) (by decide) rfl (Nat.le_of_ble_eq_true rfl) rfl ?_
  intro p e s m below meth cz av Qm hx hb hr hml hown hlocks ht hK hZ hP hQm ls hl
  have hS : va_S (fun q => base ≤ q) s.heap s.heap [] := va_S.rf
  refine lv_aload_n hx hb dL_wash_0 rfl (lv_at hl 2 rfl) ?_
  refine lv_iconst (v := i32 (0)) hx hb dL_wash_1 rfl ?_
  refine lv_aload_n hx hb dL_wash_2 rfl (lv_at hl 0 rfl) ?_
  refine lv_iload_n hx hb dL_wash_3 rfl (lv_at hl 1 rfl) ?_
  refine q_callVx (k := 1) (rest := [.int (i32 (0)), .ref (ad 3 1)]) hx hb hml hl.1 hown hK hZ hP hS hwc.h1 rfl rfl rfl (c_X3_wash l g base ad S x hfl hwc hrn) t_601 t_602 (q_callB hK 600 34 603 t_600 t_34 t_603 f_yX3_wash ⟨by decide, by decide⟩) rfl rfl (Nat.le_of_ble_eq_true rfl) dL_wash_4 ⟨by decide, by decide⟩ (fun E ce q9 H locs hE hq9 hv9 hc9 hP hS => ?_) (fun rr ad9 S9 H locs hQ hP hS => ?_)
  · rcases hE with ⟨rfl, h1⟩ | ⟨rfl, h1, h2⟩ | ⟨rfl, h1, h2, h3⟩
    · refine vx_catch (own := RL) (name := eB) hown [] ⟨0, 9, 12, 24⟩ [⟨0, 9, 15, 15⟩] ht (fun z hz => nomatch hz) (by decide) (by decide) (hK.b 282 t_282 rfl) (hK.b 293 t_293 rfl) hq9 hv9 hc9 ?_
      refine lv_astore_n (lv' := [(3, .ref q9), (0, .ref (ad 1 0)), (1, .int (i32 (x))), (2, .ref (ad 3 1))]) hx hb dL_wash_12 rfl hl (by decide) rfl (fun ls hl => ?_)
      refine lv_iconst (v := i32 1) hx hb dL_wash_13 rfl ?_
      subst hQm
      refine vx_ret ?_
      exact q_iret hx hb hr hlocks hP hS ⟨by rw [thr_1 h1], Or.inl ⟨fun y => h1 y.1, rfl, rfl⟩⟩ (by decide) (Nat.le_of_ble_eq_true rfl) dL_wash_14
    · refine vx_catch (own := RL) (name := eS) hown [⟨0, 9, 12, 24⟩] ⟨0, 9, 15, 15⟩ [] ht (fun z hz => by rw [List.mem_singleton.mp hz]; exact Or.inr ⟨by decide, eB, hK.b 282 t_282 rfl, hK.2.2.2.2.2.2 (eS, eB) (by decide)⟩) (by decide) (by decide) (hK.b 156 t_156 rfl) (hK.b 234 t_234 rfl) hq9 hv9 hc9 ?_
      refine lv_astore_n (lv' := [(3, .ref q9), (0, .ref (ad 1 0)), (1, .int (i32 (x))), (2, .ref (ad 3 1))]) hx hb dL_wash_15 rfl hl (by decide) rfl (fun ls hl => ?_)
      refine lv_iconst (v := i32 2) hx hb dL_wash_16 rfl ?_
      subst hQm
      refine vx_ret ?_
      exact q_iret hx hb hr hlocks hP hS ⟨by rw [thr_2 h1 h2], Or.inl ⟨fun y => h2 y.2.1, rfl, rfl⟩⟩ (by decide) (Nat.le_of_ble_eq_true rfl) dL_wash_17
    · exact (h3 trivial).elim
  · obtain ⟨hc, h1, h2, h3⟩ := hQ
    subst h1
    rw [h2] at hP
    have ek : ∀ x q, x < 4 → ad x q = ad x q := fun _ _ _ => rfl
    rw [h3] at hP
    have hal3z : (waS S (10 + x.toNat)) 3 0 (-1) = 1 := by
      unfold waS
      rw [bst_o (by decide)]
      exact hal3
    refine lv_i2l hx hb dL_wash_7 (wr_64 _) ?_
    refine p_last (o := 3) (r := 1) (k := 3) (n := 1) (z := 0) (v := wr (shC (waS S (10 + x.toNat)) (10 + x.toNat))) hx hb hK hP hS hal3z rfl rfl (by decide) (by decide) (by decide) (by decide) (wr_rng _) dL_wash_8 (fun H locs hP hS => ?_)
    refine lv_goto (tgt := 18) hx hb dL_wash_9 (by decide) ?_
    refine lv_iconst (v := i32 0) hx hb dL_wash_18 rfl ?_
    subst hQm
    refine vx_ret ?_
    exact q_iret hx hb hr hlocks hP hS ⟨by rw [thr_0 hc.1 hc.2.1 hc.2.2], Or.inr ⟨hc, ek, rfl⟩⟩ (by decide) (Nat.le_of_ble_eq_true rfl) dL_wash_19

set_option maxHeartbeats 4000000 in
set_option maxRecDepth 100000 in
theorem c_L_cut (l : Launch) (g : GT) (base : Nat) (ad : Nat → Nat → Nat) (S : St) (x q : Int) (hfl : l.stackTraces = false) (hwc : wC S) (hrn : rng x) (hrn2 : rng q) (hcf : ∀ j : Nat, S 1 3 j = 1 → (j : Int) < S 1 0 3) (hpf : ∀ j : Nat, S 1 6 j = 1 → (j : Int) < S 1 0 6) (hal3 : S 3 0 (-1) = 1) : vx_Met l yL_cut [Cond.codeWith yL_cut cL_cut 5 (some FieldType.int) [(0, 10, 13, 24), (0, 10, 17, 15)]] ({ frames := 8, cells := 11, slots := 805, locals := 136 }) (va_Pc [.ref (ad 1 0), .int (i32 (x)), .int (i32 (q)), .ref (ad 3 1)] (PK g base ad S)) (gQ g base (lhP ad (peC S x ∧ (1 ≤ q ∧ q < S (10 + x.toNat) 0 0)) (dnC S (10 + x.toNat) ∧ S 1 0 6 < 20) (True) S (st (cuS S x q) 3 1 0 (wr (S 1 0 6))))) (xQ g base ad S (fun _ => False)) 11 805 (fun q => base ≤ q) := by
  refine mk_mh (own := RL) (lv0 := [(0, .ref (ad 1 0)), (1, .int (i32 (x))), (2, .int (i32 (q))), (3, .ref (ad 3 1))]) (by decide) rfl (Nat.le_of_ble_eq_true rfl) rfl ?_
  intro p e s m below meth cz av Qm hx hb hr hml hown hlocks ht hK hZ hP hQm ls hl
  have hS : va_S (fun q => base ≤ q) s.heap s.heap [] := va_S.rf
  refine lv_aload_n hx hb dL_cut_0 rfl (lv_at hl 3 rfl) ?_
  refine lv_iconst (v := i32 (0)) hx hb dL_cut_1 rfl ?_
  refine lv_aload_n hx hb dL_cut_2 rfl (lv_at hl 0 rfl) ?_
  refine lv_iload_n hx hb dL_cut_3 rfl (lv_at hl 1 rfl) ?_
  refine lv_iload_n hx hb dL_cut_4 rfl (lv_at hl 2 rfl) ?_
  refine q_callVx (k := 1) (rest := [.int (i32 (0)), .ref (ad 3 1)]) hx hb hml hl.1 hown hK hZ hP hS hwc.h1 rfl rfl rfl (c_X3_cut l g base ad S x q hfl hwc hrn hrn2 hcf hpf) t_621 t_622 (q_callB hK 620 34 623 t_620 t_34 t_623 f_yX3_cut ⟨by decide, by decide⟩) rfl rfl (Nat.le_of_ble_eq_true rfl) dL_cut_5 ⟨by decide, by decide⟩ (fun E ce q9 H locs hE hq9 hv9 hc9 hP hS => ?_) (fun rr ad9 S9 H locs hQ hP hS => ?_)
  · rcases hE with ⟨rfl, h1⟩ | ⟨rfl, h1, h2⟩ | ⟨rfl, h1, h2, h3⟩
    · refine vx_catch (own := RL) (name := eB) hown [] ⟨0, 10, 13, 24⟩ [⟨0, 10, 17, 15⟩] ht (fun z hz => nomatch hz) (by decide) (by decide) (hK.b 282 t_282 rfl) (hK.b 293 t_293 rfl) hq9 hv9 hc9 ?_
      refine lv_astore (lv' := [(4, .ref q9), (0, .ref (ad 1 0)), (1, .int (i32 (x))), (2, .int (i32 (q))), (3, .ref (ad 3 1))]) hx hb dL_cut_13 hl (by decide) rfl (fun ls hl => ?_)
      refine lv_iconst (v := i32 1) hx hb dL_cut_15 rfl ?_
      subst hQm
      refine vx_ret ?_
      exact q_iret hx hb hr hlocks hP hS ⟨by rw [thr_1 h1], Or.inl ⟨fun y => h1 y.1, rfl, rfl⟩⟩ (by decide) (Nat.le_of_ble_eq_true rfl) dL_cut_16
    · refine vx_catch (own := RL) (name := eS) hown [⟨0, 10, 13, 24⟩] ⟨0, 10, 17, 15⟩ [] ht (fun z hz => by rw [List.mem_singleton.mp hz]; exact Or.inr ⟨by decide, eB, hK.b 282 t_282 rfl, hK.2.2.2.2.2.2 (eS, eB) (by decide)⟩) (by decide) (by decide) (hK.b 156 t_156 rfl) (hK.b 234 t_234 rfl) hq9 hv9 hc9 ?_
      refine lv_astore (lv' := [(4, .ref q9), (0, .ref (ad 1 0)), (1, .int (i32 (x))), (2, .int (i32 (q))), (3, .ref (ad 3 1))]) hx hb dL_cut_17 hl (by decide) rfl (fun ls hl => ?_)
      refine lv_iconst (v := i32 2) hx hb dL_cut_19 rfl ?_
      subst hQm
      refine vx_ret ?_
      exact q_iret hx hb hr hlocks hP hS ⟨by rw [thr_2 h1 h2], Or.inl ⟨fun y => h2 y.2.1, rfl, rfl⟩⟩ (by decide) (Nat.le_of_ble_eq_true rfl) dL_cut_20
    · exact (h3 trivial).elim
  · obtain ⟨hc, A9, h1, h2, h3⟩ := hQ
    subst h1
    have ek : ∀ x q, x < 4 → ad9 x q = ad x q := fun x q h => by rw [h2]; exact adN_n (by omega)
    clear h2
    have eg : F0 m 8 ls ((some (.int (i32 (S 1 0 6)))).toList ++ [.int (i32 (0)), .ref (ad 3 1)]) = F0 m 8 ls [.int (i32 (S 1 0 6)), .int (i32 0), .ref (ad9 3 1)] := by rw [ek 3 1 (by decide)]; rfl
    refine W.eq eg ?_
    rw [h3] at hP
    have hal3z : (cuS S x q) 3 0 (-1) = 1 := by
      unfold cuS
      rw [st_at, if_neg (by omega)]
      rw [st_at, if_neg (by omega)]
      rw [st_at, if_neg (by omega)]
      rw [apF_o (by decide) (by decide), nwS_n (by omega)]
      exact hal3
    refine lv_i2l hx hb dL_cut_8 (wr_64 _) ?_
    refine p_last (o := 3) (r := 1) (k := 3) (n := 1) (z := 0) (v := wr (S 1 0 6)) hx hb hK hP hS hal3z rfl rfl (by decide) (by decide) (by decide) (by decide) (wr_rng _) dL_cut_9 (fun H locs hP hS => ?_)
    refine lv_goto (tgt := 21) hx hb dL_cut_10 (by decide) ?_
    refine lv_iconst (v := i32 0) hx hb dL_cut_21 rfl ?_
    subst hQm
    refine vx_ret ?_
    exact q_iret hx hb hr hlocks hP hS ⟨by rw [thr_0 hc.1 hc.2.1 hc.2.2], Or.inr ⟨hc, ek, rfl⟩⟩ (by decide) (Nat.le_of_ble_eq_true rfl) dL_cut_22

set_option maxHeartbeats 4000000 in
set_option maxRecDepth 100000 in
theorem c_L_match (l : Launch) (g : GT) (base : Nat) (ad : Nat → Nat → Nat) (S : St) (x z : Int) (hfl : l.stackTraces = false) (hwc : wC S) (hrn : rng x) (hrn2 : rng z) (hal3 : S 3 0 (-1) = 1) : vx_Met l yL_match [Cond.codeWith yL_match cL_match 5 (some FieldType.int) [(0, 10, 13, 24), (0, 10, 17, 13), (0, 10, 21, 15)]] ({ frames := 9, cells := 4, slots := 24, locals := 157 }) (va_Pc [.ref (ad 1 0), .int (i32 (x)), .int (i32 (z)), .ref (ad 3 1)] (PK g base ad S)) (gQ g base (lhP ad (peC S x ∧ peC S z) (x ≠ z) (dnC S (10 + x.toNat) ∧ dnC S (10 + z.toNat)) S (st (S) 3 1 0 (wr (mtC S (10 + x.toNat) (10 + z.toNat)))))) (xQ g base ad S (fun _ => False)) 4 24 (fun q => base ≤ q) := by
  refine mk_mh (own := RL) (lv0 := [(0, .ref (ad 1 0)), (1, .int (i32 (x))), (2, .int (i32 (z))), (3, .ref (ad 3 1))]) (by decide) rfl (Nat.le_of_ble_eq_true rfl) rfl ?_
  intro p e s m below meth cz av Qm hx hb hr hml hown hlocks ht hK hZ hP hQm ls hl
  have hS : va_S (fun q => base ≤ q) s.heap s.heap [] := va_S.rf
  refine lv_aload_n hx hb dL_match_0 rfl (lv_at hl 3 rfl) ?_
  refine lv_iconst (v := i32 (0)) hx hb dL_match_1 rfl ?_
  refine lv_aload_n hx hb dL_match_2 rfl (lv_at hl 0 rfl) ?_
  refine lv_iload_n hx hb dL_match_3 rfl (lv_at hl 1 rfl) ?_
  refine lv_iload_n hx hb dL_match_4 rfl (lv_at hl 2 rfl) ?_
  refine q_callVx (k := 1) (rest := [.int (i32 (0)), .ref (ad 3 1)]) hx hb hml hl.1 hown hK hZ hP hS hwc.h1 rfl rfl rfl (c_X3_match l g base ad S x z hfl hwc hrn hrn2) t_640 t_641 (q_callB hK 639 34 642 t_639 t_34 t_642 f_yX3_match ⟨by decide, by decide⟩) rfl rfl (Nat.le_of_ble_eq_true rfl) dL_match_5 ⟨by decide, by decide⟩ (fun E ce q9 H locs hE hq9 hv9 hc9 hP hS => ?_) (fun rr ad9 S9 H locs hQ hP hS => ?_)
  · rcases hE with ⟨rfl, h1⟩ | ⟨rfl, h1, h2⟩ | ⟨rfl, h1, h2, h3⟩
    · refine vx_catch (own := RL) (name := eB) hown [] ⟨0, 10, 13, 24⟩ [⟨0, 10, 17, 13⟩, ⟨0, 10, 21, 15⟩] ht (fun z hz => nomatch hz) (by decide) (by decide) (hK.b 282 t_282 rfl) (hK.b 293 t_293 rfl) hq9 hv9 hc9 ?_
      refine lv_astore (lv' := [(4, .ref q9), (0, .ref (ad 1 0)), (1, .int (i32 (x))), (2, .int (i32 (z))), (3, .ref (ad 3 1))]) hx hb dL_match_13 hl (by decide) rfl (fun ls hl => ?_)
      refine lv_iconst (v := i32 1) hx hb dL_match_15 rfl ?_
      subst hQm
      refine vx_ret ?_
      exact q_iret hx hb hr hlocks hP hS ⟨by rw [thr_1 h1], Or.inl ⟨fun y => h1 y.1, rfl, rfl⟩⟩ (by decide) (Nat.le_of_ble_eq_true rfl) dL_match_16
    · refine vx_catch (own := RL) (name := eA) hown [⟨0, 10, 13, 24⟩] ⟨0, 10, 17, 13⟩ [⟨0, 10, 21, 15⟩] ht (fun z hz => by rw [List.mem_singleton.mp hz]; exact Or.inr ⟨by decide, eB, hK.b 282 t_282 rfl, hK.2.2.2.2.2.2 (eA, eB) (by decide)⟩) (by decide) (by decide) (hK.b 155 t_155 rfl) (hK.b 166 t_166 rfl) hq9 hv9 hc9 ?_
      refine lv_astore (lv' := [(4, .ref q9), (0, .ref (ad 1 0)), (1, .int (i32 (x))), (2, .int (i32 (z))), (3, .ref (ad 3 1))]) hx hb dL_match_17 hl (by decide) rfl (fun ls hl => ?_)
      refine lv_iconst (v := i32 2) hx hb dL_match_19 rfl ?_
      subst hQm
      refine vx_ret ?_
      exact q_iret hx hb hr hlocks hP hS ⟨by rw [thr_2 h1 h2], Or.inl ⟨fun y => h2 y.2.1, rfl, rfl⟩⟩ (by decide) (Nat.le_of_ble_eq_true rfl) dL_match_20
    · refine vx_catch (own := RL) (name := eS) hown [⟨0, 10, 13, 24⟩, ⟨0, 10, 17, 13⟩] ⟨0, 10, 21, 15⟩ [] ht (fun z hz => by rcases List.mem_cons.mp hz with h9 | h9; (rw [h9]; exact Or.inr ⟨by decide, eB, hK.b 282 t_282 rfl, hK.2.2.2.2.2.2 (eS, eB) (by decide)⟩); rw [List.mem_singleton.mp h9]; exact Or.inr ⟨by decide, eA, hK.b 155 t_155 rfl, hK.2.2.2.2.2.2 (eS, eA) (by decide)⟩) (by decide) (by decide) (hK.b 156 t_156 rfl) (hK.b 234 t_234 rfl) hq9 hv9 hc9 ?_
      refine lv_astore (lv' := [(4, .ref q9), (0, .ref (ad 1 0)), (1, .int (i32 (x))), (2, .int (i32 (z))), (3, .ref (ad 3 1))]) hx hb dL_match_21 hl (by decide) rfl (fun ls hl => ?_)
      refine lv_iconst (v := i32 3) hx hb dL_match_23 rfl ?_
      subst hQm
      refine vx_ret ?_
      exact q_iret hx hb hr hlocks hP hS ⟨by rw [thr_3 h1 h2 h3], Or.inl ⟨fun y => h3 y.2.2, rfl, rfl⟩⟩ (by decide) (Nat.le_of_ble_eq_true rfl) dL_match_24
  · obtain ⟨hc, h1, h2, h3⟩ := hQ
    subst h1
    rw [h2] at hP
    have ek : ∀ x q, x < 4 → ad x q = ad x q := fun _ _ _ => rfl
    rw [h3] at hP
    have hal3z : (S) 3 0 (-1) = 1 := by exact hal3
    refine lv_i2l hx hb dL_match_8 (wr_64 _) ?_
    refine p_last (o := 3) (r := 1) (k := 3) (n := 1) (z := 0) (v := wr (mtC S (10 + x.toNat) (10 + z.toNat))) hx hb hK hP hS hal3z rfl rfl (by decide) (by decide) (by decide) (by decide) (wr_rng _) dL_match_9 (fun H locs hP hS => ?_)
    refine lv_goto (tgt := 25) hx hb dL_match_10 (by decide) ?_
    refine lv_iconst (v := i32 0) hx hb dL_match_25 rfl ?_
    subst hQm
    refine vx_ret ?_
    exact q_iret hx hb hr hlocks hP hS ⟨by rw [thr_0 hc.1 hc.2.1 hc.2.2], Or.inr ⟨hc, ek, rfl⟩⟩ (by decide) (Nat.le_of_ble_eq_true rfl) dL_match_26

set_option maxHeartbeats 4000000 in
set_option maxRecDepth 100000 in
theorem c_L_join (l : Launch) (g : GT) (base : Nat) (ad : Nat → Nat → Nat) (S : St) (x z : Int) (hfl : l.stackTraces = false) (hwc : wC S) (hrn : rng x) (hrn2 : rng z) (hal3 : S 3 0 (-1) = 1) : vx_Met l yL_join [Cond.codeWith yL_join cL_join 5 (some FieldType.int) [(0, 17, 20, 24), (0, 17, 24, 13), (0, 17, 28, 15)]] ({ frames := 9, cells := 5, slots := 30, locals := 158 }) (va_Pc [.ref (ad 1 0), .int (i32 (x)), .int (i32 (z)), .ref (ad 3 1)] (PK g base ad S)) (gQ g base (lhP ad (peC S x ∧ peC S z) (x ≠ z) (dnC S (10 + x.toNat) ∧ dnC S (10 + z.toNat) ∧ S (10 + x.toNat) 0 1 = S (10 + z.toNat) 0 1 ∧ S (10 + x.toNat) 0 0 + S (10 + z.toNat) 0 0 ≤ 24) S (st (jnS S (10 + x.toNat) (10 + z.toNat) z) 3 1 0 (b2 (jnS S (10 + x.toNat) (10 + z.toNat) z (10 + x.toNat) 8 (S (10 + x.toNat) 0 0 - 1) + 1 = jnS S (10 + x.toNat) (10 + z.toNat) z (10 + x.toNat) 8 (S (10 + x.toNat) 0 0)))))) (xQ g base ad S (fun _ => False)) 5 30 (fun q => base ≤ q) := by
  refine mk_mh (own := RL) (lv0 := [(0, .ref (ad 1 0)), (1, .int (i32 (x))), (2, .int (i32 (z))), (3, .ref (ad 3 1))]) (by decide) rfl (Nat.le_of_ble_eq_true rfl) rfl ?_
  intro p e s m below meth cz av Qm hx hb hr hml hown hlocks ht hK hZ hP hQm ls hl
  have hS : va_S (fun q => base ≤ q) s.heap s.heap [] := va_S.rf
  refine lv_aload_n hx hb dL_join_0 rfl (lv_at hl 3 rfl) ?_
  refine lv_iconst (v := i32 (0)) hx hb dL_join_1 rfl ?_
  refine lv_aload_n hx hb dL_join_2 rfl (lv_at hl 0 rfl) ?_
  refine lv_iload_n hx hb dL_join_3 rfl (lv_at hl 1 rfl) ?_
  refine lv_iload_n hx hb dL_join_4 rfl (lv_at hl 2 rfl) ?_
  refine q_callVx (k := 1) (rest := [.int (i32 (0)), .ref (ad 3 1)]) hx hb hml hl.1 hown hK hZ hP hS hwc.h1 rfl rfl rfl (c_X3_join l g base ad S x z hfl hwc hrn hrn2) t_655 t_656 (q_callB hK 654 34 657 t_654 t_34 t_657 f_yX3_join ⟨by decide, by decide⟩) rfl rfl (Nat.le_of_ble_eq_true rfl) dL_join_5 ⟨by decide, by decide⟩ (fun E ce q9 H locs hE hq9 hv9 hc9 hP hS => ?_) (fun rr ad9 S9 H locs hQ hP hS => ?_)
  · rcases hE with ⟨rfl, h1⟩ | ⟨rfl, h1, h2⟩ | ⟨rfl, h1, h2, h3⟩
    · refine vx_catch (own := RL) (name := eB) hown [] ⟨0, 17, 20, 24⟩ [⟨0, 17, 24, 13⟩, ⟨0, 17, 28, 15⟩] ht (fun z hz => nomatch hz) (by decide) (by decide) (hK.b 282 t_282 rfl) (hK.b 293 t_293 rfl) hq9 hv9 hc9 ?_
      refine lv_astore (lv' := [(4, .ref q9), (0, .ref (ad 1 0)), (1, .int (i32 (x))), (2, .int (i32 (z))), (3, .ref (ad 3 1))]) hx hb dL_join_20 hl (by decide) rfl (fun ls hl => ?_)
      refine lv_iconst (v := i32 1) hx hb dL_join_22 rfl ?_
      subst hQm
      refine vx_ret ?_
      exact q_iret hx hb hr hlocks hP hS ⟨by rw [thr_1 h1], Or.inl ⟨fun y => h1 y.1, rfl, rfl⟩⟩ (by decide) (Nat.le_of_ble_eq_true rfl) dL_join_23
    · refine vx_catch (own := RL) (name := eA) hown [⟨0, 17, 20, 24⟩] ⟨0, 17, 24, 13⟩ [⟨0, 17, 28, 15⟩] ht (fun z hz => by rw [List.mem_singleton.mp hz]; exact Or.inr ⟨by decide, eB, hK.b 282 t_282 rfl, hK.2.2.2.2.2.2 (eA, eB) (by decide)⟩) (by decide) (by decide) (hK.b 155 t_155 rfl) (hK.b 166 t_166 rfl) hq9 hv9 hc9 ?_
      refine lv_astore (lv' := [(4, .ref q9), (0, .ref (ad 1 0)), (1, .int (i32 (x))), (2, .int (i32 (z))), (3, .ref (ad 3 1))]) hx hb dL_join_24 hl (by decide) rfl (fun ls hl => ?_)
      refine lv_iconst (v := i32 2) hx hb dL_join_26 rfl ?_
      subst hQm
      refine vx_ret ?_
      exact q_iret hx hb hr hlocks hP hS ⟨by rw [thr_2 h1 h2], Or.inl ⟨fun y => h2 y.2.1, rfl, rfl⟩⟩ (by decide) (Nat.le_of_ble_eq_true rfl) dL_join_27
    · refine vx_catch (own := RL) (name := eS) hown [⟨0, 17, 20, 24⟩, ⟨0, 17, 24, 13⟩] ⟨0, 17, 28, 15⟩ [] ht (fun z hz => by rcases List.mem_cons.mp hz with h9 | h9; (rw [h9]; exact Or.inr ⟨by decide, eB, hK.b 282 t_282 rfl, hK.2.2.2.2.2.2 (eS, eB) (by decide)⟩); rw [List.mem_singleton.mp h9]; exact Or.inr ⟨by decide, eA, hK.b 155 t_155 rfl, hK.2.2.2.2.2.2 (eS, eA) (by decide)⟩) (by decide) (by decide) (hK.b 156 t_156 rfl) (hK.b 234 t_234 rfl) hq9 hv9 hc9 ?_
      refine lv_astore (lv' := [(4, .ref q9), (0, .ref (ad 1 0)), (1, .int (i32 (x))), (2, .int (i32 (z))), (3, .ref (ad 3 1))]) hx hb dL_join_28 hl (by decide) rfl (fun ls hl => ?_)
      refine lv_iconst (v := i32 3) hx hb dL_join_30 rfl ?_
      subst hQm
      refine vx_ret ?_
      exact q_iret hx hb hr hlocks hP hS ⟨by rw [thr_3 h1 h2 h3], Or.inl ⟨fun y => h3 y.2.2, rfl, rfl⟩⟩ (by decide) (Nat.le_of_ble_eq_true rfl) dL_join_31
  · obtain ⟨hc, h1, h2, h3⟩ := hQ
    subst h1
    rw [h2] at hP
    have ek : ∀ x q, x < 4 → ad x q = ad x q := fun _ _ _ => rfl
    rw [h3] at hP
    have hal3z : (jnS S (10 + x.toNat) (10 + z.toNat) z) 3 0 (-1) = 1 := by
      unfold jnS
      rw [st_at, if_neg (by omega)]
      rw [apF_o (by decide) (by decide)]
      exact hal3
    refine q_if_eqb (tgt := 15) hx hb dL_join_8 (by decide) (fun h9 => ?_) (fun h9 => ?_)
    · refine lv_lconst (v := i64 0) hx hb dL_join_15 rfl ?_
      refine p_last (o := 3) (r := 1) (k := 3) (n := 1) (z := 0) (v := 0) hx hb hK hP hS hal3z rfl rfl (by decide) (by decide) (by decide) (by decide) ⟨by decide, by decide⟩ dL_join_16 (fun H locs hP hS => ?_)
      refine lv_goto (tgt := 32) hx hb dL_join_17 (by decide) ?_
      refine lv_iconst (v := i32 0) hx hb dL_join_32 rfl ?_
      subst hQm
      refine vx_ret ?_
      exact q_iret hx hb hr hlocks hP hS ⟨by rw [thr_0 hc.1 hc.2.1 hc.2.2], Or.inr ⟨hc, ek, by rw [b2_f h9]⟩⟩ (by decide) (Nat.le_of_ble_eq_true rfl) dL_join_33
    · refine lv_lconst (v := i64 1) hx hb dL_join_11 rfl ?_
      refine lv_goto (tgt := 16) hx hb dL_join_12 (by decide) ?_
      refine p_last (o := 3) (r := 1) (k := 3) (n := 1) (z := 0) (v := 1) hx hb hK hP hS hal3z rfl rfl (by decide) (by decide) (by decide) (by decide) ⟨by decide, by decide⟩ dL_join_16 (fun H locs hP hS => ?_)
      refine lv_goto (tgt := 32) hx hb dL_join_17 (by decide) ?_
      refine lv_iconst (v := i32 0) hx hb dL_join_32 rfl ?_
      subst hQm
      refine vx_ret ?_
      exact q_iret hx hb hr hlocks hP hS ⟨by rw [thr_0 hc.1 hc.2.1 hc.2.2], Or.inr ⟨hc, ek, by rw [b2_t h9]⟩⟩ (by decide) (Nat.le_of_ble_eq_true rfl) dL_join_33

set_option maxHeartbeats 4000000 in
set_option maxRecDepth 100000 in
theorem c_L_isTrue (l : Launch) (g : GT) (base : Nat) (ad : Nat → Nat → Nat) (S : St) (x : Int) (hfl : l.stackTraces = false) (hwc : wC S) (hrn : rng x) (hal3 : S 3 0 (-1) = 1) : vx_Met l yL_isTrue [Cond.codeWith yL_isTrue cL_isTrue 4 (some FieldType.int) [(0, 16, 19, 24)]] ({ frames := 8, cells := 1, slots := 6, locals := 133 }) (va_Pc [.ref (ad 1 0), .int (i32 (x)), .ref (ad 3 1)] (PK g base ad S)) (gQ g base (lhP ad (peC S x) (True) (True) S (st (S) 3 1 0 (b2 (∀ j, 1 ≤ j → j < S (10 + x.toNat) 0 0 → S (10 + x.toNat) 8 (j - 1) + 1 = S (10 + x.toNat) 8 j))))) (xQ g base ad S (fun _ => False)) 1 6 (fun q => base ≤ q) := by
  refine mk_mh (own := RL) (lv0 := [(0, .ref (ad 1 0)), (1, .int (i32 (x))), (2, .ref (ad 3 1))]) (by decide) rfl (Nat.le_of_ble_eq_true rfl) rfl ?_
  intro p e s m below meth cz av Qm hx hb hr hml hown hlocks ht hK hZ hP hQm ls hl
  have hS : va_S (fun q => base ≤ q) s.heap s.heap [] := va_S.rf
  refine lv_aload_n hx hb dL_isTrue_0 rfl (lv_at hl 2 rfl) ?_
  refine lv_iconst (v := i32 (0)) hx hb dL_isTrue_1 rfl ?_
  refine lv_aload_n hx hb dL_isTrue_2 rfl (lv_at hl 0 rfl) ?_
  refine lv_iload_n hx hb dL_isTrue_3 rfl (lv_at hl 1 rfl) ?_
  refine q_callVx (k := 1) (rest := [.int (i32 (0)), .ref (ad 3 1)]) hx hb hml hl.1 hown hK hZ hP hS hwc.h1 rfl rfl rfl (c_X3_isTrue l g base ad S x hfl hwc hrn) t_672 t_673 (q_callB hK 671 34 674 t_671 t_34 t_674 f_yX3_isTrue ⟨by decide, by decide⟩) rfl rfl (Nat.le_of_ble_eq_true rfl) dL_isTrue_4 ⟨by decide, by decide⟩ (fun E ce q9 H locs hE hq9 hv9 hc9 hP hS => ?_) (fun rr ad9 S9 H locs hQ hP hS => ?_)
  · rcases hE with ⟨rfl, h1⟩ | ⟨rfl, h1, h2⟩ | ⟨rfl, h1, h2, h3⟩
    · refine vx_catch (own := RL) (name := eB) hown [] ⟨0, 16, 19, 24⟩ [] ht (fun z hz => nomatch hz) (by decide) (by decide) (hK.b 282 t_282 rfl) (hK.b 293 t_293 rfl) hq9 hv9 hc9 ?_
      refine lv_astore_n (lv' := [(3, .ref q9), (0, .ref (ad 1 0)), (1, .int (i32 (x))), (2, .ref (ad 3 1))]) hx hb dL_isTrue_19 rfl hl (by decide) rfl (fun ls hl => ?_)
      refine lv_iconst (v := i32 1) hx hb dL_isTrue_20 rfl ?_
      subst hQm
      refine vx_ret ?_
      exact q_iret hx hb hr hlocks hP hS ⟨by rw [thr_1 h1], Or.inl ⟨fun y => h1 y.1, rfl, rfl⟩⟩ (by decide) (Nat.le_of_ble_eq_true rfl) dL_isTrue_21
    · exact (h2 trivial).elim
    · exact (h3 trivial).elim
  · obtain ⟨hc, h1, h2, h3⟩ := hQ
    subst h1
    rw [h2] at hP
    have ek : ∀ x q, x < 4 → ad x q = ad x q := fun _ _ _ => rfl
    rw [h3] at hP
    have hal3z : (S) 3 0 (-1) = 1 := by exact hal3
    refine q_if_eqb (tgt := 14) hx hb dL_isTrue_7 (by decide) (fun h9 => ?_) (fun h9 => ?_)
    · refine lv_lconst (v := i64 0) hx hb dL_isTrue_14 rfl ?_
      refine p_last (o := 3) (r := 1) (k := 3) (n := 1) (z := 0) (v := 0) hx hb hK hP hS hal3z rfl rfl (by decide) (by decide) (by decide) (by decide) ⟨by decide, by decide⟩ dL_isTrue_15 (fun H locs hP hS => ?_)
      refine lv_goto (tgt := 22) hx hb dL_isTrue_16 (by decide) ?_
      refine lv_iconst (v := i32 0) hx hb dL_isTrue_22 rfl ?_
      subst hQm
      refine vx_ret ?_
      exact q_iret hx hb hr hlocks hP hS ⟨by rw [thr_0 hc.1 hc.2.1 hc.2.2], Or.inr ⟨hc, ek, by rw [b2_f h9]⟩⟩ (by decide) (Nat.le_of_ble_eq_true rfl) dL_isTrue_23
    · refine lv_lconst (v := i64 1) hx hb dL_isTrue_10 rfl ?_
      refine lv_goto (tgt := 15) hx hb dL_isTrue_11 (by decide) ?_
      refine p_last (o := 3) (r := 1) (k := 3) (n := 1) (z := 0) (v := 1) hx hb hK hP hS hal3z rfl rfl (by decide) (by decide) (by decide) (by decide) ⟨by decide, by decide⟩ dL_isTrue_15 (fun H locs hP hS => ?_)
      refine lv_goto (tgt := 22) hx hb dL_isTrue_16 (by decide) ?_
      refine lv_iconst (v := i32 0) hx hb dL_isTrue_22 rfl ?_
      subst hQm
      refine vx_ret ?_
      exact q_iret hx hb hr hlocks hP hS ⟨by rw [thr_0 hc.1 hc.2.1 hc.2.2], Or.inr ⟨hc, ek, by rw [b2_t h9]⟩⟩ (by decide) (Nat.le_of_ble_eq_true rfl) dL_isTrue_23

set_option maxHeartbeats 4000000 in
set_option maxRecDepth 100000 in
theorem c_L_likeness (l : Launch) (g : GT) (base : Nat) (ad : Nat → Nat → Nat) (S : St) (x z : Int) (hfl : l.stackTraces = false) (hwc : wC S) (hrn : rng x) (hrn2 : rng z) (hal3 : S 3 0 (-1) = 1) : vx_Met l yL_likeness [Cond.codeWith yL_likeness cL_likeness 5 (some FieldType.int) [(0, 10, 13, 24)]] ({ frames := 8, cells := 2, slots := 12, locals := 136 }) (va_Pc [.ref (ad 1 0), .int (i32 (x)), .int (i32 (z)), .ref (ad 3 1)] (PK g base ad S)) (gQ g base (lhP ad (peC S x ∧ ceC S z) (True) (True) S (st (S) 3 1 0 (wr (lnC S (10 + x.toNat) (4 + z.toNat)))))) (xQ g base ad S (fun _ => False)) 2 12 (fun q => base ≤ q) := by
  refine mk_mh (own := RL) (lv0 := [(0, .ref (ad 1 0)), (1, .int (i32 (x))), (2, .int (i32 (z))), (3, .ref (ad 3 1))]) (by decide) rfl (Nat.le_of_ble_eq_true rfl) rfl ?_
  intro p e s m below meth cz av Qm hx hb hr hml hown hlocks ht hK hZ hP hQm ls hl
  have hS : va_S (fun q => base ≤ q) s.heap s.heap [] := va_S.rf
  refine lv_aload_n hx hb dL_likeness_0 rfl (lv_at hl 3 rfl) ?_
  refine lv_iconst (v := i32 (0)) hx hb dL_likeness_1 rfl ?_
  refine lv_aload_n hx hb dL_likeness_2 rfl (lv_at hl 0 rfl) ?_
  refine lv_iload_n hx hb dL_likeness_3 rfl (lv_at hl 1 rfl) ?_
  refine lv_iload_n hx hb dL_likeness_4 rfl (lv_at hl 2 rfl) ?_
  refine q_callVx (k := 1) (rest := [.int (i32 (0)), .ref (ad 3 1)]) hx hb hml hl.1 hown hK hZ hP hS hwc.h1 rfl rfl rfl (c_X3_likeness l g base ad S x z hfl hwc hrn hrn2) t_684 t_685 (q_callB hK 683 34 686 t_683 t_34 t_686 f_yX3_likeness ⟨by decide, by decide⟩) rfl rfl (Nat.le_of_ble_eq_true rfl) dL_likeness_5 ⟨by decide, by decide⟩ (fun E ce q9 H locs hE hq9 hv9 hc9 hP hS => ?_) (fun rr ad9 S9 H locs hQ hP hS => ?_)
  · rcases hE with ⟨rfl, h1⟩ | ⟨rfl, h1, h2⟩ | ⟨rfl, h1, h2, h3⟩
    · refine vx_catch (own := RL) (name := eB) hown [] ⟨0, 10, 13, 24⟩ [] ht (fun z hz => nomatch hz) (by decide) (by decide) (hK.b 282 t_282 rfl) (hK.b 293 t_293 rfl) hq9 hv9 hc9 ?_
      refine lv_astore (lv' := [(4, .ref q9), (0, .ref (ad 1 0)), (1, .int (i32 (x))), (2, .int (i32 (z))), (3, .ref (ad 3 1))]) hx hb dL_likeness_13 hl (by decide) rfl (fun ls hl => ?_)
      refine lv_iconst (v := i32 1) hx hb dL_likeness_15 rfl ?_
      subst hQm
      refine vx_ret ?_
      exact q_iret hx hb hr hlocks hP hS ⟨by rw [thr_1 h1], Or.inl ⟨fun y => h1 y.1, rfl, rfl⟩⟩ (by decide) (Nat.le_of_ble_eq_true rfl) dL_likeness_16
    · exact (h2 trivial).elim
    · exact (h3 trivial).elim
  · obtain ⟨hc, h1, h2, h3⟩ := hQ
    subst h1
    rw [h2] at hP
    have ek : ∀ x q, x < 4 → ad x q = ad x q := fun _ _ _ => rfl
    rw [h3] at hP
    have hal3z : (S) 3 0 (-1) = 1 := by exact hal3
    refine lv_i2l hx hb dL_likeness_8 (wr_64 _) ?_
    refine p_last (o := 3) (r := 1) (k := 3) (n := 1) (z := 0) (v := wr (lnC S (10 + x.toNat) (4 + z.toNat))) hx hb hK hP hS hal3z rfl rfl (by decide) (by decide) (by decide) (by decide) (wr_rng _) dL_likeness_9 (fun H locs hP hS => ?_)
    refine lv_goto (tgt := 17) hx hb dL_likeness_10 (by decide) ?_
    refine lv_iconst (v := i32 0) hx hb dL_likeness_17 rfl ?_
    subst hQm
    refine vx_ret ?_
    exact q_iret hx hb hr hlocks hP hS ⟨by rw [thr_0 hc.1 hc.2.1 hc.2.2], Or.inr ⟨hc, ek, rfl⟩⟩ (by decide) (Nat.le_of_ble_eq_true rfl) dL_likeness_18
