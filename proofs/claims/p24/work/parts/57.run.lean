/-! ===== the script ===== -/
def PX (g : GT) (base : Nat) (ad : Nat → Nat → Nat) (S : St) (b L : Nat) (xs : Nat → Int32) (U : State) : Prop := PK g base ad S U ∧ va_X b L xs U U.heap
theorem PX_blind {g : GT} {base : Nat} {ad : Nat → Nat → Nat} {S : St} {b L : Nat} {xs : Nat → Int32} {av : List Value} : FrameBlind (va_Pc av (PX g base ad S b L xs)) := by
  intro a U f mk h
  obtain ⟨h1, ⟨h2, h3, h4⟩, h5⟩ := h
  refine ⟨h1, ⟨KK.same (s := U) (U := U.calling f mk a) rfl h2, ?_, h4⟩, ?_⟩
  · exact ZZ.go (s := U) (U := U.calling f mk a) (H := U.heap) (H1 := (U.calling f mk a).heap) (Vm.Alike.refl U.vm) (fun _ _ _ => rfl) h3
  · exact va_X.moved (u := U) (U := U.calling f mk a) (Vm.Alike.refl U.vm) h5
theorem mk_metX {l : Launch} {y : MethodName} {cc : ByteArray} {maxL : Nat} {ret : Option FieldType} {own : String} {g : GT} {base : Nat} {ad : Nat → Nat → Nat} {S : St} {b L : Nat} {xs : Nat → Int32} {av : List Value} {lv0 : List (Nat × Value)} {rm : Room} {Qc : Array Value → State → Outcome → State → Prop} {mc ms : Nat}
    (hy : plainName y.cls = true) (ho : y.cls = own) (hn : (lg_sl av).length ≤ maxL) (hlv : lv_args 0 av = lv0)
    (body : ∀ (p : Program) (e : Env) (s : State) (m : MethodId) (below : List Frame) (meth : Method) (c : Code) (av : Array Value) (Qm : State → Prop), p.tables.exec = Jvm.exec → c.code = cc → meth.sig.returnType = ret → c.maxLocals = maxL → s.vm.findClass own = some m.cls → meth.locks = false → KK g s → ZZ base s s.heap → pic g base ad S s.heap → va_X b L xs s s.heap → Qm = MQ below Qc av s mc ms (fun q => base ≤ q) → ∀ ls : Array Slot, lv_has ls maxL lv0 →
      W p l e rm s m av below meth c s.heap [] 0 0 Qm (F0 m 0 ls [])) :
    Met l y [Cond.code y cc maxL ret] rm (va_Pc av (PX g base ad S b L xs)) Qc mc ms (fun q => base ≤ q) := by
  refine Met.ofW (cc := cc) (maxL := maxL) (ret := ret) hy rfl ?_
  intro p e s m args below meth c s₁ B hml hv
  obtain ⟨rfl, ⟨hK, hZ, hP⟩, hX⟩ := hv
  have hown : s.vm.findClass own = some m.cls := by rw [← ho]; exact findClass_of_methodNamed B.named
  rw [lg_entry_eq]
  exact body p e s m below meth c _ _ B.exec B.bytes B.returns hml hown B.notSynchronized hK hZ hP hX rfl _ (hlv ▸ lv_entry av hn)
def zs (xs : Nat → Int32) (j : Int) : Int := (xs j.toNat).toInt
theorem zs_r (xs : Nat → Int32) (j : Int) : rng (zs xs j) := ⟨by have := (xs j.toNat).le_toInt; unfold zs; omega, by have := (xs j.toNat).toInt_lt; unfold zs; omega⟩
section QS
variable {p : Program} {l : Launch} {e : Env} {R : Room} {s : State} {m : MethodId} {args : Array Value} {below : List Frame} {meth : Method} {c : Code} {H : Heap} {locs : List Loc} {cells slots : Nat} {Q : State → Prop}
variable {cc : ByteArray} {pc : Nat} {ls : Array Slot} {rest st0 : List Value} {g : GT} {base : Nat} {ad : Nat → Nat → Nat} {S : St} {own : String}
variable {P : Option Value → (Nat → Nat → Nat) → St → Prop} {y : MethodName} {bytes : ByteArray} {maxL nL n index : Nat} {rm : Room} {As : List Value} {ret : Option FieldType}
theorem p_sld (hx : p.tables.exec = Jvm.exec) (hb : c.code = cc) {b L : Nat} {xs : Nat → Int32} (hX : va_X b L xs s s.heap) (hbl : b < s.heap.size) (hbb : b < base) (hL : L ≤ 260) (hS : va_S (fun q => base ≤ q) s.heap H locs) {z : Int} (h0 : 0 ≤ z) (h1 : z < L) (hdg : decode cc pc = .ok (.iaload, 1))
    (kk : W p l e R s m args below meth c H locs cells slots Q (F0 m (pc + 1) ls (.int (i32 (zs xs z)) :: rest))) : W p l e R s m args below meth c H locs cells slots Q (F0 m pc ls (.int (i32 z) :: .ref b :: rest)) := by
  refine va_sld hx hb hX hbl (A := fun q => base ≤ q) (Nat.not_le_of_lt hbb) hS (i32_in h0 h1 (by omega)) hdg ?_
  rw [i32_clamp h0 (by omega)]
  have : xs z.toNat = i32 (zs xs z) := (Int32.ofInt_toInt _).symm
  rw [this]
  exact kk
theorem q_callSA (hx : p.tables.exec = Jvm.exec) (hb : c.code = cc) (hml : c.maxLocals = nL) (hls : ls.size = nL) (hown : s.vm.findClass own = some m.cls) (hK : KK g s) (hZ : ZZ base s s.heap) {b L : Nat} {xs : Nat → Int32} (hX : va_X b L xs s s.heap) (hbl : b < s.heap.size) (hbb : b < base) (hP : pic g base ad S H) (hS : va_S (fun q => base ≤ q) s.heap H locs)
    (hM : Met l y [Cond.code y bytes maxL ret] rm (va_Pc As (PX g base ad S b L xs)) (gQ g base P) rm.cells rm.slots (fun q => base ≤ q)) {is : Nat} (hst : lw_tbl[is]? = some (.static y)) (cb : CallB R s args own index y bytes maxL ret [Cond.code y bytes maxL ret] rm rm.cells rm.slots n) (hn : As.length = n) (hstk : st0 = As.reverse ++ rest) (hcat : (rest.map fun v => v.category).sum ≤ 8) (hdg : decode cc pc = .ok (.invokestatic index, 3)) {c2 s2 : Nat} (hcc : cells + rm.cells = c2 ∧ slots + rm.slots = s2) (hf : c2 ≤ R.cells ∧ s2 ≤ R.slots)
    (kk : ∀ (r : Option Value) (ad' : Nat → Nat → Nat) (S' : St) (H1 : Heap) (locs1 : List Loc), P r ad' S' → pic g base ad' S' H1 → va_S (fun q => base ≤ q) s.heap H1 locs1 → W p l e R s m args below meth c H1 locs1 c2 s2 Q (F0 m (pc + 3) ls (r.toList ++ rest))) : W p l e R s m args below meth c H locs cells slots Q (F0 m pc ls st0) := by
  obtain ⟨rfl, rfl⟩ := hcc
  refine q_go (va_runS (As := As) (rest := rest) (Ts := []) ⟨hx, hb, hml, hown, fun _ h => nomatch h⟩ hM ⟨cb, hK.b is hst rfl⟩ ⟨PX_blind, fun U hU hW => ⟨rfl, ⟨hK.warm hW, by rw [hU]; exact hZ.go hW.alike hS.2.1, by rw [hU]; exact hP⟩, ?_⟩⟩ rfl hn hls hstk (lv_room hcat) hdg hf) hS kk
  rw [hU]
  exact (hX.moved hW.alike).kept (hS.2.1 b hbl (Nat.not_le_of_lt hbb))
end QS
/-- a number of the script, or one made of its place: any -/
def anI (ad : Nat → Nat → Nat) (S : St) : Option Value → (Nat → Nat → Nat) → St → Prop := fun r ad' S' => (∃ z, rng z ∧ r = some (.int (i32 z))) ∧ ad' = ad ∧ S' = S
theorem anI_i {ad : Nat → Nat → Nat} {S : St} (z : Int) : anI ad S (some (.int (i32 z))) ad S := by
  obtain ⟨y, hy, h⟩ := i32_any z
  exact ⟨⟨y, hy, by rw [h]⟩, rfl, rfl⟩
set_option maxHeartbeats 4000000 in
set_option maxRecDepth 100000 in
theorem c_L_at (l : Launch) (g : GT) (base : Nat) (ad : Nat → Nat → Nat) (S : St) (b L : Nat) (xs : Nat → Int32) (k : Int) (hL : L ≤ 260) (hbb : b < base) (hrn : 0 ≤ k ∧ k < 2147483648) : Met l yL_at [Cond.code yL_at cL_at 2 (some FieldType.int)] ({ frames := 0, cells := 0, slots := 0, locals := 0 }) (va_Pc [.ref b, .int (i32 k)] (PX g base ad S b L xs)) (gQ g base (anI ad S)) 0 0 (fun q => base ≤ q) := by
  refine mk_metX (own := RL) (lv0 := [(0, .ref b), (1, .int (i32 k))]) (by decide) rfl (Nat.le_of_ble_eq_true rfl) rfl ?_
  intro p e s m below meth cz av Qm hx hb hr hml hown hlocks hK hZ hP hX hQm ls hl
  have hS : va_S (fun q => base ≤ q) s.heap s.heap [] := va_S.rf
  have hbl : b < s.heap.size := by
    obtain ⟨scr, h, -⟩ := hX
    exact (Array.getElem?_eq_some_iff.mp h).1
  refine lv_iload_n hx hb dL_at_0 rfl (lv_at hl 1 rfl) ?_
  refine lv_aload_n hx hb dL_at_1 rfl (lv_at hl 0 rfl) ?_
  refine va_slen hx hb hX hbl (A := fun q => base ≤ q) (Nat.not_le_of_lt hbb) hS dL_at_2 ?_
  rw [show Int32.ofNat L = i32 L from i32_nI L]
  refine q_icmp_ge (tgt := 12) hx hb ⟨by omega, by omega⟩ ⟨by omega, by omega⟩ dL_at_3 (by decide) (fun c1 => ?_) (fun c1 => ?_)
  · refine q_ldc (z := 1910757831) hx hb hown hK t_119 rfl dL_at_12 ?_
    refine lv_iload_n hx hb dL_at_14 rfl (lv_at hl 1 rfl) ?_
    refine lv_iconst (v := i32 1) hx hb dL_at_15 rfl ?_
    refine q_iadd hx hb dL_at_16 ?_
    refine q_imul hx hb dL_at_17 ?_
    refine q_ldc (z := 1003860457) hx hb hown hK t_120 rfl dL_at_18 ?_
    refine q_iadd hx hb dL_at_20 ?_
    subst hQm
    exact q_iret hx hb hr hlocks hP hS (anI_i _) (by decide) (by decide) dL_at_21
  · refine lv_aload_n hx hb dL_at_6 rfl (lv_at hl 0 rfl) ?_
    refine lv_iload_n hx hb dL_at_7 rfl (lv_at hl 1 rfl) ?_
    refine p_sld hx hb hX hbl hbb hL hS hrn.1 c1 dL_at_8 ?_
    refine lv_goto (tgt := 21) hx hb dL_at_9 (by decide) ?_
    subst hQm
    exact q_iret hx hb hr hlocks hP hS (anI_i _) (by decide) (by decide) dL_at_21
set_option maxHeartbeats 8000000 in
set_option maxRecDepth 100000 in
theorem law_run {p : Program} {l : Launch} {e : Env} {s : State} {m : MethodId} {below : List Frame} {meth : Method} {cz : Code} {av : Array Value} {Qm : State → Prop} {g : GT} {b L : Nat} {xs : Nat → Int32} (hfl : l.stackTraces = false) (hx : p.tables.exec = Jvm.exec) (hb : cz.code = cL_law) (hml : cz.maxLocals = 10) (hown : s.vm.findClass RL = some m.cls) (hK : KK g s) (hZ : ZZ s.heap.size s s.heap) (hX : va_X b L xs s s.heap) (hbl : b < s.heap.size) (hL : L ≤ 260)
    (kend : ∀ (H : Heap) (locs : List Loc) (ls : Array Slot), va_S (fun q => s.heap.size ≤ q) s.heap H locs → W p l e room_1 s m av below meth cz H locs 600104 7301314 Qm (F0 m 356 ls [.int (i32 1)]))
    {ad : Nat → Nat → Nat} {S : St} {H : Heap} {locs : List Loc} {ls : Array Slot} (hI : IV S) (hV : LV S) (h311 : S 3 1 1 = 0) (hP : pic g s.heap.size ad S H) (hS : va_S (fun q => s.heap.size ≤ q) s.heap H locs) (hl : lv_has ls 10 [(0, .ref b), (1, .ref (ad 1 0)), (2, .ref (ad 3 1)), (3, .ref (ad 3 2)), (4, .ref (ad 3 3)), (5, .ref (ad 3 4))]) : W p l e room_1 s m av below meth cz H locs 1000 100000 Qm (F0 m 29 ls []) := by
  have rS : ∀ (a1 b1 : Nat) (i1 : Int), rng (S a1 b1 i1) := fun a1 b1 i1 => hP.rg a1 b1 i1
  refine lv_aload_n hx hb dL_law_29 rfl (lv_at hl 1 rfl) ?_
  refine lv_aload_n hx hb dL_law_30 rfl (lv_at hl 2 rfl) ?_
  refine lv_aload_n hx hb dL_law_31 rfl (lv_at hl 3 rfl) ?_
  refine lv_iconst (v := i32 (0)) hx hb dL_law_32 rfl ?_
  refine lv_aload_n hx hb dL_law_33 rfl (lv_at hl 0 rfl) ?_
  refine lv_iconst (v := i32 (0)) hx hb dL_law_34 rfl ?_
  refine q_callSA (As := [.ref b, .int (i32 (0))]) (rest := [.int (i32 (0)), .ref (ad 3 2), .ref (ad 3 1), .ref (ad 1 0)]) hx hb hml hl.1 hown hK hZ hX hbl hbl hP hS (c_L_at l g s.heap.size ad S b L xs (0) hL hbl (by omega)) t_117 (q_callB hK 116 14 118 t_116 t_14 t_118 f_yL_at ⟨Nat.le_of_ble_eq_true rfl, Nat.le_of_ble_eq_true rfl⟩) rfl rfl (Nat.le_of_ble_eq_true rfl) dL_law_35 (c2 := 1000) (s2 := 100000) ⟨rfl, rfl⟩ ⟨by show 1000 ≤ 600104; omega, by show 100000 ≤ 7301314; omega⟩ (fun rr ad' S' H locs hQ hP hS => ?_)
  obtain ⟨⟨z1, rz1, hr9⟩, ha9, hs9⟩ := hQ
  subst hr9
  rw [ha9, hs9] at hP
  refine q_callS2 (As := [.ref (ad 1 0), .ref (ad 3 1), .ref (ad 3 2), .int (i32 (0)), .int (i32 (z1))]) (rest := []) hx hb hml hl.1 hown hK hZ hP hS (c_L_draws l g s.heap.size ad S ((0 : Int)) z1 hfl hI hV ⟨by decide, by decide⟩ rz1) t_348 (q_callB hK 347 14 349 t_347 t_14 t_349 f_yL_draws ⟨Nat.le_of_ble_eq_true rfl, Nat.le_of_ble_eq_true rfl⟩) rfl rfl (Nat.le_of_ble_eq_true rfl) dL_law_38 (c2 := 1010) (s2 := 100125) ⟨by first | rfl | (dsimp only; omega), by first | rfl | (dsimp only; omega)⟩ ⟨by show 1010 ≤ 600104; omega, by show 100125 ≤ 7301314; omega⟩ (fun rr ad' S' H locs hQ hP hS => ?_)
  obtain ⟨⟨⟨hr9, ek9⟩, hI9, hV9⟩, hW9⟩ := hQ
  subst hr9
  obtain ⟨S2, hS2⟩ : ∃ s9 : St, s9 = S' := ⟨_, rfl⟩
  rw [← hS2] at hI9 hV9 hP hW9
  obtain ⟨ad3, had3⟩ : ∃ a9 : Nat → Nat → Nat, a9 = ad' := ⟨_, rfl⟩
  rw [← had3] at ek9 hP
  have el_ad3 : ∀ x q, x < 4 → ad3 x q = ad x q := ek9
  have hl : lv_has ls 10 [(0, .ref b), (1, .ref (ad3 1 0)), (2, .ref (ad3 3 1)), (3, .ref (ad3 3 2)), (4, .ref (ad3 3 3)), (5, .ref (ad3 3 4))] := by
    have t9 := hl
    rw [← el_ad3 1 0 (by decide), ← el_ad3 3 1 (by decide), ← el_ad3 3 2 (by decide), ← el_ad3 3 3 (by decide), ← el_ad3 3 4 (by decide)] at t9
    exact t9
  skip
  have ivS2 : IV S2 := hI9
  have lvS2 : LV S2 := hV9
  have hwS2 := hW9
  have rS2 : ∀ (a1 b1 : Nat) (i1 : Int), rng (S2 a1 b1 i1) := fun a1 b1 i1 => hP.rg a1 b1 i1
  refine q_if_eq (tgt := 93) hx hb ⟨by decide, by decide⟩ dL_law_41 (by decide) (fun h => by omega) (fun _ => ?_)
  refine lv_aload_n hx hb dL_law_44 rfl (lv_at hl 1 rfl) ?_
  refine lv_aload_n hx hb dL_law_45 rfl (lv_at hl 2 rfl) ?_
  refine lv_aload_n hx hb dL_law_46 rfl (lv_at hl 3 rfl) ?_
  refine lv_iconst (v := i32 (1)) hx hb dL_law_47 rfl ?_
  refine lv_aload_n hx hb dL_law_48 rfl (lv_at hl 0 rfl) ?_
  refine lv_iconst (v := i32 (1)) hx hb dL_law_49 rfl ?_
  refine q_callSA (As := [.ref b, .int (i32 (1))]) (rest := [.int (i32 (1)), .ref (ad3 3 2), .ref (ad3 3 1), .ref (ad3 1 0)]) hx hb hml hl.1 hown hK hZ hX hbl hbl hP hS (c_L_at l g s.heap.size ad3 S2 b L xs (1) hL hbl (by omega)) t_117 (q_callB hK 116 14 118 t_116 t_14 t_118 f_yL_at ⟨Nat.le_of_ble_eq_true rfl, Nat.le_of_ble_eq_true rfl⟩) rfl rfl (Nat.le_of_ble_eq_true rfl) dL_law_50 (c2 := 1010) (s2 := 100125) ⟨rfl, rfl⟩ ⟨by show 1010 ≤ 600104; omega, by show 100125 ≤ 7301314; omega⟩ (fun rr ad' S' H locs hQ hP hS => ?_)
  obtain ⟨⟨z4, rz4, hr9⟩, ha9, hs9⟩ := hQ
  subst hr9
  rw [ha9, hs9] at hP
  refine q_callS2 (As := [.ref (ad3 1 0), .ref (ad3 3 1), .ref (ad3 3 2), .int (i32 (1)), .int (i32 (z4))]) (rest := []) hx hb hml hl.1 hown hK hZ hP hS (c_L_draws l g s.heap.size ad3 S2 ((1 : Int)) z4 hfl ivS2 lvS2 ⟨by decide, by decide⟩ rz4) t_348 (q_callB hK 347 14 349 t_347 t_14 t_349 f_yL_draws ⟨Nat.le_of_ble_eq_true rfl, Nat.le_of_ble_eq_true rfl⟩) rfl rfl (Nat.le_of_ble_eq_true rfl) dL_law_53 (c2 := 1020) (s2 := 100250) ⟨by first | rfl | (dsimp only; omega), by first | rfl | (dsimp only; omega)⟩ ⟨by show 1020 ≤ 600104; omega, by show 100250 ≤ 7301314; omega⟩ (fun rr ad' S' H locs hQ hP hS => ?_)
  obtain ⟨⟨⟨hr9, ek9⟩, hI9, hV9⟩, hW9⟩ := hQ
  subst hr9
  obtain ⟨S5, hS5⟩ : ∃ s9 : St, s9 = S' := ⟨_, rfl⟩
  rw [← hS5] at hI9 hV9 hP hW9
  obtain ⟨ad6, had6⟩ : ∃ a9 : Nat → Nat → Nat, a9 = ad' := ⟨_, rfl⟩
  rw [← had6] at ek9 hP
  have el_ad6 : ∀ x q, x < 4 → ad6 x q = ad3 x q := ek9
  have hl : lv_has ls 10 [(0, .ref b), (1, .ref (ad6 1 0)), (2, .ref (ad6 3 1)), (3, .ref (ad6 3 2)), (4, .ref (ad6 3 3)), (5, .ref (ad6 3 4))] := by
    have t9 := hl
    rw [← el_ad6 1 0 (by decide), ← el_ad6 3 1 (by decide), ← el_ad6 3 2 (by decide), ← el_ad6 3 3 (by decide), ← el_ad6 3 4 (by decide)] at t9
    exact t9
  skip
  have ivS5 : IV S5 := hI9
  have lvS5 : LV S5 := hV9
  have hwS5 := hW9
  have rS5 : ∀ (a1 b1 : Nat) (i1 : Int), rng (S5 a1 b1 i1) := fun a1 b1 i1 => hP.rg a1 b1 i1
  refine q_if_eq (tgt := 93) hx hb ⟨by decide, by decide⟩ dL_law_56 (by decide) (fun h => by omega) (fun _ => ?_)
  refine lv_aload_n hx hb dL_law_59 rfl (lv_at hl 1 rfl) ?_
  refine lv_aload_n hx hb dL_law_60 rfl (lv_at hl 2 rfl) ?_
  refine lv_aload_n hx hb dL_law_61 rfl (lv_at hl 3 rfl) ?_
  refine lv_iconst (v := i32 (1)) hx hb dL_law_62 rfl ?_
  refine lv_aload_n hx hb dL_law_63 rfl (lv_at hl 0 rfl) ?_
  refine lv_iconst (v := i32 (2)) hx hb dL_law_64 rfl ?_
  refine q_callSA (As := [.ref b, .int (i32 (2))]) (rest := [.int (i32 (1)), .ref (ad6 3 2), .ref (ad6 3 1), .ref (ad6 1 0)]) hx hb hml hl.1 hown hK hZ hX hbl hbl hP hS (c_L_at l g s.heap.size ad6 S5 b L xs (2) hL hbl (by omega)) t_117 (q_callB hK 116 14 118 t_116 t_14 t_118 f_yL_at ⟨Nat.le_of_ble_eq_true rfl, Nat.le_of_ble_eq_true rfl⟩) rfl rfl (Nat.le_of_ble_eq_true rfl) dL_law_65 (c2 := 1020) (s2 := 100250) ⟨rfl, rfl⟩ ⟨by show 1020 ≤ 600104; omega, by show 100250 ≤ 7301314; omega⟩ (fun rr ad' S' H locs hQ hP hS => ?_)
  obtain ⟨⟨z7, rz7, hr9⟩, ha9, hs9⟩ := hQ
  subst hr9
  rw [ha9, hs9] at hP
  refine q_callS2 (As := [.ref (ad6 1 0), .ref (ad6 3 1), .ref (ad6 3 2), .int (i32 (1)), .int (i32 (z7))]) (rest := []) hx hb hml hl.1 hown hK hZ hP hS (c_L_draws l g s.heap.size ad6 S5 ((1 : Int)) z7 hfl ivS5 lvS5 ⟨by decide, by decide⟩ rz7) t_348 (q_callB hK 347 14 349 t_347 t_14 t_349 f_yL_draws ⟨Nat.le_of_ble_eq_true rfl, Nat.le_of_ble_eq_true rfl⟩) rfl rfl (Nat.le_of_ble_eq_true rfl) dL_law_68 (c2 := 1030) (s2 := 100375) ⟨by first | rfl | (dsimp only; omega), by first | rfl | (dsimp only; omega)⟩ ⟨by show 1030 ≤ 600104; omega, by show 100375 ≤ 7301314; omega⟩ (fun rr ad' S' H locs hQ hP hS => ?_)
  obtain ⟨⟨⟨hr9, ek9⟩, hI9, hV9⟩, hW9⟩ := hQ
  subst hr9
  obtain ⟨S8, hS8⟩ : ∃ s9 : St, s9 = S' := ⟨_, rfl⟩
  rw [← hS8] at hI9 hV9 hP hW9
  obtain ⟨ad9, had9⟩ : ∃ a9 : Nat → Nat → Nat, a9 = ad' := ⟨_, rfl⟩
  rw [← had9] at ek9 hP
  have el_ad9 : ∀ x q, x < 4 → ad9 x q = ad6 x q := ek9
  have hl : lv_has ls 10 [(0, .ref b), (1, .ref (ad9 1 0)), (2, .ref (ad9 3 1)), (3, .ref (ad9 3 2)), (4, .ref (ad9 3 3)), (5, .ref (ad9 3 4))] := by
    have t9 := hl
    rw [← el_ad9 1 0 (by decide), ← el_ad9 3 1 (by decide), ← el_ad9 3 2 (by decide), ← el_ad9 3 3 (by decide), ← el_ad9 3 4 (by decide)] at t9
    exact t9
  skip
  have ivS8 : IV S8 := hI9
  have lvS8 : LV S8 := hV9
  have hwS8 := hW9
  have rS8 : ∀ (a1 b1 : Nat) (i1 : Int), rng (S8 a1 b1 i1) := fun a1 b1 i1 => hP.rg a1 b1 i1
  refine q_if_eq (tgt := 93) hx hb ⟨by decide, by decide⟩ dL_law_71 (by decide) (fun h => by omega) (fun _ => ?_)
  refine lv_aload_n hx hb dL_law_74 rfl (lv_at hl 1 rfl) ?_
  refine lv_aload_n hx hb dL_law_75 rfl (lv_at hl 2 rfl) ?_
  refine lv_aload_n hx hb dL_law_76 rfl (lv_at hl 3 rfl) ?_
  refine lv_iconst (v := i32 (1)) hx hb dL_law_77 rfl ?_
  refine lv_aload_n hx hb dL_law_78 rfl (lv_at hl 0 rfl) ?_
  refine lv_iconst (v := i32 (3)) hx hb dL_law_79 rfl ?_
  refine q_callSA (As := [.ref b, .int (i32 (3))]) (rest := [.int (i32 (1)), .ref (ad9 3 2), .ref (ad9 3 1), .ref (ad9 1 0)]) hx hb hml hl.1 hown hK hZ hX hbl hbl hP hS (c_L_at l g s.heap.size ad9 S8 b L xs (3) hL hbl (by omega)) t_117 (q_callB hK 116 14 118 t_116 t_14 t_118 f_yL_at ⟨Nat.le_of_ble_eq_true rfl, Nat.le_of_ble_eq_true rfl⟩) rfl rfl (Nat.le_of_ble_eq_true rfl) dL_law_80 (c2 := 1030) (s2 := 100375) ⟨rfl, rfl⟩ ⟨by show 1030 ≤ 600104; omega, by show 100375 ≤ 7301314; omega⟩ (fun rr ad' S' H locs hQ hP hS => ?_)
  obtain ⟨⟨z10, rz10, hr9⟩, ha9, hs9⟩ := hQ
  subst hr9
  rw [ha9, hs9] at hP
  refine q_callS2 (As := [.ref (ad9 1 0), .ref (ad9 3 1), .ref (ad9 3 2), .int (i32 (1)), .int (i32 (z10))]) (rest := []) hx hb hml hl.1 hown hK hZ hP hS (c_L_draws l g s.heap.size ad9 S8 ((1 : Int)) z10 hfl ivS8 lvS8 ⟨by decide, by decide⟩ rz10) t_348 (q_callB hK 347 14 349 t_347 t_14 t_349 f_yL_draws ⟨Nat.le_of_ble_eq_true rfl, Nat.le_of_ble_eq_true rfl⟩) rfl rfl (Nat.le_of_ble_eq_true rfl) dL_law_83 (c2 := 1040) (s2 := 100500) ⟨by first | rfl | (dsimp only; omega), by first | rfl | (dsimp only; omega)⟩ ⟨by show 1040 ≤ 600104; omega, by show 100500 ≤ 7301314; omega⟩ (fun rr ad' S' H locs hQ hP hS => ?_)
  obtain ⟨⟨⟨hr9, ek9⟩, hI9, hV9⟩, hW9⟩ := hQ
  subst hr9
  obtain ⟨S11, hS11⟩ : ∃ s9 : St, s9 = S' := ⟨_, rfl⟩
  rw [← hS11] at hI9 hV9 hP hW9
  obtain ⟨ad12, had12⟩ : ∃ a9 : Nat → Nat → Nat, a9 = ad' := ⟨_, rfl⟩
  rw [← had12] at ek9 hP
  have el_ad12 : ∀ x q, x < 4 → ad12 x q = ad9 x q := ek9
  have hl : lv_has ls 10 [(0, .ref b), (1, .ref (ad12 1 0)), (2, .ref (ad12 3 1)), (3, .ref (ad12 3 2)), (4, .ref (ad12 3 3)), (5, .ref (ad12 3 4))] := by
    have t9 := hl
    rw [← el_ad12 1 0 (by decide), ← el_ad12 3 1 (by decide), ← el_ad12 3 2 (by decide), ← el_ad12 3 3 (by decide), ← el_ad12 3 4 (by decide)] at t9
    exact t9
  skip
  have ivS11 : IV S11 := hI9
  have lvS11 : LV S11 := hV9
  have hwS11 := hW9
  have rS11 : ∀ (a1 b1 : Nat) (i1 : Int), rng (S11 a1 b1 i1) := fun a1 b1 i1 => hP.rg a1 b1 i1
  refine q_if_eq (tgt := 93) hx hb ⟨by decide, by decide⟩ dL_law_86 (by decide) (fun h => by omega) (fun _ => ?_)
  refine lv_iconst (v := i32 (1)) hx hb dL_law_89 rfl ?_
  refine lv_goto (tgt := 94) hx hb dL_law_90 (by decide) ?_
  refine lv_istore (lv' := [(6, .int (i32 (1))), (0, .ref b), (1, .ref (ad12 1 0)), (2, .ref (ad12 3 1)), (3, .ref (ad12 3 2)), (4, .ref (ad12 3 3)), (5, .ref (ad12 3 4))]) hx hb dL_law_94 hl (by decide) rfl (fun ls hl => ?_)
  refine lv_iconst (v := i32 (0)) hx hb dL_law_96 rfl ?_
  refine lv_istore (lv' := [(7, .int (i32 (0))), (6, .int (i32 (1))), (0, .ref b), (1, .ref (ad12 1 0)), (2, .ref (ad12 3 1)), (3, .ref (ad12 3 2)), (4, .ref (ad12 3 3)), (5, .ref (ad12 3 4))]) hx hb dL_law_97 hl (by decide) rfl (fun ls hl => ?_)
  have L99 : ∀ (k : Nat) (kd : Int) (Sa : St) (cc99 sc99 : Nat) (H : Heap) (locs : List Loc) (ls : Array Slot), (IV Sa) → (LV Sa) → (0 ≤ kd ∧ kd ≤ 6) → (Sa 3 1 1 = kd) → 6 - kd < (k : Int) → (cc99 + 2 * k ≤ 1054 ∧ sc99 + 12 * k ≤ 100584) → pic g s.heap.size ad12 Sa H → va_S (fun q => s.heap.size ≤ q) s.heap H locs → lv_has ls 10 [(7, .int (i32 (kd))), (6, .int (i32 (1))), (0, .ref b), (1, .ref (ad12 1 0)), (2, .ref (ad12 3 1)), (3, .ref (ad12 3 2)), (4, .ref (ad12 3 3)), (5, .ref (ad12 3 4))] → W p l e room_1 s m av below meth cz H locs cc99 sc99 Qm (F0 m 99 ls []) := by
    intro k
    induction k with
    | zero => intro kd Sa cc99 sc99 H locs ls zI zV zk zl hmu _ _ _ _; exact absurd hmu (by omega)
    | succ k ih99 =>
      intro kd Sa cc99 sc99 H locs ls zI zV zk zl hmu hcs99 hP hS hl
      have rSa : ∀ (a1 b1 : Nat) (i1 : Int), rng (Sa a1 b1 i1) := fun a1 b1 i1 => hP.rg a1 b1 i1
      refine lv_iload hx hb dL_law_99 (lv_at hl 0 rfl) ?_
      refine lv_bipush (v := i32 (6)) hx hb dL_law_101 (by decide) ?_
      refine q_icmp_ge (tgt := 182) hx hb ⟨by omega, by omega⟩ ⟨by decide, by decide⟩ dL_law_103 (by decide) (fun c_13 => ?_) (fun c_13 => ?_)
      · -- 6 ≤ kd
        refine lv_iconst (v := i32 (3)) hx hb dL_law_182 rfl ?_
        refine lv_istore (lv' := [(7, .int (i32 (3))), (6, .int (i32 (1))), (0, .ref b), (1, .ref (ad12 1 0)), (2, .ref (ad12 3 1)), (3, .ref (ad12 3 2)), (4, .ref (ad12 3 3)), (5, .ref (ad12 3 4))]) hx hb dL_law_183 hl (by decide) rfl (fun ls hl => ?_)
        have L185 : ∀ (k : Nat) (ka : Int) (Sb : St) (adb : Nat → Nat → Nat) (cc185 sc185 : Nat) (H : Heap) (locs : List Loc) (ls : Array Slot), (IV Sb) → (LV Sb) → (3 ≤ ka ∧ ka ≤ 60) → 60 - ka < (k : Int) → (cc185 + 2970 * k ≤ 173312 ∧ sc185 + 18559 * k ≤ 1176994) → pic g s.heap.size adb Sb H → va_S (fun q => s.heap.size ≤ q) s.heap H locs → lv_has ls 10 [(7, .int (i32 (ka))), (6, .int (i32 (1))), (0, .ref b), (1, .ref (adb 1 0)), (2, .ref (adb 3 1)), (3, .ref (adb 3 2)), (4, .ref (adb 3 3)), (5, .ref (adb 3 4))] → W p l e room_1 s m av below meth cz H locs cc185 sc185 Qm (F0 m 185 ls []) := by
          intro k
          induction k with
          | zero => intro ka Sb adb cc185 sc185 H locs ls yI yV yk hmu _ _ _ _; exact absurd hmu (by omega)
          | succ k ih185 =>
            intro ka Sb adb cc185 sc185 H locs ls yI yV yk hmu hcs185 hP hS hl
            have rSb : ∀ (a1 b1 : Nat) (i1 : Int), rng (Sb a1 b1 i1) := fun a1 b1 i1 => hP.rg a1 b1 i1
            refine lv_iload hx hb dL_law_185 (lv_at hl 0 rfl) ?_
            refine lv_bipush (v := i32 (60)) hx hb dL_law_187 (by decide) ?_
            refine q_icmp_ge (tgt := 233) hx hb ⟨by omega, by omega⟩ ⟨by decide, by decide⟩ dL_law_189 (by decide) (fun c_14 => ?_) (fun c_14 => ?_)
            · -- 60 ≤ ka
              refine lv_iconst (v := i32 (0)) hx hb dL_law_233 rfl ?_
              refine lv_istore (lv' := [(7, .int (i32 (0))), (6, .int (i32 (1))), (0, .ref b), (1, .ref (adb 1 0)), (2, .ref (adb 3 1)), (3, .ref (adb 3 2)), (4, .ref (adb 3 3)), (5, .ref (adb 3 4))]) hx hb dL_law_234 hl (by decide) rfl (fun ls hl => ?_)
              refine lv_iconst (v := i32 (0)) hx hb dL_law_236 rfl ?_
              refine lv_istore (lv' := [(8, .int (i32 (0))), (7, .int (i32 (0))), (6, .int (i32 (1))), (0, .ref b), (1, .ref (adb 1 0)), (2, .ref (adb 3 1)), (3, .ref (adb 3 2)), (4, .ref (adb 3 3)), (5, .ref (adb 3 4))]) hx hb dL_law_237 hl (by decide) rfl (fun ls hl => ?_)
              have L239 : ∀ (k : Nat) (kl lf : Int) (cc239 sc239 : Nat) (H : Heap) (locs : List Loc) (ls : Array Slot), (0 ≤ kl ∧ kl ≤ 20) → (0 ≤ lf ∧ lf ≤ 999 * kl) → 20 - kl < (k : Int) → (cc239 + 1 * k ≤ 170363 ∧ sc239 + 6 * k ≤ 1158561) → pic g s.heap.size adb Sb H → va_S (fun q => s.heap.size ≤ q) s.heap H locs → lv_has ls 10 [(8, .int (i32 (kl))), (7, .int (i32 (lf))), (6, .int (i32 (1))), (0, .ref b), (1, .ref (adb 1 0)), (2, .ref (adb 3 1)), (3, .ref (adb 3 2)), (4, .ref (adb 3 3)), (5, .ref (adb 3 4))] → W p l e room_1 s m av below meth cz H locs cc239 sc239 Qm (F0 m 239 ls []) := by
                intro k
                induction k with
                | zero => intro kl lf cc239 sc239 H locs ls xk xf hmu _ _ _ _; exact absurd hmu (by omega)
                | succ k ih239 =>
                  intro kl lf cc239 sc239 H locs ls xk xf hmu hcs239 hP hS hl
                  refine lv_iload hx hb dL_law_239 (lv_at hl 0 rfl) ?_
                  refine lv_aload_n hx hb dL_law_241 rfl (lv_at hl 5 rfl) ?_
                  refine lv_iconst (v := i32 (1)) hx hb dL_law_242 rfl ?_
                  refine p_iald (k := 3) (r := 1) (n := 4) hx hb hK hP yI.a.2.2 rfl rfl (by decide) (by decide) (by omega) (by omega) dL_law_243 ?_
                  have xl := yI.l.1
                  have xv := yV.1.2.1
                  refine q_icmp_ge (tgt := 285) hx hb ⟨by omega, by omega⟩ (rSb _ _ _) dL_law_244 (by decide) (fun c_15 => ?_) (fun c_15 => ?_)
                  · -- (Sb 3 1 1) ≤ kl
                    refine lv_iconst (v := i32 (0)) hx hb dL_law_285 rfl ?_
                    refine lv_istore (lv' := [(8, .int (i32 (0))), (7, .int (i32 (lf))), (6, .int (i32 (1))), (0, .ref b), (1, .ref (adb 1 0)), (2, .ref (adb 3 1)), (3, .ref (adb 3 2)), (4, .ref (adb 3 3)), (5, .ref (adb 3 4))]) hx hb dL_law_286 hl (by decide) rfl (fun ls hl => ?_)
                    have L288 : ∀ (k : Nat) (kp : Int) (cc288 sc288 : Nat) (H : Heap) (locs : List Loc) (ls : Array Slot), (0 ≤ kp ∧ kp ≤ 20) → 20 - kp < (k : Int) → (cc288 + 1462 * k ≤ 201064 ∧ sc288 + 8772 * k ≤ 1342767) → pic g s.heap.size adb Sb H → va_S (fun q => s.heap.size ≤ q) s.heap H locs → lv_has ls 10 [(8, .int (i32 (kp))), (7, .int (i32 (lf))), (6, .int (i32 (1))), (0, .ref b), (1, .ref (adb 1 0)), (2, .ref (adb 3 1)), (3, .ref (adb 3 2)), (4, .ref (adb 3 3)), (5, .ref (adb 3 4))] → W p l e room_1 s m av below meth cz H locs cc288 sc288 Qm (F0 m 288 ls []) := by
                      intro k
                      induction k with
                      | zero => intro kp cc288 sc288 H locs ls wk hmu _ _ _ _; exact absurd hmu (by omega)
                      | succ k ih288 =>
                        intro kp cc288 sc288 H locs ls wk hmu hcs288 hP hS hl
                        refine lv_iload hx hb dL_law_288 (lv_at hl 0 rfl) ?_
                        refine lv_aload_n hx hb dL_law_290 rfl (lv_at hl 5 rfl) ?_
                        refine lv_iconst (v := i32 (2)) hx hb dL_law_291 rfl ?_
                        refine p_iald (k := 3) (r := 1) (n := 4) hx hb hK hP yI.a.2.2 rfl rfl (by decide) (by decide) (by omega) (by omega) dL_law_292 ?_
                        have wp := yI.p.1
                        have wv := yV.1.2.2
                        refine q_icmp_ge (tgt := 334) hx hb ⟨by omega, by omega⟩ (rSb _ _ _) dL_law_293 (by decide) (fun c_16 => ?_) (fun c_16 => ?_)
                        · -- (Sb 3 1 2) ≤ kp
                          refine lv_iload hx hb dL_law_334 (lv_at hl 2 rfl) ?_
                          refine q_if_eq (tgt := 355) hx hb ⟨by decide, by decide⟩ dL_law_336 (by decide) (fun h => by omega) (fun _ => ?_)
                          refine lv_iload hx hb dL_law_339 (lv_at hl 1 rfl) ?_
                          refine q_if_lt (tgt := 355) hx hb ⟨by omega, by omega⟩ dL_law_341 (by decide) (fun c_17 => (by exfalso; omega)) (fun c_17 => ?_)
                          refine lv_aload_n hx hb dL_law_344 rfl (lv_at hl 4 rfl) ?_
                          refine q_callV2 (k := 1) (As := []) (rest := []) hx hb hml hl.1 hown hK hZ hP hS yI.a.1 rfl rfl rfl (c_X3_balances l g s.heap.size adb Sb  yI.wc) t_91 t_92 (q_callB hK 90 15 93 t_90 t_15 t_93 f_yX3_balances ⟨Nat.le_of_ble_eq_true rfl, Nat.le_of_ble_eq_true rfl⟩) rfl rfl (Nat.le_of_ble_eq_true rfl) dL_law_345 (c2 := cc288 + 0) (s2 := sc288 + 0) ⟨by first | rfl | (dsimp only; omega), by first | rfl | (dsimp only; omega)⟩ ⟨by show cc288 + 0 ≤ 600104; omega, by show sc288 + 0 ≤ 7301314; omega⟩ (q_an (fun H locs hP hS => ?_))
                          generalize eS18 : blS Sb 20 = S18 at hP
                          have rS18 : ∀ (a1 b1 : Nat) (i1 : Int), rng (S18 a1 b1 i1) := fun a1 b1 i1 => hP.rg a1 b1 i1
                          have ivS18 : IV S18 := by rw [← eS18]; exact IV_bl yI
                          have h3S18 : ∀ (b1 : Nat) (i1 : Int), S18 3 b1 i1 = Sb 3 b1 i1 := by rw [← eS18]; exact fun b i => blS_o (by omega)
                          refine q_if_eqb (tgt := 355) hx hb dL_law_348 (by decide) (fun c_19 => (by exfalso; exact c_19 yI.b)) (fun c_19 => ?_)
                          refine lv_iconst (v := i32 (1)) hx hb dL_law_351 rfl ?_
                          refine lv_goto (tgt := 356) hx hb dL_law_352 (by decide) ?_
                          exact W.widen (by show cc288 + 0 ≤ 600104; omega) (by show sc288 + 0 ≤ 7301314; omega) (kend _ _ _ hS)
                        · -- kp < (Sb 3 1 2)
                          refine lv_iload hx hb dL_law_296 (lv_at hl 2 rfl) ?_
                          refine q_if_eq (tgt := 334) hx hb ⟨by decide, by decide⟩ dL_law_298 (by decide) (fun h => by omega) (fun _ => ?_)
                          refine lv_aload_n hx hb dL_law_301 rfl (lv_at hl 4 rfl) ?_
                          refine lv_iload hx hb dL_law_302 (lv_at hl 0 rfl) ?_
                          refine q_callS2 (As := [.ref (adb 1 0), .int (i32 (kp))]) (rest := []) hx hb hml hl.1 hown hK hZ hP hS (c_L_isThere l g s.heap.size adb Sb kp hfl yI ⟨by omega, by omega⟩) t_264 (q_callB hK 263 14 265 t_263 t_14 t_265 f_yL_isThere ⟨Nat.le_of_ble_eq_true rfl, Nat.le_of_ble_eq_true rfl⟩) rfl rfl (Nat.le_of_ble_eq_true rfl) dL_law_304 (c2 := cc288 + 2) (s2 := sc288 + 12) ⟨by first | rfl | (dsimp only; omega), by first | rfl | (dsimp only; omega)⟩ ⟨by show cc288 + 2 ≤ 600104; omega, by show sc288 + 12 ≤ 7301314; omega⟩ (q_an (fun H locs hP hS => ?_))
                          refine q_if_eqb (tgt := 321) hx hb dL_law_307 (by decide) (fun c_20 => ?_) (fun c_20 => ?_)
                          · -- ¬ (peC Sb kp)
                            refine lv_iconst (v := i32 (1)) hx hb dL_law_321 rfl ?_
                            refine lv_goto (tgt := 326) hx hb dL_law_322 (by decide) ?_
                            refine lv_istore (lv' := [(6, .int (i32 (1))), (8, .int (i32 (kp))), (7, .int (i32 (lf))), (0, .ref b), (1, .ref (adb 1 0)), (2, .ref (adb 3 1)), (3, .ref (adb 3 2)), (4, .ref (adb 3 3)), (5, .ref (adb 3 4))]) hx hb dL_law_326 hl (by decide) rfl (fun ls hl => ?_)
                            refine lv_iinc (v := i32 (kp + 1)) (lv' := [(8, .int (i32 (kp + 1))), (6, .int (i32 (1))), (7, .int (i32 (lf))), (0, .ref b), (1, .ref (adb 1 0)), (2, .ref (adb 3 1)), (3, .ref (adb 3 2)), (4, .ref (adb 3 3)), (5, .ref (adb 3 4))]) hx hb dL_law_328 hl (k := 1) rfl (i32_add _ _) (by decide) rfl (fun ls hl => ?_)
                            refine lv_goto (tgt := 288) hx hb dL_law_331 (by decide) ?_
                            exact ih288 (kp + 1) (cc288 + 2) (sc288 + 12) _ _ _ (by omega) (by omega) (by omega) hP hS (lv_sub hl [0, 2, 1, 3, 4, 5, 6, 7, 8] rfl)
                          · -- peC Sb kp
                            refine lv_aload_n hx hb dL_law_310 rfl (lv_at hl 4 rfl) ?_
                            refine lv_aload hx hb dL_law_311 (lv_at hl 7 rfl) ?_
                            refine lv_iload hx hb dL_law_313 (lv_at hl 0 rfl) ?_
                            refine q_callS2 (As := [.ref (adb 1 0), .ref (adb 3 3), .int (i32 (kp))]) (rest := []) hx hb hml hl.1 hown hK hZ hP hS (c_L_isPiece l g s.heap.size adb Sb kp hfl yI c_20 yV.2.2.2 ⟨by omega, by omega⟩) t_329 (q_callB hK 328 14 330 t_328 t_14 t_330 f_yL_isPiece ⟨Nat.le_of_ble_eq_true rfl, Nat.le_of_ble_eq_true rfl⟩) rfl rfl (Nat.le_of_ble_eq_true rfl) dL_law_315 (c2 := cc288 + 1462) (s2 := sc288 + 8772) ⟨by first | rfl | (dsimp only; omega), by first | rfl | (dsimp only; omega)⟩ ⟨by show cc288 + 1462 ≤ 600104; omega, by show sc288 + 8772 ≤ 7301314; omega⟩ (q_an (fun H locs hP hS => ?_))
                            refine q_if_eq (tgt := 325) hx hb ⟨by decide, by decide⟩ dL_law_318 (by decide) (fun h => by omega) (fun _ => ?_)
                            refine lv_iconst (v := i32 (1)) hx hb dL_law_321 rfl ?_
                            refine lv_goto (tgt := 326) hx hb dL_law_322 (by decide) ?_
                            refine lv_istore (lv' := [(6, .int (i32 (1))), (8, .int (i32 (kp))), (7, .int (i32 (lf))), (0, .ref b), (1, .ref (adb 1 0)), (2, .ref (adb 3 1)), (3, .ref (adb 3 2)), (4, .ref (adb 3 3)), (5, .ref (adb 3 4))]) hx hb dL_law_326 hl (by decide) rfl (fun ls hl => ?_)
                            refine lv_iinc (v := i32 (kp + 1)) (lv' := [(8, .int (i32 (kp + 1))), (6, .int (i32 (1))), (7, .int (i32 (lf))), (0, .ref b), (1, .ref (adb 1 0)), (2, .ref (adb 3 1)), (3, .ref (adb 3 2)), (4, .ref (adb 3 3)), (5, .ref (adb 3 4))]) hx hb dL_law_328 hl (k := 1) rfl (i32_add _ _) (by decide) rfl (fun ls hl => ?_)
                            refine lv_goto (tgt := 288) hx hb dL_law_331 (by decide) ?_
                            exact ih288 (kp + 1) (cc288 + 1462) (sc288 + 8772) _ _ _ (by omega) (by omega) (by omega) hP hS (lv_sub hl [0, 2, 1, 3, 4, 5, 6, 7, 8] rfl)
                    exact L288 ((20 - 0) + 1 : Int).toNat 0 (cc239 + 0) (sc239 + 0) _ _ _ (by omega) (by omega) (by omega) hP hS (lv_sub hl [0, 1, 2, 3, 4, 5, 6, 7, 8] rfl)
                  · -- kl < (Sb 3 1 1)
                    refine lv_iload hx hb dL_law_247 (lv_at hl 2 rfl) ?_
                    refine q_if_eq (tgt := 285) hx hb ⟨by decide, by decide⟩ dL_law_249 (by decide) (fun h => by omega) (fun _ => ?_)
                    refine lv_aload_n hx hb dL_law_252 rfl (lv_at hl 4 rfl) ?_
                    refine lv_iload hx hb dL_law_253 (lv_at hl 0 rfl) ?_
                    have hk9 : kl < Sb 2 0 0 := by have := yV.1.2.1; omega
                    have hlb := (yI.l.2.1 kl (by omega) (by have := yI.l.1; omega)).2.1
                    obtain ⟨hd, hhd⟩ : ∃ hd : Int, Sb 2 4 kl = hd := ⟨_, rfl⟩
                    rw [hhd] at hlb
                    refine q_callH2 (As := [.ref (adb 1 0), .int (i32 (kl))]) (rest := []) hx hb hml hl.1 hown hK hZ hP hS (c_L_left l g s.heap.size adb Sb kl hfl yI.wc ⟨by omega, by omega⟩) t_251 t_14 t_253 t_252 f_yL_left ⟨Nat.le_of_ble_eq_true rfl, Nat.le_of_ble_eq_true rfl⟩ rfl rfl (Nat.le_of_ble_eq_true rfl) dL_law_255 (c2 := cc239 + 1) (s2 := sc239 + 6) ⟨by first | rfl | (dsimp only; omega), by first | rfl | (dsimp only; omega)⟩ ⟨by show cc239 + 1 ≤ 600104; omega, by show sc239 + 6 ≤ 7301314; omega⟩ (q_an (fun H locs hP hS => ?_))
                    refine q_nm (b := hd) ((lv_0 ⟨by omega, hk9⟩ trivial trivial).trans hhd) ?_
                    refine lv_istore (lv' := [(9, .int (i32 (hd))), (8, .int (i32 (kl))), (7, .int (i32 (lf))), (6, .int (i32 (1))), (0, .ref b), (1, .ref (adb 1 0)), (2, .ref (adb 3 1)), (3, .ref (adb 3 2)), (4, .ref (adb 3 3)), (5, .ref (adb 3 4))]) hx hb dL_law_258 hl (by decide) rfl (fun ls hl => ?_)
                    refine lv_iload hx hb dL_law_260 (lv_at hl 2 rfl) ?_
                    refine lv_iload hx hb dL_law_262 (lv_at hl 0 rfl) ?_
                    refine q_iadd hx hb dL_law_264 ?_
                    refine lv_istore (lv' := [(7, .int (i32 (lf + hd))), (9, .int (i32 (hd))), (8, .int (i32 (kl))), (6, .int (i32 (1))), (0, .ref b), (1, .ref (adb 1 0)), (2, .ref (adb 3 1)), (3, .ref (adb 3 2)), (4, .ref (adb 3 3)), (5, .ref (adb 3 4))]) hx hb dL_law_265 hl (by decide) rfl (fun ls hl => ?_)
                    refine lv_iload hx hb dL_law_267 (lv_at hl 1 rfl) ?_
                    refine q_if_lt (tgt := 276) hx hb ⟨by omega, by omega⟩ dL_law_269 (by decide) (fun c_21 => (by exfalso; omega)) (fun c_21 => ?_)
                    refine lv_iconst (v := i32 (1)) hx hb dL_law_272 rfl ?_
                    refine lv_goto (tgt := 277) hx hb dL_law_273 (by decide) ?_
                    refine lv_istore (lv' := [(6, .int (i32 (1))), (7, .int (i32 (lf + hd))), (9, .int (i32 (hd))), (8, .int (i32 (kl))), (0, .ref b), (1, .ref (adb 1 0)), (2, .ref (adb 3 1)), (3, .ref (adb 3 2)), (4, .ref (adb 3 3)), (5, .ref (adb 3 4))]) hx hb dL_law_277 hl (by decide) rfl (fun ls hl => ?_)
                    refine lv_iinc (v := i32 (kl + 1)) (lv' := [(8, .int (i32 (kl + 1))), (6, .int (i32 (1))), (7, .int (i32 (lf + hd))), (9, .int (i32 (hd))), (0, .ref b), (1, .ref (adb 1 0)), (2, .ref (adb 3 1)), (3, .ref (adb 3 2)), (4, .ref (adb 3 3)), (5, .ref (adb 3 4))]) hx hb dL_law_279 hl (k := 3) rfl (i32_add _ _) (by decide) rfl (fun ls hl => ?_)
                    refine lv_goto (tgt := 239) hx hb dL_law_282 (by decide) ?_
                    exact ih239 (kl + 1) (lf + hd) (cc239 + 1) (sc239 + 6) _ _ _ (by omega) (by omega) (by omega) (by omega) hP hS (lv_sub hl [0, 2, 1, 4, 5, 6, 7, 8, 9] rfl)
              exact L239 ((20 - 0) + 1 : Int).toNat 0 0 (cc185 + 0) (sc185 + 0) _ _ _ (by omega) (by omega) (by omega) (by omega) hP hS (lv_sub hl [0, 1, 2, 3, 4, 5, 6, 7, 8] rfl)
            · -- ka < 60
              refine lv_iload hx hb dL_law_192 (lv_at hl 1 rfl) ?_
              refine q_if_eq (tgt := 233) hx hb ⟨by decide, by decide⟩ dL_law_194 (by decide) (fun h => by omega) (fun _ => ?_)
              refine lv_aload_n hx hb dL_law_197 rfl (lv_at hl 3 rfl) ?_
              refine lv_aload_n hx hb dL_law_198 rfl (lv_at hl 4 rfl) ?_
              refine lv_aload_n hx hb dL_law_199 rfl (lv_at hl 5 rfl) ?_
              refine lv_aload hx hb dL_law_200 (lv_at hl 6 rfl) ?_
              refine lv_aload hx hb dL_law_202 (lv_at hl 7 rfl) ?_
              refine lv_aload_n hx hb dL_law_204 rfl (lv_at hl 2 rfl) ?_
              refine lv_iconst (v := i32 (2)) hx hb dL_law_205 rfl ?_
              refine lv_iload hx hb dL_law_206 (lv_at hl 0 rfl) ?_
              refine q_imul hx hb dL_law_208 ?_
              refine q_callSA (As := [.ref b, .int (i32 (2 * ka))]) (rest := [.ref (adb 3 4), .ref (adb 3 3), .ref (adb 3 2), .ref (adb 3 1), .ref (adb 1 0)]) hx hb hml hl.1 hown hK hZ hX hbl hbl hP hS (c_L_at l g s.heap.size adb Sb b L xs (2 * ka) hL hbl (by omega)) t_117 (q_callB hK 116 14 118 t_116 t_14 t_118 f_yL_at ⟨Nat.le_of_ble_eq_true rfl, Nat.le_of_ble_eq_true rfl⟩) rfl rfl (Nat.le_of_ble_eq_true rfl) dL_law_209 (c2 := cc185 + 0) (s2 := sc185 + 0) ⟨rfl, rfl⟩ ⟨by show cc185 + 0 ≤ 600104; omega, by show sc185 + 0 ≤ 7301314; omega⟩ (fun rr ad' S' H locs hQ hP hS => ?_)
              obtain ⟨⟨z22, rz22, hr9⟩, ha9, hs9⟩ := hQ
              subst hr9
              rw [ha9, hs9] at hP
              refine lv_aload_n hx hb dL_law_212 rfl (lv_at hl 2 rfl) ?_
              refine lv_iconst (v := i32 (2)) hx hb dL_law_213 rfl ?_
              refine lv_iload hx hb dL_law_214 (lv_at hl 0 rfl) ?_
              refine q_imul hx hb dL_law_216 ?_
              refine lv_iconst (v := i32 (1)) hx hb dL_law_217 rfl ?_
              refine q_iadd hx hb dL_law_218 ?_
              refine q_callSA (As := [.ref b, .int (i32 ((2 * ka) + 1))]) (rest := [.int (i32 (z22)), .ref (adb 3 4), .ref (adb 3 3), .ref (adb 3 2), .ref (adb 3 1), .ref (adb 1 0)]) hx hb hml hl.1 hown hK hZ hX hbl hbl hP hS (c_L_at l g s.heap.size adb Sb b L xs ((2 * ka) + 1) hL hbl (by omega)) t_117 (q_callB hK 116 14 118 t_116 t_14 t_118 f_yL_at ⟨Nat.le_of_ble_eq_true rfl, Nat.le_of_ble_eq_true rfl⟩) rfl rfl (Nat.le_of_ble_eq_true rfl) dL_law_219 (c2 := cc185 + 0) (s2 := sc185 + 0) ⟨rfl, rfl⟩ ⟨by show cc185 + 0 ≤ 600104; omega, by show sc185 + 0 ≤ 7301314; omega⟩ (fun rr ad' S' H locs hQ hP hS => ?_)
              obtain ⟨⟨z23, rz23, hr9⟩, ha9, hs9⟩ := hQ
              subst hr9
              rw [ha9, hs9] at hP
              refine q_callS2 (As := [.ref (adb 1 0), .ref (adb 3 1), .ref (adb 3 2), .ref (adb 3 3), .ref (adb 3 4), .int (i32 (z22)), .int (i32 (z23))]) (rest := []) hx hb hml hl.1 hown hK hZ hP hS (c_L_acts l g s.heap.size adb Sb z22 z23 hfl yI yV rz22 rz23) t_440 (q_callB hK 439 14 441 t_439 t_14 t_441 f_yL_acts ⟨Nat.le_of_ble_eq_true rfl, Nat.le_of_ble_eq_true rfl⟩) rfl rfl (Nat.le_of_ble_eq_true rfl) dL_law_222 (c2 := cc185 + 2970) (s2 := sc185 + 18559) ⟨by first | rfl | (dsimp only; omega), by first | rfl | (dsimp only; omega)⟩ ⟨by show cc185 + 2970 ≤ 600104; omega, by show sc185 + 18559 ≤ 7301314; omega⟩ (fun rr ad' S' H locs hQ hP hS => ?_)
              obtain ⟨⟨hr9, ek9⟩, hI9, hV9⟩ := hQ
              subst hr9
              obtain ⟨S24, hS24⟩ : ∃ s9 : St, s9 = S' := ⟨_, rfl⟩
              rw [← hS24] at hI9 hV9 hP
              obtain ⟨ad25, had25⟩ : ∃ a9 : Nat → Nat → Nat, a9 = ad' := ⟨_, rfl⟩
              rw [← had25] at ek9 hP
              have el_ad25 : ∀ x q, x < 4 → ad25 x q = adb x q := ek9
              have hl : lv_has ls 10 [(7, .int (i32 (ka))), (6, .int (i32 (1))), (0, .ref b), (1, .ref (ad25 1 0)), (2, .ref (ad25 3 1)), (3, .ref (ad25 3 2)), (4, .ref (ad25 3 3)), (5, .ref (ad25 3 4))] := by
                have t9 := hl
                rw [← el_ad25 1 0 (by decide), ← el_ad25 3 1 (by decide), ← el_ad25 3 2 (by decide), ← el_ad25 3 3 (by decide), ← el_ad25 3 4 (by decide)] at t9
                exact t9
              skip
              have ivS24 : IV S24 := hI9
              have lvS24 : LV S24 := hV9
              have rS24 : ∀ (a1 b1 : Nat) (i1 : Int), rng (S24 a1 b1 i1) := fun a1 b1 i1 => hP.rg a1 b1 i1
              refine lv_istore (lv' := [(6, .int (i32 (1))), (7, .int (i32 (ka))), (0, .ref b), (1, .ref (ad25 1 0)), (2, .ref (ad25 3 1)), (3, .ref (ad25 3 2)), (4, .ref (ad25 3 3)), (5, .ref (ad25 3 4))]) hx hb dL_law_225 hl (by decide) rfl (fun ls hl => ?_)
              refine lv_iinc (v := i32 (ka + 1)) (lv' := [(7, .int (i32 (ka + 1))), (6, .int (i32 (1))), (0, .ref b), (1, .ref (ad25 1 0)), (2, .ref (ad25 3 1)), (3, .ref (ad25 3 2)), (4, .ref (ad25 3 3)), (5, .ref (ad25 3 4))]) hx hb dL_law_227 hl (k := 1) rfl (i32_add _ _) (by decide) rfl (fun ls hl => ?_)
              refine lv_goto (tgt := 185) hx hb dL_law_230 (by decide) ?_
              exact ih185 (ka + 1) S24 ad25 (cc185 + 2970) (sc185 + 18559) _ _ _ (by exact ivS24) (by exact lvS24) (by omega) (by omega) (by omega) hP hS (lv_sub hl [0, 1, 2, 3, 4, 5, 6, 7] rfl)
        exact L185 ((60 - 3) + 1 : Int).toNat 3 Sa ad12 (cc99 + 0) (sc99 + 0) _ _ _ (by exact zI) (by exact zV) (by omega) (by omega) (by omega) hP hS (lv_sub hl [0, 1, 2, 3, 4, 5, 6, 7] rfl)
      · -- kd < 6
        refine lv_aload hx hb dL_law_106 (lv_at hl 6 rfl) ?_
        refine lv_iload hx hb dL_law_108 (lv_at hl 0 rfl) ?_
        refine lv_iload hx hb dL_law_110 (lv_at hl 0 rfl) ?_
        refine p_iast (k := 3) (r := 3) (n := 20) hx hb hK hP hS zI.a.2.2 rfl rfl (by decide) (by decide) (by omega) (by omega) ⟨by omega, by omega⟩ dL_law_112 (fun H locs hP hS => ?_)
        generalize eS26 : st Sa 3 3 kd kd = S26 at hP
        have qS26 : ∀ (a1 b1 : Nat) (i1 : Int), S26 a1 b1 i1 = if a1 = 3 ∧ b1 = 3 ∧ i1 = kd then kd else Sa a1 b1 i1 := fun a1 b1 i1 => by rw [← eS26]; exact st_at _ _ _ _ _ _ _ _
        have rS26 : ∀ (a1 b1 : Nat) (i1 : Int), rng (S26 a1 b1 i1) := fun a1 b1 i1 => hP.rg a1 b1 i1
        have aS26_1 : S26 1 0 (-1) = 1 := by rw [qS26, if_neg (by omega)]; exact zI.a.1
        have aS26_2 : S26 2 0 (-1) = 1 := by rw [qS26, if_neg (by omega)]; exact zI.a.2.1
        have aS26_3 : S26 3 0 (-1) = 1 := by rw [qS26, if_neg (by omega)]; exact zI.a.2.2
        have ivS26 : IV S26 := by rw [← eS26]; exact IV_3 zI (by decide)
        refine lv_aload_n hx hb dL_law_113 rfl (lv_at hl 4 rfl) ?_
        refine lv_iconst (v := i32 (1)) hx hb dL_law_114 rfl ?_
        refine lv_dup2_11 hx hb dL_law_115 rfl rfl ?_
        refine p_iald (k := 3) (r := 1) (n := 4) hx hb hK hP aS26_3 rfl rfl (by decide) (by decide) (by omega) (by omega) dL_law_116 ?_
        refine q_nm (show S26 3 1 1 = Sa 3 1 1 from by rw [qS26, if_neg (by omega)]) ?_
        refine lv_iconst (v := i32 (1)) hx hb dL_law_117 rfl ?_
        refine q_iadd hx hb dL_law_118 ?_
        refine p_iast (k := 3) (r := 1) (n := 4) hx hb hK hP hS aS26_3 rfl rfl (by decide) (by decide) (by omega) (by omega) ⟨by omega, by omega⟩ dL_law_119 (fun H locs hP hS => ?_)
        generalize eS27 : st S26 3 1 1 ((Sa 3 1 1) + 1) = S27 at hP
        have qS27 : ∀ (a1 b1 : Nat) (i1 : Int), S27 a1 b1 i1 = if a1 = 3 ∧ b1 = 1 ∧ i1 = 1 then (Sa 3 1 1) + 1 else S26 a1 b1 i1 := fun a1 b1 i1 => by rw [← eS27]; exact st_at _ _ _ _ _ _ _ _
        have rS27 : ∀ (a1 b1 : Nat) (i1 : Int), rng (S27 a1 b1 i1) := fun a1 b1 i1 => hP.rg a1 b1 i1
        have aS27_1 : S27 1 0 (-1) = 1 := by rw [qS27, if_neg (by omega)]; exact aS26_1
        have aS27_2 : S27 2 0 (-1) = 1 := by rw [qS27, if_neg (by omega)]; exact aS26_2
        have aS27_3 : S27 3 0 (-1) = 1 := by rw [qS27, if_neg (by omega)]; exact aS26_3
        have ivS27 : IV S27 := by rw [← eS27]; exact IV_3 ivS26 (by decide)
        refine lv_iload hx hb dL_law_120 (lv_at hl 1 rfl) ?_
        refine q_if_eq (tgt := 173) hx hb ⟨by decide, by decide⟩ dL_law_122 (by decide) (fun h => by omega) (fun _ => ?_)
        refine lv_aload_n hx hb dL_law_125 rfl (lv_at hl 3 rfl) ?_
        refine lv_iload hx hb dL_law_126 (lv_at hl 0 rfl) ?_
        refine lv_bipush (v := i32 (20)) hx hb dL_law_128 (by decide) ?_
        refine lv_aload_n hx hb dL_law_130 rfl (lv_at hl 2 rfl) ?_
        refine lv_iconst (v := i32 (4)) hx hb dL_law_131 rfl ?_
        refine q_callSA (As := [.ref b, .int (i32 (4))]) (rest := [.int (i32 (20)), .int (i32 (kd)), .ref (ad12 1 0)]) hx hb hml hl.1 hown hK hZ hX hbl hbl hP hS (c_L_at l g s.heap.size ad12 S27 b L xs (4) hL hbl (by omega)) t_117 (q_callB hK 116 14 118 t_116 t_14 t_118 f_yL_at ⟨Nat.le_of_ble_eq_true rfl, Nat.le_of_ble_eq_true rfl⟩) rfl rfl (Nat.le_of_ble_eq_true rfl) dL_law_132 (c2 := cc99 + 0) (s2 := sc99 + 0) ⟨rfl, rfl⟩ ⟨by show cc99 + 0 ≤ 600104; omega, by show sc99 + 0 ≤ 7301314; omega⟩ (fun rr ad' S' H locs hQ hP hS => ?_)
        obtain ⟨⟨z28, rz28, hr9⟩, ha9, hs9⟩ := hQ
        subst hr9
        rw [ha9, hs9] at hP
        refine lv_iconst (v := i32 (4)) hx hb dL_law_135 rfl ?_
        refine lv_iload hx hb dL_law_136 (lv_at hl 0 rfl) ?_
        refine q_imul hx hb dL_law_138 ?_
        refine lv_ishr hx hb dL_law_139 ?_
        obtain ⟨z29, rz29, hz29⟩ := i32_of (i32 (z28) >>> (i32 (4 * kd) &&& 31))
        rw [hz29]
        refine lv_sipush (v := i32 (200)) hx hb dL_law_140 (by decide) ?_
        refine q_callS2 (As := [.int (i32 (z29)), .int (i32 (200))]) (rest := [.int (i32 (20)), .int (i32 (kd)), .ref (ad12 1 0)]) hx hb hml hl.1 hown hK hZ hP hS (c_L_low l g s.heap.size ad12 S27 z29 ((200 : Int)) rz29 (by omega)) t_122 (q_callB hK 121 14 123 t_121 t_14 t_123 f_yL_low ⟨Nat.le_of_ble_eq_true rfl, Nat.le_of_ble_eq_true rfl⟩) rfl rfl (Nat.le_of_ble_eq_true rfl) dL_law_143 (c2 := cc99 + 0) (s2 := sc99 + 0) ⟨by first | rfl | (dsimp only; omega), by first | rfl | (dsimp only; omega)⟩ ⟨by show cc99 + 0 ≤ 600104; omega, by show sc99 + 0 ≤ 7301314; omega⟩ (q_an (fun H locs hP hS => ?_))
        obtain ⟨y30, hy30⟩ : ∃ y99 : Int, loF z29 ((200 : Int)) = y99 := ⟨_, rfl⟩
        have by30 := lo_b z29 (show 1 ≤ ((200 : Int)) by omega)
        rw [hy30] at by30
        refine q_nm hy30 ?_
        refine q_iadd hx hb dL_law_146 ?_
        refine lv_iload hx hb dL_law_147 (lv_at hl 0 rfl) ?_
        refine lv_iload hx hb dL_law_149 (lv_at hl 0 rfl) ?_
        refine lv_iconst (v := i32 (2)) hx hb dL_law_151 rfl ?_
        refine q_irem hx hb (by omega) (by omega) (by omega) (by omega) dL_law_152 ?_
        refine q_if_ne (tgt := 160) hx hb ⟨by omega, by omega⟩ dL_law_153 (by decide) (fun c_31 => ?_) (fun c_31 => ?_)
        · -- (kd % 2) ≠ 0
          refine lv_iconst (v := i32 (0)) hx hb dL_law_160 rfl ?_
          refine W.eq (g2 := F0 m 161 ls (Value.int (i32 (b2 (False))) :: Value.int (i32 (kd)) :: Value.int (i32 (20 + y30)) :: Value.int (i32 (kd)) :: Value.ref (ad12 1 0) :: [])) (by simp only [b2_t trivial, b2_f not_false] <;> rfl) ?_
          refine q_callH2 (As := [.ref (ad12 1 0), .int (i32 (kd)), .int (i32 (20 + y30)), .int (i32 (kd)), .int (i32 (b2 (False)))]) (rest := []) hx hb hml hl.1 hown hK hZ hP hS (c_L_dye l g s.heap.size ad12 S27 kd (20 + y30) kd False hfl ivS27.wc ⟨by omega, by omega⟩ ⟨by omega, by omega⟩ ⟨by omega, by omega⟩) t_125 t_14 t_127 t_126 f_yL_dye ⟨Nat.le_of_ble_eq_true rfl, Nat.le_of_ble_eq_true rfl⟩ rfl rfl (Nat.le_of_ble_eq_true rfl) dL_law_161 (c2 := cc99 + 2) (s2 := sc99 + 12) ⟨by first | rfl | (dsimp only; omega), by first | rfl | (dsimp only; omega)⟩ ⟨by show cc99 + 2 ≤ 600104; omega, by show sc99 + 12 ≤ 7301314; omega⟩ (fun rr ad' S' H locs hQ hP hS => ?_)
          have hc9 : (0 ≤ kd ∧ kd < 6) ∧ ((1 ≤ (20 + y30) ∧ (20 + y30) ≤ 999) ∧ (0 ≤ kd ∧ kd ≤ 9)) ∧ (S27 2 0 0 < 20) := ⟨by omega, ⟨by omega, by omega⟩, by rw [qS27, if_neg (by omega), qS26, if_neg (by omega), ← zV.1.2.1]; omega⟩
          obtain ⟨⟨hr9, ek9⟩, hQ⟩ := hQ
          have hs9 := (hQ.resolve_left (fun y9 => y9.1 hc9)).2
          subst hr9
          rw [ek9] at hP
          rw [hs9] at hP
          refine q_nm (b := kd) ((lv_0 hc9.1 hc9.2.1 hc9.2.2).trans (by rw [qS27, if_neg (by omega), qS26, if_neg (by omega), ← zV.1.2.1, zl])) ?_
          generalize eS32 : st (st (st (st (st (st S27 2 2 (S27 2 0 0) kd) 2 3 (S27 2 0 0) (20 + y30)) 2 4 (S27 2 0 0) (20 + y30)) 2 5 (S27 2 0 0) kd) 2 6 (S27 2 0 0) (b2 False)) 2 0 0 (S27 2 0 0 + 1) = S32 at hP
          have rS32 : ∀ (a1 b1 : Nat) (i1 : Int), rng (S32 a1 b1 i1) := fun a1 b1 i1 => hP.rg a1 b1 i1
          have ivS32 : IV S32 := by rw [← eS32]; exact IV_dye ivS27 hc9.2.1.1 hc9.2.1.2 hc9.2.2
          have h3S32 : ∀ (b1 : Nat) (i1 : Int), S32 3 b1 i1 = S27 3 b1 i1 := by rw [← eS32]; exact fun b i => dy_3 b i
          have lv9 : LV S32 := by rw [← eS32]; exact LV_dye zV (fun a b i => by rw [qS27, qS26, zl])
          have zl9 : S32 3 1 1 = kd + 1 := by rw [h3S32, qS27, if_pos ⟨rfl, rfl, rfl⟩, zl]
          refine lv_iload hx hb dL_law_164 (lv_at hl 0 rfl) ?_
          refine q_icmp_ne (tgt := 173) hx hb ⟨by omega, by omega⟩ ⟨by omega, by omega⟩ dL_law_166 (by decide) (fun c_33 => (by exfalso; omega)) (fun c_33 => ?_)
          refine lv_iconst (v := i32 (1)) hx hb dL_law_169 rfl ?_
          refine lv_goto (tgt := 174) hx hb dL_law_170 (by decide) ?_
          refine lv_istore (lv' := [(6, .int (i32 (1))), (7, .int (i32 (kd))), (0, .ref b), (1, .ref (ad12 1 0)), (2, .ref (ad12 3 1)), (3, .ref (ad12 3 2)), (4, .ref (ad12 3 3)), (5, .ref (ad12 3 4))]) hx hb dL_law_174 hl (by decide) rfl (fun ls hl => ?_)
          refine lv_iinc (v := i32 (kd + 1)) (lv' := [(7, .int (i32 (kd + 1))), (6, .int (i32 (1))), (0, .ref b), (1, .ref (ad12 1 0)), (2, .ref (ad12 3 1)), (3, .ref (ad12 3 2)), (4, .ref (ad12 3 3)), (5, .ref (ad12 3 4))]) hx hb dL_law_176 hl (k := 1) rfl (i32_add _ _) (by decide) rfl (fun ls hl => ?_)
          refine lv_goto (tgt := 99) hx hb dL_law_179 (by decide) ?_
          exact ih99 (kd + 1) S32 (cc99 + 2) (sc99 + 12) _ _ _ (by exact ivS32) (by exact lv9) (by omega) (by exact zl9) (by omega) (by omega) hP hS (lv_sub hl [0, 1, 2, 3, 4, 5, 6, 7] rfl)
        · -- (kd % 2) = 0
          refine lv_iconst (v := i32 (1)) hx hb dL_law_156 rfl ?_
          refine lv_goto (tgt := 161) hx hb dL_law_157 (by decide) ?_
          refine W.eq (g2 := F0 m 161 ls (Value.int (i32 (b2 (True))) :: Value.int (i32 (kd)) :: Value.int (i32 (20 + y30)) :: Value.int (i32 (kd)) :: Value.ref (ad12 1 0) :: [])) (by simp only [b2_t trivial, b2_f not_false] <;> rfl) ?_
          refine q_callH2 (As := [.ref (ad12 1 0), .int (i32 (kd)), .int (i32 (20 + y30)), .int (i32 (kd)), .int (i32 (b2 (True)))]) (rest := []) hx hb hml hl.1 hown hK hZ hP hS (c_L_dye l g s.heap.size ad12 S27 kd (20 + y30) kd True hfl ivS27.wc ⟨by omega, by omega⟩ ⟨by omega, by omega⟩ ⟨by omega, by omega⟩) t_125 t_14 t_127 t_126 f_yL_dye ⟨Nat.le_of_ble_eq_true rfl, Nat.le_of_ble_eq_true rfl⟩ rfl rfl (Nat.le_of_ble_eq_true rfl) dL_law_161 (c2 := cc99 + 2) (s2 := sc99 + 12) ⟨by first | rfl | (dsimp only; omega), by first | rfl | (dsimp only; omega)⟩ ⟨by show cc99 + 2 ≤ 600104; omega, by show sc99 + 12 ≤ 7301314; omega⟩ (fun rr ad' S' H locs hQ hP hS => ?_)
          have hc9 : (0 ≤ kd ∧ kd < 6) ∧ ((1 ≤ (20 + y30) ∧ (20 + y30) ≤ 999) ∧ (0 ≤ kd ∧ kd ≤ 9)) ∧ (S27 2 0 0 < 20) := ⟨by omega, ⟨by omega, by omega⟩, by rw [qS27, if_neg (by omega), qS26, if_neg (by omega), ← zV.1.2.1]; omega⟩
          obtain ⟨⟨hr9, ek9⟩, hQ⟩ := hQ
          have hs9 := (hQ.resolve_left (fun y9 => y9.1 hc9)).2
          subst hr9
          rw [ek9] at hP
          rw [hs9] at hP
          refine q_nm (b := kd) ((lv_0 hc9.1 hc9.2.1 hc9.2.2).trans (by rw [qS27, if_neg (by omega), qS26, if_neg (by omega), ← zV.1.2.1, zl])) ?_
          generalize eS34 : st (st (st (st (st (st S27 2 2 (S27 2 0 0) kd) 2 3 (S27 2 0 0) (20 + y30)) 2 4 (S27 2 0 0) (20 + y30)) 2 5 (S27 2 0 0) kd) 2 6 (S27 2 0 0) (b2 True)) 2 0 0 (S27 2 0 0 + 1) = S34 at hP
          have rS34 : ∀ (a1 b1 : Nat) (i1 : Int), rng (S34 a1 b1 i1) := fun a1 b1 i1 => hP.rg a1 b1 i1
          have ivS34 : IV S34 := by rw [← eS34]; exact IV_dye ivS27 hc9.2.1.1 hc9.2.1.2 hc9.2.2
          have h3S34 : ∀ (b1 : Nat) (i1 : Int), S34 3 b1 i1 = S27 3 b1 i1 := by rw [← eS34]; exact fun b i => dy_3 b i
          have lv9 : LV S34 := by rw [← eS34]; exact LV_dye zV (fun a b i => by rw [qS27, qS26, zl])
          have zl9 : S34 3 1 1 = kd + 1 := by rw [h3S34, qS27, if_pos ⟨rfl, rfl, rfl⟩, zl]
          refine lv_iload hx hb dL_law_164 (lv_at hl 0 rfl) ?_
          refine q_icmp_ne (tgt := 173) hx hb ⟨by omega, by omega⟩ ⟨by omega, by omega⟩ dL_law_166 (by decide) (fun c_35 => (by exfalso; omega)) (fun c_35 => ?_)
          refine lv_iconst (v := i32 (1)) hx hb dL_law_169 rfl ?_
          refine lv_goto (tgt := 174) hx hb dL_law_170 (by decide) ?_
          refine lv_istore (lv' := [(6, .int (i32 (1))), (7, .int (i32 (kd))), (0, .ref b), (1, .ref (ad12 1 0)), (2, .ref (ad12 3 1)), (3, .ref (ad12 3 2)), (4, .ref (ad12 3 3)), (5, .ref (ad12 3 4))]) hx hb dL_law_174 hl (by decide) rfl (fun ls hl => ?_)
          refine lv_iinc (v := i32 (kd + 1)) (lv' := [(7, .int (i32 (kd + 1))), (6, .int (i32 (1))), (0, .ref b), (1, .ref (ad12 1 0)), (2, .ref (ad12 3 1)), (3, .ref (ad12 3 2)), (4, .ref (ad12 3 3)), (5, .ref (ad12 3 4))]) hx hb dL_law_176 hl (k := 1) rfl (i32_add _ _) (by decide) rfl (fun ls hl => ?_)
          refine lv_goto (tgt := 99) hx hb dL_law_179 (by decide) ?_
          exact ih99 (kd + 1) S34 (cc99 + 2) (sc99 + 12) _ _ _ (by exact ivS34) (by exact lv9) (by omega) (by exact zl9) (by omega) (by omega) hP hS (lv_sub hl [0, 1, 2, 3, 4, 5, 6, 7] rfl)
  exact L99 ((6 - 0) + 1 : Int).toNat 0 S11 1040 100500 _ _ _ (by exact ivS11) (by exact lvS11) (by omega) (by rw [hwS11, hwS8, hwS5, hwS2]; exact h311) (by omega) (by omega) hP hS (lv_sub hl [0, 1, 2, 3, 4, 5, 6, 7] rfl)
