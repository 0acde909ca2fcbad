/-! ===== the law's small methods ===== -/
theorem and_nn (x : Int32) : 0 ≤ (x &&& 2147483647).toInt := by
  show 0 ≤ (x &&& 2147483647).toBitVec.toInt
  refine BitVec.toInt_nonneg_of_msb_false ?_
  rw [Int32.toBitVec_and, BitVec.msb_and]
  have : (2147483647 : Int32).toBitVec.msb = false := by decide
  rw [this, Bool.and_false]
def loF (v n : Int) : Int := (i32 v &&& i32 2147483647).toInt % n
theorem lo_b (v : Int) {n : Int} (h : 1 ≤ n) : 0 ≤ loF v n ∧ loF v n < n := ⟨Int.emod_nonneg _ (by omega), Int.emod_lt_of_pos _ (by omega)⟩
def leF (z : Int) : Int := if z = 0 then 82 else if z = 1 then 66 else if z = 2 then 89 else if z = 3 then 71 else if z = 4 then 87 else if z = 5 then 90 else 88
theorem le_sg (z : Int) : sg (leF z) ≠ -1 := by
  unfold leF
  repeat' split
  all_goals decide
theorem le_r (z : Int) : rng (leF z) := by
  unfold leF
  repeat' split
  all_goals exact ⟨by decide, by decide⟩
section QL2
variable {p : Program} {l : Launch} {e : Env} {R : Room} {s : State} {m : MethodId} {args : Array Value} {below : List Frame} {meth : Method} {c : Code} {H : Heap} {locs : List Loc} {cells slots : Nat} {Q : State → Prop}
variable {cc : ByteArray} {pc : Nat} {ls : Array Slot} {rest st0 : List Value} {g : GT} {base : Nat} {ad : Nat → Nat → Nat} {S : St} {own : String}
variable {P : Option Value → (Nat → Nat → Nat) → St → Prop} {y : MethodName} {bytes : ByteArray} {maxL nL n index : Nat} {rm : Room} {As : List Value} {ret : Option FieldType} {hh : List (Nat × Nat × Nat × Nat)} {mc ms : Nat} {ad' : Nat → Nat → Nat} {S' : St}
theorem q_cret (hx : p.tables.exec = Jvm.exec) (hb : c.code = cc) (hr : meth.sig.returnType = some .char) (hlocks : meth.locks = false) (hP : pic g base ad' S' H) (hS : va_S (fun q => base ≤ q) s.heap H locs) {v : Int} (hv : narrow .char (.int (i32 v)) = .int (i32 v)) (hQ : P (some (.int (i32 v))) ad' S') (h1 : cells ≤ mc) (h2 : slots ≤ ms) (hdg : decode cc pc = .ok (.ireturn, 1)) : W p l e R s m args below meth c H locs cells slots (MQ below (gQ g base P) args s mc ms (fun q => base ≤ q)) (F0 m pc ls [.int (i32 v)]) :=
  W.widen h1 h2 (W.zret (v := i32 v) hx hb hr hv (fun t ht _ => ⟨⟨_, _, _, rfl, hQ, by rw [ht]; exact hP⟩, hS.F ht⟩) hS.2.2 hdg hlocks)
theorem q_callS2 (hx : p.tables.exec = Jvm.exec) (hb : c.code = cc) (hml : c.maxLocals = nL) (hls : ls.size = nL) (hown : s.vm.findClass own = some m.cls) (hK : KK g s) (hZ : ZZ base s s.heap) (hP : pic g base ad S H) (hS : va_S (fun q => base ≤ q) s.heap H locs)
    (hM : Met l y [Cond.code y bytes maxL ret] rm (va_Pc As (PK g base ad S)) (gQ g base P) rm.cells rm.slots (fun q => base ≤ q)) {is : Nat} (hst : lw_tbl[is]? = some (.static y)) (cb : CallB R s args own index y bytes maxL ret [Cond.code y bytes maxL ret] rm rm.cells rm.slots n) (hn : As.length = n) (hstk : st0 = As.reverse ++ rest) (hcat : (rest.map fun v => v.category).sum ≤ 8) (hdg : decode cc pc = .ok (.invokestatic index, 3)) {c2 s2 : Nat} (hcc : cells + rm.cells = c2 ∧ slots + rm.slots = s2) (hf : c2 ≤ R.cells ∧ s2 ≤ R.slots)
    (kk : ∀ (r : Option Value) (ad' : Nat → Nat → Nat) (S' : St) (H1 : Heap) (locs1 : List Loc), P r ad' S' → pic g base ad' S' H1 → va_S (fun q => base ≤ q) s.heap H1 locs1 → W p l e R s m args below meth c H1 locs1 c2 s2 Q (F0 m (pc + 3) ls (r.toList ++ rest))) : W p l e R s m args below meth c H locs cells slots Q (F0 m pc ls st0) := by
  obtain ⟨rfl, rfl⟩ := hcc
  exact q_callS hx hb hml hls hown hK hZ hP hS hM hst cb hn hstk hcat hdg hf kk
theorem q_callV2 (hx : p.tables.exec = Jvm.exec) (hb : c.code = cc) (hml : c.maxLocals = nL) (hls : ls.size = nL) (hown : s.vm.findClass own = some m.cls) (hK : KK g s) (hZ : ZZ base s s.heap) (hP : pic g base ad S H) (hS : va_S (fun q => base ≤ q) s.heap H locs) {o k : Nat} (hal : S o 0 (-1) = 1) (hk : kd o = k) (hok : okr k 0 = true) {C : String} {T : u_T} {N : Nat} (hcl : vwCl[clsK k]? = some (C, T, N))
    (hM : Met l y [Cond.code y bytes maxL ret] rm (va_Pc (.ref (ad o 0) :: As) (PK g base ad S)) (gQ g base P) rm.cells rm.slots (fun q => base ≤ q)) {im is : Nat} (him : lw_tbl[im]? = some (.instanceMethod y)) (his : lw_tbl[is]? = some (.selects C y y)) (cb : CallB R s args own index y bytes maxL ret [Cond.code y bytes maxL ret] rm rm.cells rm.slots n) (hn : As.length = n) (hstk : st0 = As.reverse ++ .ref (ad o 0) :: rest) (hcat : (rest.map fun v => v.category).sum ≤ 8) (hdg : decode cc pc = .ok (.invokevirtual index, 3)) {c2 s2 : Nat} (hcc : cells + rm.cells = c2 ∧ slots + rm.slots = s2) (hf : c2 ≤ R.cells ∧ s2 ≤ R.slots)
    (kk : ∀ (r : Option Value) (ad' : Nat → Nat → Nat) (S' : St) (H1 : Heap) (locs1 : List Loc), P r ad' S' → pic g base ad' S' H1 → va_S (fun q => base ≤ q) s.heap H1 locs1 → W p l e R s m args below meth c H1 locs1 c2 s2 Q (F0 m (pc + 3) ls (r.toList ++ rest))) : W p l e R s m args below meth c H locs cells slots Q (F0 m pc ls st0) := by
  obtain ⟨rfl, rfl⟩ := hcc
  exact q_callV hx hb hml hls hown hK hZ hP hS hal hk hok hcl hM him his cb hn hstk hcat hdg hf kk
theorem q_callH2 (hx : p.tables.exec = Jvm.exec) (hb : c.code = cc) (hml : c.maxLocals = nL) (hls : ls.size = nL) (hown : s.vm.findClass own = some m.cls) (hK : KK g s) (hZ : ZZ base s s.heap) (hP : pic g base ad S H) (hS : va_S (fun q => base ≤ q) s.heap H locs)
    (hM : vx_Met l y [Cond.codeWith y bytes maxL ret hh] rm (va_Pc As (PK g base ad S)) (gQ g base P) (xQ g base ad S (fun _ => False)) rm.cells rm.slots (fun q => base ≤ q)) {il ii ic is : Nat} (hl : lw_tbl[il]? = some (.methodLink own index y)) (hi : lw_tbl[ii]? = some (.initialized y.cls)) (hc : lw_tbl[ic]? = some (.codeWith y bytes maxL ret hh)) (hst : lw_tbl[is]? = some (.static y)) (hfa : (y.cls ≠ "java/lang/invoke/MethodHandle" ∧ y.cls ≠ "java/lang/invoke/VarHandle") ∧ (parseMethodDescriptor y.desc).map (fun d => d.parameters.length) = some n) (hR : rm.frames + 1 ≤ R.frames ∧ 8 + (maxL + 11) + rm.locals ≤ R.locals) (hn : As.length = n) (hstk : st0 = As.reverse ++ rest) (hcat : (rest.map fun v => v.category).sum ≤ 8) (hdg : decode cc pc = .ok (.invokestatic index, 3)) {c2 s2 : Nat} (hcc : cells + rm.cells = c2 ∧ slots + rm.slots = s2) (hf : c2 ≤ R.cells ∧ s2 ≤ R.slots)
    (kk : ∀ (r : Option Value) (ad' : Nat → Nat → Nat) (S' : St) (H1 : Heap) (locs1 : List Loc), P r ad' S' → pic g base ad' S' H1 → va_S (fun q => base ≤ q) s.heap H1 locs1 → W p l e R s m args below meth c H1 locs1 c2 s2 Q (F0 m (pc + 3) ls (r.toList ++ rest))) : W p l e R s m args below meth c H locs cells slots Q (F0 m pc ls st0) := by
  obtain ⟨rfl, rfl⟩ := hcc
  exact q_callH hx hb hml hls hown hK hZ hP hS hM hl hi hc hst hfa hR hn hstk hcat hdg hf kk
end QL2
/-- what the law knows: its rows beside the class's -/
def LV (S : St) : Prop := (S 3 1 0 = S 1 0 3 ∧ S 3 1 1 = S 2 0 0 ∧ S 3 1 2 = S 1 0 6) ∧ (∀ x, 0 ≤ x → x < S 1 0 3 → S 3 2 (2 * x) = S (4 + x.toNat) 0 0 ∧ S 3 2 (2 * x) ≤ 6 ∧ S 3 2 (2 * x + 1) = S (4 + x.toNat) 0 1) ∧ (∀ x, S 1 0 3 ≤ x → x < 5 → S 3 2 (2 * x + 1) = 0) ∧ ∀ j, 0 ≤ j → j < S 2 0 0 → S 3 3 j = S 2 2 j
/-- how a method of the law that writes ends: with true -/
def lmP (ad : Nat → Nat → Nat) : Option Value → (Nat → Nat → Nat) → St → Prop := fun r ad' S' => (r = some (.int (i32 1)) ∧ ∀ x q, x < 4 → ad' x q = ad x q) ∧ IV S' ∧ LV S'
theorem pv_r {S : St} (h : IV S) (x : Int) : rng (lv3 (peC S x) (0 ≤ (0 : Int) ∧ (0 : Int) < 6) True (-1000001) (-1000002) 0 (pcC S (10 + x.toNat) 0)) := by
  by_cases hx : peC S x
  · rw [lv_0 hx (by decide) trivial, pcC_0 rfl]
    have := (h.pp hx).1.2.1
    exact ⟨by omega, by omega⟩
  · rw [lv_1 hx]; exact ⟨by decide, by decide⟩
theorem pv_t {S : St} (h : IV S) (x : Int) : 0 < lv3 (peC S x) (0 ≤ (0 : Int) ∧ (0 : Int) < 6) True (-1000001) (-1000002) 0 (pcC S (10 + x.toNat) 0) ↔ peC S x := by
  by_cases hx : peC S x
  · rw [lv_0 hx (by decide) trivial, pcC_0 rfl]
    have := (h.pp hx).1.2.1
    exact ⟨fun _ => hx, fun _ => by omega⟩
  · rw [lv_1 hx]
    exact ⟨fun y => absurd y (by decide), fun y => absurd y hx⟩
set_option maxHeartbeats 4000000 in
set_option maxRecDepth 100000 in
theorem c_L_low (l : Launch) (g : GT) (base : Nat) (ad : Nat → Nat → Nat) (S : St) (v n : Int) (hrn : rng v) (hnn : 1 ≤ n ∧ n < 2147483648) : Met l yL_low [Cond.code yL_low cL_low 2 (some FieldType.int)] ({ frames := 0, cells := 0, slots := 0, locals := 0 }) (va_Pc [.int (i32 (v)), .int (i32 (n))] (PK g base ad S)) (gQ g base (an (some (.int (i32 (loF v n)))) ad S)) 0 0 (fun q => base ≤ q) := by
  refine mk_m (own := RL) (lv0 := [(0, .int (i32 (v))), (1, .int (i32 (n)))]) (by decide) rfl (Nat.le_of_ble_eq_true rfl) rfl ?_
  intro p e s m below meth cz av Qm hx hb hr hml hown hlocks hK hZ hP hQm ls hl
  have hS : va_S (fun q => base ≤ q) s.heap s.heap [] := va_S.rf
  have rS : ∀ (a1 b1 : Nat) (i1 : Int), rng (S a1 b1 i1) := fun a1 b1 i1 => hP.rg a1 b1 i1
  refine lv_iload_n hx hb dL_low_0 rfl (lv_at hl 0 rfl) ?_
  refine q_ldc (z := 2147483647) hx hb hown hK t_124 rfl dL_low_1 ?_
  refine lv_iand hx hb dL_low_3 ?_
  obtain ⟨z1, rz1, hz1⟩ := i32_of (i32 (v) &&& i32 (2147483647))
  rw [hz1]
  refine lv_iload_n hx hb dL_low_4 rfl (lv_at hl 1 rfl) ?_
  have hnz1 : 0 ≤ z1 := by have := and_nn (i32 v); rw [show (2147483647 : Int32) = i32 2147483647 from rfl, hz1, i32_toInt rz1] at this; exact this
  obtain ⟨rlz1, ruz1⟩ := rz1
  refine q_irem hx hb (by omega) (by omega) (by omega) (by omega) dL_low_5 ?_
  refine q_nm (show (z1 % n : Int) = loF v n from by unfold loF; rw [hz1, i32_toInt ⟨rlz1, ruz1⟩]) ?_
  subst hQm
  exact q_iret hx hb hr hlocks hP hS ⟨rfl, rfl, rfl⟩ (by show 0 ≤ 0; omega) (by show 0 ≤ 0; omega) dL_low_6

set_option maxHeartbeats 4000000 in
set_option maxRecDepth 100000 in
theorem c_L_letter (l : Launch) (g : GT) (base : Nat) (ad : Nat → Nat → Nat) (S : St) (z : Int) (hrn : rng z) : Met l yL_letter [Cond.code yL_letter cL_letter 1 (some FieldType.char)] ({ frames := 0, cells := 0, slots := 0, locals := 0 }) (va_Pc [.int (i32 (z))] (PK g base ad S)) (gQ g base (an (some (.int (i32 (leF z)))) ad S)) 0 0 (fun q => base ≤ q) := by
  refine mk_m (own := RL) (lv0 := [(0, .int (i32 (z)))]) (by decide) rfl (Nat.le_of_ble_eq_true rfl) rfl ?_
  intro p e s m below meth cz av Qm hx hb hr hml hown hlocks hK hZ hP hQm ls hl
  have hS : va_S (fun q => base ≤ q) s.heap s.heap [] := va_S.rf
  have rS : ∀ (a1 b1 : Nat) (i1 : Int), rng (S a1 b1 i1) := fun a1 b1 i1 => hP.rg a1 b1 i1
  refine lv_iload_n hx hb dL_letter_0 rfl (lv_at hl 0 rfl) ?_
  refine q_if_ne (tgt := 9) hx hb hrn dL_letter_1 (by decide) (fun c_1 => ?_) (fun c_1 => ?_)
  · -- z ≠ 0
    refine lv_iload_n hx hb dL_letter_9 rfl (lv_at hl 0 rfl) ?_
    refine lv_iconst (v := i32 (1)) hx hb dL_letter_10 rfl ?_
    refine q_icmp_ne (tgt := 19) hx hb hrn ⟨by decide, by decide⟩ dL_letter_11 (by decide) (fun c_2 => ?_) (fun c_2 => ?_)
    · -- z ≠ 1
      refine lv_iload_n hx hb dL_letter_19 rfl (lv_at hl 0 rfl) ?_
      refine lv_iconst (v := i32 (2)) hx hb dL_letter_20 rfl ?_
      refine q_icmp_ne (tgt := 29) hx hb hrn ⟨by decide, by decide⟩ dL_letter_21 (by decide) (fun c_3 => ?_) (fun c_3 => ?_)
      · -- z ≠ 2
        refine lv_iload_n hx hb dL_letter_29 rfl (lv_at hl 0 rfl) ?_
        refine lv_iconst (v := i32 (3)) hx hb dL_letter_30 rfl ?_
        refine q_icmp_ne (tgt := 39) hx hb hrn ⟨by decide, by decide⟩ dL_letter_31 (by decide) (fun c_4 => ?_) (fun c_4 => ?_)
        · -- z ≠ 3
          refine lv_iload_n hx hb dL_letter_39 rfl (lv_at hl 0 rfl) ?_
          refine lv_iconst (v := i32 (4)) hx hb dL_letter_40 rfl ?_
          refine q_icmp_ne (tgt := 49) hx hb hrn ⟨by decide, by decide⟩ dL_letter_41 (by decide) (fun c_5 => ?_) (fun c_5 => ?_)
          · -- z ≠ 4
            refine lv_iload_n hx hb dL_letter_49 rfl (lv_at hl 0 rfl) ?_
            refine lv_iconst (v := i32 (5)) hx hb dL_letter_50 rfl ?_
            refine q_icmp_ne (tgt := 59) hx hb hrn ⟨by decide, by decide⟩ dL_letter_51 (by decide) (fun c_6 => ?_) (fun c_6 => ?_)
            · -- z ≠ 5
              refine lv_bipush (v := i32 (88)) hx hb dL_letter_59 (by decide) ?_
              refine q_nm (show (88 : Int) = leF z from by unfold leF; first | (rw [if_pos (by omega)]; done) | (rw [if_neg (by omega), if_pos (by omega)]; done) | (rw [if_neg (by omega), if_neg (by omega), if_pos (by omega)]; done) | (rw [if_neg (by omega), if_neg (by omega), if_neg (by omega), if_pos (by omega)]; done) | (rw [if_neg (by omega), if_neg (by omega), if_neg (by omega), if_neg (by omega), if_pos (by omega)]; done) | (rw [if_neg (by omega), if_neg (by omega), if_neg (by omega), if_neg (by omega), if_neg (by omega), if_pos (by omega)]; done) | (rw [if_neg (by omega), if_neg (by omega), if_neg (by omega), if_neg (by omega), if_neg (by omega), if_neg (by omega)]; done)) ?_
              subst hQm
              exact q_cret hx hb hr hlocks hP hS (by unfold leF; repeat' split; all_goals rfl) ⟨rfl, rfl, rfl⟩ (by show 0 ≤ 0; omega) (by show 0 ≤ 0; omega) dL_letter_61
            · -- z = 5
              refine lv_bipush (v := i32 (90)) hx hb dL_letter_54 (by decide) ?_
              refine lv_goto (tgt := 61) hx hb dL_letter_56 (by decide) ?_
              refine q_nm (show (90 : Int) = leF z from by unfold leF; first | (rw [if_pos (by omega)]; done) | (rw [if_neg (by omega), if_pos (by omega)]; done) | (rw [if_neg (by omega), if_neg (by omega), if_pos (by omega)]; done) | (rw [if_neg (by omega), if_neg (by omega), if_neg (by omega), if_pos (by omega)]; done) | (rw [if_neg (by omega), if_neg (by omega), if_neg (by omega), if_neg (by omega), if_pos (by omega)]; done) | (rw [if_neg (by omega), if_neg (by omega), if_neg (by omega), if_neg (by omega), if_neg (by omega), if_pos (by omega)]; done) | (rw [if_neg (by omega), if_neg (by omega), if_neg (by omega), if_neg (by omega), if_neg (by omega), if_neg (by omega)]; done)) ?_
              subst hQm
              exact q_cret hx hb hr hlocks hP hS (by unfold leF; repeat' split; all_goals rfl) ⟨rfl, rfl, rfl⟩ (by show 0 ≤ 0; omega) (by show 0 ≤ 0; omega) dL_letter_61
          · -- z = 4
            refine lv_bipush (v := i32 (87)) hx hb dL_letter_44 (by decide) ?_
            refine lv_goto (tgt := 61) hx hb dL_letter_46 (by decide) ?_
            refine q_nm (show (87 : Int) = leF z from by unfold leF; first | (rw [if_pos (by omega)]; done) | (rw [if_neg (by omega), if_pos (by omega)]; done) | (rw [if_neg (by omega), if_neg (by omega), if_pos (by omega)]; done) | (rw [if_neg (by omega), if_neg (by omega), if_neg (by omega), if_pos (by omega)]; done) | (rw [if_neg (by omega), if_neg (by omega), if_neg (by omega), if_neg (by omega), if_pos (by omega)]; done) | (rw [if_neg (by omega), if_neg (by omega), if_neg (by omega), if_neg (by omega), if_neg (by omega), if_pos (by omega)]; done) | (rw [if_neg (by omega), if_neg (by omega), if_neg (by omega), if_neg (by omega), if_neg (by omega), if_neg (by omega)]; done)) ?_
            subst hQm
            exact q_cret hx hb hr hlocks hP hS (by unfold leF; repeat' split; all_goals rfl) ⟨rfl, rfl, rfl⟩ (by show 0 ≤ 0; omega) (by show 0 ≤ 0; omega) dL_letter_61
        · -- z = 3
          refine lv_bipush (v := i32 (71)) hx hb dL_letter_34 (by decide) ?_
          refine lv_goto (tgt := 61) hx hb dL_letter_36 (by decide) ?_
          refine q_nm (show (71 : Int) = leF z from by unfold leF; first | (rw [if_pos (by omega)]; done) | (rw [if_neg (by omega), if_pos (by omega)]; done) | (rw [if_neg (by omega), if_neg (by omega), if_pos (by omega)]; done) | (rw [if_neg (by omega), if_neg (by omega), if_neg (by omega), if_pos (by omega)]; done) | (rw [if_neg (by omega), if_neg (by omega), if_neg (by omega), if_neg (by omega), if_pos (by omega)]; done) | (rw [if_neg (by omega), if_neg (by omega), if_neg (by omega), if_neg (by omega), if_neg (by omega), if_pos (by omega)]; done) | (rw [if_neg (by omega), if_neg (by omega), if_neg (by omega), if_neg (by omega), if_neg (by omega), if_neg (by omega)]; done)) ?_
          subst hQm
          exact q_cret hx hb hr hlocks hP hS (by unfold leF; repeat' split; all_goals rfl) ⟨rfl, rfl, rfl⟩ (by show 0 ≤ 0; omega) (by show 0 ≤ 0; omega) dL_letter_61
      · -- z = 2
        refine lv_bipush (v := i32 (89)) hx hb dL_letter_24 (by decide) ?_
        refine lv_goto (tgt := 61) hx hb dL_letter_26 (by decide) ?_
        refine q_nm (show (89 : Int) = leF z from by unfold leF; first | (rw [if_pos (by omega)]; done) | (rw [if_neg (by omega), if_pos (by omega)]; done) | (rw [if_neg (by omega), if_neg (by omega), if_pos (by omega)]; done) | (rw [if_neg (by omega), if_neg (by omega), if_neg (by omega), if_pos (by omega)]; done) | (rw [if_neg (by omega), if_neg (by omega), if_neg (by omega), if_neg (by omega), if_pos (by omega)]; done) | (rw [if_neg (by omega), if_neg (by omega), if_neg (by omega), if_neg (by omega), if_neg (by omega), if_pos (by omega)]; done) | (rw [if_neg (by omega), if_neg (by omega), if_neg (by omega), if_neg (by omega), if_neg (by omega), if_neg (by omega)]; done)) ?_
        subst hQm
        exact q_cret hx hb hr hlocks hP hS (by unfold leF; repeat' split; all_goals rfl) ⟨rfl, rfl, rfl⟩ (by show 0 ≤ 0; omega) (by show 0 ≤ 0; omega) dL_letter_61
    · -- z = 1
      refine lv_bipush (v := i32 (66)) hx hb dL_letter_14 (by decide) ?_
      refine lv_goto (tgt := 61) hx hb dL_letter_16 (by decide) ?_
      refine q_nm (show (66 : Int) = leF z from by unfold leF; first | (rw [if_pos (by omega)]; done) | (rw [if_neg (by omega), if_pos (by omega)]; done) | (rw [if_neg (by omega), if_neg (by omega), if_pos (by omega)]; done) | (rw [if_neg (by omega), if_neg (by omega), if_neg (by omega), if_pos (by omega)]; done) | (rw [if_neg (by omega), if_neg (by omega), if_neg (by omega), if_neg (by omega), if_pos (by omega)]; done) | (rw [if_neg (by omega), if_neg (by omega), if_neg (by omega), if_neg (by omega), if_neg (by omega), if_pos (by omega)]; done) | (rw [if_neg (by omega), if_neg (by omega), if_neg (by omega), if_neg (by omega), if_neg (by omega), if_neg (by omega)]; done)) ?_
      subst hQm
      exact q_cret hx hb hr hlocks hP hS (by unfold leF; repeat' split; all_goals rfl) ⟨rfl, rfl, rfl⟩ (by show 0 ≤ 0; omega) (by show 0 ≤ 0; omega) dL_letter_61
  · -- z = 0
    refine lv_bipush (v := i32 (82)) hx hb dL_letter_4 (by decide) ?_
    refine lv_goto (tgt := 61) hx hb dL_letter_6 (by decide) ?_
    refine q_nm (show (82 : Int) = leF z from by unfold leF; first | (rw [if_pos (by omega)]; done) | (rw [if_neg (by omega), if_pos (by omega)]; done) | (rw [if_neg (by omega), if_neg (by omega), if_pos (by omega)]; done) | (rw [if_neg (by omega), if_neg (by omega), if_neg (by omega), if_pos (by omega)]; done) | (rw [if_neg (by omega), if_neg (by omega), if_neg (by omega), if_neg (by omega), if_pos (by omega)]; done) | (rw [if_neg (by omega), if_neg (by omega), if_neg (by omega), if_neg (by omega), if_neg (by omega), if_pos (by omega)]; done) | (rw [if_neg (by omega), if_neg (by omega), if_neg (by omega), if_neg (by omega), if_neg (by omega), if_neg (by omega)]; done)) ?_
    subst hQm
    exact q_cret hx hb hr hlocks hP hS (by unfold leF; repeat' split; all_goals rfl) ⟨rfl, rfl, rfl⟩ (by show 0 ≤ 0; omega) (by show 0 ≤ 0; omega) dL_letter_61

set_option maxHeartbeats 4000000 in
set_option maxRecDepth 100000 in
theorem c_L_isThere (l : Launch) (g : GT) (base : Nat) (ad : Nat → Nat → Nat) (S : St) (x : Int) (hfl : l.stackTraces = false) (hI : IV S) (hrn : rng x) : Met l yL_isThere [Cond.code yL_isThere cL_isThere 2 (some FieldType.boolean)] ({ frames := 9, cells := 2, slots := 12, locals := 158 }) (va_Pc [.ref (ad 1 0), .int (i32 (x))] (PK g base ad S)) (gQ g base (an (some (.int (i32 (b2 (peC S x))))) ad S)) 2 12 (fun q => base ≤ q) := by
  refine mk_m (own := RL) (lv0 := [(0, .ref (ad 1 0)), (1, .int (i32 (x)))]) (by decide) rfl (Nat.le_of_ble_eq_true rfl) rfl ?_
  intro p e s m below meth cz av Qm hx hb hr hml hown hlocks hK hZ hP hQm ls hl
  have hS : va_S (fun q => base ≤ q) s.heap s.heap [] := va_S.rf
  have rS : ∀ (a1 b1 : Nat) (i1 : Int), rng (S a1 b1 i1) := fun a1 b1 i1 => hP.rg a1 b1 i1
  refine lv_aload_n hx hb dL_isThere_0 rfl (lv_at hl 0 rfl) ?_
  refine lv_iload_n hx hb dL_isThere_1 rfl (lv_at hl 1 rfl) ?_
  refine lv_iconst (v := i32 (0)) hx hb dL_isThere_2 rfl ?_
  refine q_callH2 (As := [.ref (ad 1 0), .int (i32 (x)), .int (i32 (0))]) (rest := []) hx hb hml hl.1 hown hK hZ hP hS (c_L_pieceIs l g base ad S x 0 hfl hI.wc hrn ⟨by decide, by decide⟩) t_266 t_14 t_268 t_267 f_yL_pieceIs ⟨Nat.le_of_ble_eq_true rfl, Nat.le_of_ble_eq_true rfl⟩ rfl rfl (Nat.le_of_ble_eq_true rfl) dL_isThere_3 (c2 := 2) (s2 := 12) ⟨by first | rfl | (dsimp only; omega), by first | rfl | (dsimp only; omega)⟩ ⟨by show 2 ≤ 2; omega, by show 12 ≤ 12; omega⟩ (q_an (fun H locs hP hS => ?_))
  refine q_if_le (tgt := 13) hx hb (pv_r hI x) dL_isThere_6 (by decide) (fun c_1 => ?_) (fun c_1 => ?_)
  · -- (lv3 (peC S x) (0 ≤ 0 ∧ 0 < 6) (True) (-1000001) (-1000002) 0 (pcC S (10 + x.toNat) 0)) ≤ 0
    refine lv_iconst (v := i32 (0)) hx hb dL_isThere_13 rfl ?_
    refine q_nm (b2_f (show ¬ (peC S x) from by have hq := pv_t hI x; exact fun y => absurd (hq.mpr y) (by omega))).symm ?_
    subst hQm
    exact q_zret hx hb hr hlocks hP hS (b2_01 _) ⟨rfl, rfl, rfl⟩ (by show 2 ≤ 2; omega) (by show 12 ≤ 12; omega) dL_isThere_14
  · -- 0 < (lv3 (peC S x) (0 ≤ 0 ∧ 0 < 6) (True) (-1000001) (-1000002) 0 (pcC S (10 + x.toNat) 0))
    refine lv_iconst (v := i32 (1)) hx hb dL_isThere_9 rfl ?_
    refine lv_goto (tgt := 14) hx hb dL_isThere_10 (by decide) ?_
    refine q_nm (b2_t (show peC S x from by have hq := pv_t hI x; exact hq.mp (by omega))).symm ?_
    subst hQm
    exact q_zret hx hb hr hlocks hP hS (b2_01 _) ⟨rfl, rfl, rfl⟩ (by show 2 ≤ 2; omega) (by show 12 ≤ 12; omega) dL_isThere_14
