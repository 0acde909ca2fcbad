/-! THE CLAIM OUT OF ONE WALK OF THE LAW'S BODY. Your part is whole_start (and what it stands on); all else here is the same for every law, but numbers. -/
def R_law : String := "WeftHouseLaw"
def lw_P (b : Addr) (xs : List Int32) (args : Array Value) (s : State) : Prop := args = #[.ref b] ∧ s.IntsAt b xs ∧ xs.length ≤ 260 ∧ (Jvm.Cond.and given_1 narrow_1).before args s = true
def lw_Q (_ : Array Value) (s : State) (o : Outcome) (t : State) : Prop := o = .returned (some (.int 1)) ∧ Framed s o t [] 600104 7301314
def lw_Z (below : List Frame) (a : Array Value) (s : State) : State → Prop := fun t => ∃ o, t.status = .running ∧ Ended t below o ∧ lw_Q a s o t
/-- the law's own end, with 1 on the stack, nothing written that was there before, its room as the claim has it -/
theorem lw_ret {p : Program} {l : Launch} {e : Env} {s : State} {m : MethodId} {below : List Frame} {meth : Method} {c : Code} {b : Nat} (hx : p.tables.exec = Jvm.exec) (hb : c.code = code) (hr : meth.sig.returnType = ret) (hlocks : meth.locks = false) {pc : Nat} {H : Heap} {ls : Array Slot} (hdg : decode code pc = .ok (.ireturn, 1)) : W p l e room_1 s m #[Value.ref b] below meth c H [] 600104 7301314 (lw_Z below #[Value.ref b] s) (F0 m pc ls [.int 1]) := by
  intro T hT X
  obtain ⟨fs, hret, hrun, hended, hW, hframe⟩ := X.leave (v := some (.int 1)) (hlocks := hlocks) (fun h => by rw [hr] at h; cases h)
  have hmeth' : T.vm.method? m = some meth := X.method'
  refine ⟨T.setFrames fs, ?_, .returned (some (.int 1)), hrun, hended, rfl, ⟨_, rfl⟩, hW, hframe⟩
  jvm_step X.here [X.here.top, hx, hb, hdg, hmeth', hr, ret, narrow_b1]
  (try refine ⟨rfl, ?_⟩); (try refine ⟨rfl, ?_⟩)
  first | (intro acts; rw [hret _ acts rfl rfl rfl]) | rw [hret _ _ rfl rfl rfl]
  exact Steps.refl _
/-- what holds at the law's entry: the machine, the code, the tables' words (any of lw_tbl by 'hts w (by decide +kernel)'), the script of L ints xs at the cell b, what the Statement gives of the start (any of its parts by flat_of_before) -/
def lw_At (p : Program) (s : State) (m : MethodId) (meth : Method) (c : Code) (b L : Nat) (xs : Nat → Int32) : Prop :=
  p.tables.exec = Jvm.exec ∧ c.code = code ∧ meth.sig.returnType = ret ∧ c.maxLocals = 10 ∧ s.vm.findClass R_law = some m.cls ∧ (∀ w ∈ lw_tbl, w.before #[Value.ref b] s = true) ∧ va_X b L xs s s.heap ∧ b < s.heap.size ∧ meth.locks = false ∧ (Jvm.Cond.and given_1 narrow_1).before #[Value.ref b] s = true
/-! ===== the start ===== -/
theorem notcast {s : State} {args : Array Value} (hgv : (Jvm.Cond.and given_1 narrow_1).before args s = true) : ∀ q ∈ ncs, va_Nc q.1 q.2 s := by
  have hs := flat_of_before _ hgv
  intro q hq
  unfold ncs at hq
  rcases List.mem_cons.mp hq with rfl | hq
  · exact va_Nc.of (hs _ (by decide +kernel))
  rcases List.mem_cons.mp hq with rfl | hq
  · exact va_Nc.of (hs _ (by decide +kernel))
  rcases List.mem_cons.mp hq with rfl | hq
  · exact va_Nc.of (hs _ (by decide +kernel))
  rcases List.mem_cons.mp hq with rfl | hq
  · exact va_Nc.of (hs _ (by decide +kernel))
  rcases List.mem_cons.mp hq with rfl | hq
  · exact va_Nc.of (hs _ (by decide +kernel))
  · rw [List.mem_singleton.mp hq]
    exact va_Nc.of (hs _ (by decide +kernel))
theorem kn_X0 {s : State} {args : Array Value} (hts : ∀ w ∈ lw_tbl, w.before args s = true) : ∃ (cC : ClassId) (iS : Nat → Nat), u_Kn s RX0 TX0 5 cC iS :=
  u_known hts (fun w hw => by
    have hp : u_ws RX0 TX0 5 = ([369, 371, 373, 375, 377] : List Nat).filterMap (fun i => lw_tbl[i]?) := by decide +kernel
    rw [hp] at hw
    obtain ⟨i, -, hi⟩ := List.mem_filterMap.mp hw
    exact List.mem_of_getElem? hi) (hts _ (List.mem_of_getElem? t_359))
theorem kn_X1 {s : State} {args : Array Value} (hts : ∀ w ∈ lw_tbl, w.before args s = true) : ∃ (cC : ClassId) (iS : Nat → Nat), u_Kn s RX1 TX1 6 cC iS :=
  u_known hts (fun w hw => by
    have hp : u_ws RX1 TX1 6 = ([48, 50, 52, 54, 56, 58] : List Nat).filterMap (fun i => lw_tbl[i]?) := by decide +kernel
    rw [hp] at hw
    obtain ⟨i, -, hi⟩ := List.mem_filterMap.mp hw
    exact List.mem_of_getElem? hi) (hts _ (List.mem_of_getElem? t_37))
theorem kn_X2 {s : State} {args : Array Value} (hts : ∀ w ∈ lw_tbl, w.before args s = true) : ∃ (cC : ClassId) (iS : Nat → Nat), u_Kn s RX2 TX2 9 cC iS :=
  u_known hts (fun w hw => by
    have hp : u_ws RX2 TX2 9 = ([469, 471, 473, 475, 477, 479, 481, 483, 485] : List Nat).filterMap (fun i => lw_tbl[i]?) := by decide +kernel
    rw [hp] at hw
    obtain ⟨i, -, hi⟩ := List.mem_filterMap.mp hw
    exact List.mem_of_getElem? hi) (hts _ (List.mem_of_getElem? t_306))
theorem kn_X3 {s : State} {args : Array Value} (hts : ∀ w ∈ lw_tbl, w.before args s = true) : ∃ (cC : ClassId) (iS : Nat → Nat), u_Kn s RX3 TX3 8 cC iS :=
  u_known hts (fun w hw => by
    have hp : u_ws RX3 TX3 8 = ([73, 75, 77, 79, 81, 83, 85, 87] : List Nat).filterMap (fun i => lw_tbl[i]?) := by decide +kernel
    rw [hp] at hw
    obtain ⟨i, -, hi⟩ := List.mem_filterMap.mp hw
    exact List.mem_of_getElem? hi) (hts _ (List.mem_of_getElem? t_27))
theorem t_ao0 : lw_tbl[35]? = some (.arrayOver (.object RX0)) := by decide +kernel
theorem t_ao2 : lw_tbl[64]? = some (.arrayOver (.object RX2)) := by decide +kernel
theorem t_ls0 : lw_tbl[165]? = some (.laysStatic Bundle.tN "UNASSIGNED_STACK" Bundle.steD) := by decide +kernel
theorem t_ls1 : lw_tbl[167]? = some (.laysStatic Bundle.tN "SUPPRESSED_SENTINEL" Bundle.listD) := by decide +kernel
theorem arr_k {s : State} {args : Array Value} {ty : FieldType} (hp : ∀ C, ty ≠ .object C) (h : (Cond.arrayClass ty).before args s = true) : ∃ c : ClassId, ArrOfT s c ty ∧ s.vm.findClass ("[" ++ ty.toString) = some c := by
  obtain ⟨c, k, comp, h1, h2, h3⟩ := Cond.arrayClass_spec h
  exact ⟨c, fun n z => ⟨(fun k h => by cases h), k, h2, comp, h3⟩, h1⟩
theorem arr_o {s : State} {args : Array Value} {C : String} (h : (Cond.arrayOver (.object C)).before args s = true) : ∃ c : ClassId, ArrOfT s c (.object C) ∧ va_RA s c (.object C) := by
  obtain ⟨comp, c, k, h1, h2, h3, h4, h5⟩ := Cond.arrayOver_spec h
  exact ⟨c, fun n z => ⟨(fun k h => by cases h), k, h3, comp, h4⟩, k, comp, h3, h4, h1, h5⟩
theorem KK_at {s : State} {args : Array Value} (hts : ∀ w ∈ lw_tbl, w.before args s = true) (hgv : (Jvm.Cond.and given_1 narrow_1).before args s = true) : ∃ g : GT, KK g s := by
  obtain ⟨c0, i0, k0⟩ := kn_X0 hts
  obtain ⟨c1, i1, k1⟩ := kn_X1 hts
  obtain ⟨c2, i2, k2⟩ := kn_X2 hts
  obtain ⟨c3, i3, k3⟩ := kn_X3 hts
  obtain ⟨aI, rI, fI⟩ := arr_k (ty := .int) (fun _ h => by cases h) (hts _ ac_I)
  obtain ⟨aZ, rZ, fZ⟩ := arr_k (ty := .boolean) (fun _ h => by cases h) (hts _ ac_Z)
  have h0 := hts _ (List.mem_of_getElem? t_ao0)
  have h2 := hts _ (List.mem_of_getElem? t_ao2)
  obtain ⟨aC, rC, fC⟩ := arr_o h0
  obtain ⟨aP, rP, fP⟩ := arr_o h2
  refine ⟨((fun k => if k = 0 then c0 else if k = 1 then c1 else if k = 2 then c2 else c3, fun k => if k = 0 then i0 else if k = 1 then i1 else if k = 2 then i2 else i3), (aI, aZ, aC, aP)), ⟨fun k q hq => ?_, fun k q hq => ?_⟩, fun i w hi hk => ?_, fun i own k tx hi => ?_, fun ty hty => ?_, va_AO.of h0, va_AO.of h2, notcast hgv⟩
  · match k, hq with
    | 0, hq => cases hq; exact k0
    | 1, hq => cases hq; exact k1
    | 2, hq => cases hq; exact k2
    | 3, hq => cases hq; exact k3
    | k + 4, hq => simp [vwCl] at hq
  · match k, hq with
    | 0, hq => cases hq; exact ⟨rI, fI⟩
    | 1, hq => cases hq; exact ⟨rZ, fZ⟩
    | 2, hq => cases hq; exact ⟨rC, fC⟩
    | 3, hq => cases hq; exact ⟨rP, fP⟩
    | k + 4, hq => simp [tys] at hq
  · have h1 : w.onTables = true := by
      simp only [kw, Bool.and_eq_true] at hk
      exact hk.1
    exact va_Nw.of h1 (hts w (List.mem_of_getElem? hi))
  · have hw := hts _ (List.mem_of_getElem? hi)
    have hcur : ∃ cur, s.vm.findClass own = some cur := by
      have h1 := hw
      simp only [Cond.before, Cond.holds, Cond.value] at h1
      cases hc : s.vm.findClass own with
      | none => simp [hc] at h1
      | some cur => exact ⟨cur, rfl⟩
    obtain ⟨cur, hcur⟩ := hcur
    obtain ⟨-, -, -, a, -, -, -, -, -, hev⟩ := Cond.stringRef_spec hcur hw
    exact ⟨a, vk_R.of hw hev⟩
  · have := hts _ hty
    simp only [Cond.before, Cond.holds, Cond.value] at this ⊢
    exact this
theorem ZZ_at {s : State} {args : Array Value} (hts : ∀ w ∈ lw_tbl, w.before args s = true) (hgv : (Jvm.Cond.and given_1 narrow_1).before args s = true) : ZZ s.heap.size s s.heap := by
  have hs := flat_of_before _ hgv
  have hini := hts _ (List.mem_of_getElem? t_17)
  exact ⟨vx_Zqof (hts _ (List.mem_of_getElem? t_ls0)) hini (hs _ (by decide +kernel)) (fun a h => Nat.not_le_of_lt h), vx_Zqof (hts _ (List.mem_of_getElem? t_ls1)) hini (hs _ (by decide +kernel)) (fun a h => Nat.not_le_of_lt h)⟩
def s00 : St := fun _ _ _ => 0
def fz : Int → Int := fun i => if i = -1 then 1 else 0
def sI : St := nwS (nwS (nwS s00 2 fz) 1 fz) 3 fz
theorem sI_z {a b : Nat} {i : Int} (h : ¬ (b = 0 ∧ i = -1)) : sI a b i = 0 := by
  unfold sI nwS fz s00
  repeat' split
  all_goals first | rfl | (exfalso; omega)
theorem sI_1 {a : Nat} (h0 : 0 < a) (h : a < 4) : sI a 0 (-1) = 1 := by
  unfold sI nwS fz
  repeat' split
  all_goals first | rfl | (exfalso; omega)
theorem IV_0 : IV sI := by
  have e6 : ∀ i : Int, sI 1 6 i = 0 := fun i => sI_z (by omega)
  have ew := sI_z (a := 1) (b := 0) (i := 1) (by omega)
  have ec := sI_z (a := 1) (b := 0) (i := 3) (by omega)
  have ep := sI_z (a := 1) (b := 0) (i := 6) (by omega)
  have el := sI_z (a := 2) (b := 0) (i := 0) (by omega)
  refine ⟨⟨sI_1 (by decide) (by decide), sI_1 (by decide) (by decide), sI_1 (by decide) (by decide)⟩, ⟨by rw [ew]; decide, fun j h0 h1 => by rw [ew] at h1; omega⟩, ⟨by rw [ec]; decide, fun j => ?_, fun x x0 x1 => by rw [ec] at x1; omega⟩, ⟨by rw [el]; decide, fun j _ _ => ?_, fun j _ _ => ⟨sI_z (by omega), sI_z (by omega)⟩⟩, ⟨by rw [ep]; decide, fun j hj => ?_, fun x hx => ?_⟩, fun j _ _ => ?_⟩
  · rw [sI_z (by omega), ec]
    omega
  · rw [sI_z (b := 3) (by omega), sI_z (b := 4) (by omega), sI_z (b := 5) (by omega)]
    decide
  · rw [e6] at hj
    omega
  · have := hx.2.2
    rw [e6] at this
    omega
  · rw [sI_z (b := 3) (by omega), sI_z (b := 4) (by omega)]
    exact sm_0z (fun k _ _ => by rw [tbN_e, cif_f (by rw [e6]; decide)])
theorem LV_0 : LV sI := by
  have ec := sI_z (a := 1) (b := 0) (i := 3) (by omega)
  have el := sI_z (a := 2) (b := 0) (i := 0) (by omega)
  refine ⟨⟨by rw [ec]; exact sI_z (by omega), by rw [el]; exact sI_z (by omega), by rw [sI_z (b := 1) (by omega), sI_z (b := 0) (i := 6) (by omega)]⟩, fun x x0 x1 => by rw [ec] at x1; omega, fun x _ _ => sI_z (by omega), fun j j0 j1 => by rw [el] at j1; omega⟩
set_option maxHeartbeats 4000000 in
set_option maxRecDepth 100000 in
/-- YOUR PART: from the entry, for every script of at most 260 ints, the law comes to its end with true -/
theorem whole_start {p : Program} {e : Env} {s : State} {m : MethodId} {below : List Frame} {meth : Method} {c : Code} (l : Launch) (hflags : l.flags = flags0) {b L : Nat} {xs : Nat → Int32} (hL : L ≤ 260) (C0 : lw_At p s m meth c b L xs) : W p l e room_1 s m #[Value.ref b] below meth c s.heap [] 0 0 (lw_Z below #[Value.ref b] s) (entryFrame m ([Value.ref b] : List Value).toArray 10) := by
  obtain ⟨hx, hb, hr, hml, hown, hts, hX, hbl, hlocks, hgv⟩ := C0
  have hfl : l.stackTraces = false := by
    unfold Launch.stackTraces
    rw [hflags]
    decide +kernel
  obtain ⟨g, hK⟩ := KK_at hts hgv
  have hZ := ZZ_at hts hgv
  have hb : c.code = cL_law := hb
  have hown : s.vm.findClass RL = some m.cls := hown
  have hl := lv_entry ([.ref b]) (n := 10) (Nat.le_of_ble_eq_true rfl)
  rw [lg_entry_eq]
  generalize (lg_sl ([.ref b]) ++ List.replicate (10 - (lg_sl ([.ref b])).length) Slot.unset).toArray = ls at hl ⊢
  have hl : lv_has ls 10 [(0, .ref b)] := hl
  have hS : va_S (fun q => s.heap.size ≤ q) s.heap s.heap [] := va_S.rf
  have hdd : ∀ o : Nat, s00 o 0 (-1) ≠ 1 := fun o h => by unfold s00 at h; exact absurd h (by decide)
  have hP0 : pic g s.heap.size (fun _ _ => 0) s00 s.heap := ⟨fun o r h1 => absurd h1 (hdd o), fun o r o' r' h1 => absurd h1 (hdd o), Nat.le_refl _, fun _ _ _ => rng_0⟩
  have hW := hP0.piw
  refine w_newO (fs := [.null, .int (i32 0), .null, .int (i32 0), .null, .null, .int (i32 0), .null]) hx hb hown hK hW hS (ci := 3) rfl (lay_X3 hK) tyX3 tyX3_ok t_26 t_27 t_15 (fun j hj => by rcases (show j = 0 ∨ j = 1 ∨ j = 2 ∨ j = 3 ∨ j = 4 ∨ j = 5 ∨ j = 6 ∨ j = 7 by omega) with rfl | rfl | rfl | rfl | rfl | rfl | rfl | rfl <;> rfl) (Nat.le_of_ble_eq_true rfl) (Nat.le_of_ble_eq_true rfl) dL_law_0 (fun q0 H hqq0 hW hS => ?_)
  have hW : piw g s.heap.size (fun _ _ => 0) s00 [(q0, .inr (3, [.null, .int (i32 0), .null, .int (i32 0), .null, .null, .int (i32 0), .null]))] H := hW
  refine lv_dup hx hb dL_law_3 rfl ?_
  refine q_callI (As := []) (rest := [.ref q0]) hx hb hml hl.1 hown hK hZ hW hS (c_X3_init l g s.heap.size (fun _ _ => 0) s00 q0 hdd) rfl t_29 (q_callB hK 28 15 30 t_28 t_15 t_30 f_yX3_init ⟨Nat.le_of_ble_eq_true rfl, Nat.le_of_ble_eq_true rfl⟩) rfl rfl (Nat.le_of_ble_eq_true rfl) dL_law_4 ⟨Nat.le_of_ble_eq_true rfl, Nat.le_of_ble_eq_true rfl⟩ (fun r9 ad2 S2 H locs h9 hP hS => ?_)
  obtain ⟨rfl, A2, A1, hA1, had2, hS2⟩ := h9
  have eq0 : q0 = ad2 1 0 := by rw [had2, adN_o, hA1]
  have hS2 : S2 = nwS (nwS s00 2 fz) 1 fz := hS2
  refine lv_astore_n (lv' := [(1, .ref q0), (0, .ref b)]) hx hb dL_law_7 rfl hl (by decide) rfl (fun ls hl => ?_)
  refine lv_iconst (v := i32 4) hx hb dL_law_8 rfl ?_
  refine w_newI hx hb hK hP.piw hS (n := i32 4) (N := 4) (by decide) (by decide) (by decide) (Nat.le_of_ble_eq_true rfl) (Nat.le_of_ble_eq_true rfl) ac_I dL_law_9 (fun q9 H hW hS => ?_)
  have hW : piw g s.heap.size ad2 S2 [(q9, arCell g ad2 (fun _ => 0) (0, 4))] H := hW
  refine lv_astore_n (lv' := [(2, .ref q9), (1, .ref q0), (0, .ref b)]) hx hb dL_law_11 rfl hl (by decide) rfl (fun ls hl => ?_)
  refine lv_bipush (v := i32 10) hx hb dL_law_12 (by decide) ?_
  refine w_newI hx hb hK hW hS (n := i32 10) (N := 10) (by decide) (by decide) (by decide) (Nat.le_of_ble_eq_true rfl) (Nat.le_of_ble_eq_true rfl) ac_I dL_law_14 (fun q14 H hW hS => ?_)
  have hW : piw g s.heap.size ad2 S2 [(q9, arCell g ad2 (fun _ => 0) (0, 4)), (q14, arCell g ad2 (fun _ => 0) (0, 10))] H := hW
  refine lv_astore_n (lv' := [(3, .ref q14), (2, .ref q9), (1, .ref q0), (0, .ref b)]) hx hb dL_law_16 rfl hl (by decide) rfl (fun ls hl => ?_)
  refine lv_bipush (v := i32 20) hx hb dL_law_17 (by decide) ?_
  refine w_newI hx hb hK hW hS (n := i32 20) (N := 20) (by decide) (by decide) (by decide) (Nat.le_of_ble_eq_true rfl) (Nat.le_of_ble_eq_true rfl) ac_I dL_law_19 (fun q19 H hW hS => ?_)
  have hW : piw g s.heap.size ad2 S2 [(q9, arCell g ad2 (fun _ => 0) (0, 4)), (q14, arCell g ad2 (fun _ => 0) (0, 10)), (q19, arCell g ad2 (fun _ => 0) (0, 20))] H := hW
  refine lv_astore (lv' := [(4, .ref q19), (3, .ref q14), (2, .ref q9), (1, .ref q0), (0, .ref b)]) hx hb dL_law_21 hl (by decide) rfl (fun ls hl => ?_)
  refine lv_bipush (v := i32 20) hx hb dL_law_23 (by decide) ?_
  refine w_newI hx hb hK hW hS (n := i32 20) (N := 20) (by decide) (by decide) (by decide) (Nat.le_of_ble_eq_true rfl) (Nat.le_of_ble_eq_true rfl) ac_I dL_law_25 (fun q25 H hW hS => ?_)
  have hW : piw g s.heap.size ad2 S2 [(q9, arCell g ad2 (fun _ => 0) (0, 4)), (q14, arCell g ad2 (fun _ => 0) (0, 10)), (q19, arCell g ad2 (fun _ => 0) (0, 20)), (q25, arCell g ad2 (fun _ => 0) (0, 20))] H := hW
  refine lv_astore (lv' := [(5, .ref q25), (4, .ref q19), (3, .ref q14), (2, .ref q9), (1, .ref q0), (0, .ref b)]) hx hb dL_law_27 hl (by decide) rfl (fun ls hl => ?_)
  have hkc3 : keepc S2 3 := fun _ => ⟨by decide, fun j _ => by omega, fun j _ => by omega⟩
  have hP := pic_add (o := 3) (k := 3) (f := fz) (A := (fun r => if r = 1 then q9 else if r = 2 then q14 else if r = 3 then q19 else q25)) (ix := fun r => r - 1) (ri := fun i => i + 1) hW rfl (Or.inl rfl) (fun i => by unfold fz; split <;> exact ⟨by decide, by decide⟩) hkc3 (fun r hr9 => by rcases ok3 hr9 with rfl | rfl | rfl | rfl <;> rfl) (fun r hr9 => by rcases ok3 hr9 with rfl | rfl | rfl | rfl <;> rfl)
  have hSI : nwS S2 3 fz = sI := by rw [hS2]; rfl
  rw [hSI] at hP
  have e10 : q0 = adN ad2 3 (fun r => if r = 1 then q9 else if r = 2 then q14 else if r = 3 then q19 else q25) 1 0 := by rw [adN_n (by decide)]; exact eq0
  have e31 : q9 = adN ad2 3 (fun r => if r = 1 then q9 else if r = 2 then q14 else if r = 3 then q19 else q25) 3 1 := by rw [adN_o]; rfl
  have e32 : q14 = adN ad2 3 (fun r => if r = 1 then q9 else if r = 2 then q14 else if r = 3 then q19 else q25) 3 2 := by rw [adN_o]; rfl
  have e33 : q19 = adN ad2 3 (fun r => if r = 1 then q9 else if r = 2 then q14 else if r = 3 then q19 else q25) 3 3 := by rw [adN_o]; rfl
  have e34 : q25 = adN ad2 3 (fun r => if r = 1 then q9 else if r = 2 then q14 else if r = 3 then q19 else q25) 3 4 := by rw [adN_o]; rfl
  generalize adN ad2 3 (fun r => if r = 1 then q9 else if r = 2 then q14 else if r = 3 then q19 else q25) = ad at hP e10 e31 e32 e33 e34
  have hl : lv_has ls 10 [(0, .ref b), (1, .ref q0), (2, .ref q9), (3, .ref q14), (4, .ref q19), (5, .ref q25)] := lv_sub hl [5, 4, 3, 2, 1, 0] rfl
  rw [e10, e31, e32, e33, e34] at hl
  refine W.widen (k := 1000) (n := 100000) (Nat.le_of_ble_eq_true rfl) (Nat.le_of_ble_eq_true rfl) ?_
  refine law_run hfl hx hb hml hown hK hZ hX hbl hL (fun H locs ls hS => ?_) IV_0 LV_0 (sI_z (by omega)) hP hS hl
  refine va_forget hS.2.2 ?_
  exact lw_ret hx hb hr hlocks dL_law_356
