/-! ===== the start ===== -/
theorem notcast {s : State} {args : Array Value} (hgv : (Jvm.Cond.and given_1 narrow_1).before args s = true) : ∀ q ∈ ncs, va_Nc q.1 q.2 s := by
  have hs := flat_of_before _ hgv
  intro q hq
  unfold ncs at hq
  rcases List.mem_cons.mp hq with rfl | hq
  · exact va_Nc.of (hs _ (by decide +kernel))
  rcases List.mem_cons.mp hq with rfl | hq
  · exact va_Nc.of (hs _ (by decide +kernel))
  rcases List.mem_cons.mp hq with rfl | hq
  · exact va_Nc.of (hs _ (by decide +kernel))
  rcases List.mem_cons.mp hq with rfl | hq
  · exact va_Nc.of (hs _ (by decide +kernel))
  rcases List.mem_cons.mp hq with rfl | hq
  · exact va_Nc.of (hs _ (by decide +kernel))
  · rw [List.mem_singleton.mp hq]
    exact va_Nc.of (hs _ (by decide +kernel))
theorem kn_X0 {s : State} {args : Array Value} (hts : ∀ w ∈ lw_tbl, w.before args s = true) : ∃ (cC : ClassId) (iS : Nat → Nat), u_Kn s RX0 TX0 5 cC iS :=
  u_known hts (fun w hw => by
    have hp : u_ws RX0 TX0 5 = ([268, 270, 272, 274, 276] : List Nat).filterMap (fun i => lw_tbl[i]?) := by decide +kernel
    rw [hp] at hw
    obtain ⟨i, -, hi⟩ := List.mem_filterMap.mp hw
    exact List.mem_of_getElem? hi) (hts _ (List.mem_of_getElem? t_258))
theorem kn_X1 {s : State} {args : Array Value} (hts : ∀ w ∈ lw_tbl, w.before args s = true) : ∃ (cC : ClassId) (iS : Nat → Nat), u_Kn s RX1 TX1 6 cC iS :=
  u_known hts (fun w hw => by
    have hp : u_ws RX1 TX1 6 = ([68, 70, 72, 74, 76, 78] : List Nat).filterMap (fun i => lw_tbl[i]?) := by decide +kernel
    rw [hp] at hw
    obtain ⟨i, -, hi⟩ := List.mem_filterMap.mp hw
    exact List.mem_of_getElem? hi) (hts _ (List.mem_of_getElem? t_57))
theorem kn_X2 {s : State} {args : Array Value} (hts : ∀ w ∈ lw_tbl, w.before args s = true) : ∃ (cC : ClassId) (iS : Nat → Nat), u_Kn s RX2 TX2 9 cC iS :=
  u_known hts (fun w hw => by
    have hp : u_ws RX2 TX2 9 = ([397, 399, 401, 403, 405, 407, 409, 411, 413] : List Nat).filterMap (fun i => lw_tbl[i]?) := by decide +kernel
    rw [hp] at hw
    obtain ⟨i, -, hi⟩ := List.mem_filterMap.mp hw
    exact List.mem_of_getElem? hi) (hts _ (List.mem_of_getElem? t_383))
theorem kn_X3 {s : State} {args : Array Value} (hts : ∀ w ∈ lw_tbl, w.before args s = true) : ∃ (cC : ClassId) (iS : Nat → Nat), u_Kn s RX3 TX3 8 cC iS :=
  u_known hts (fun w hw => by
    have hp : u_ws RX3 TX3 8 = ([93, 95, 97, 99, 101, 103, 105, 107] : List Nat).filterMap (fun i => lw_tbl[i]?) := by decide +kernel
    rw [hp] at hw
    obtain ⟨i, -, hi⟩ := List.mem_filterMap.mp hw
    exact List.mem_of_getElem? hi) (hts _ (List.mem_of_getElem? t_47))
theorem kn_X4 {s : State} {args : Array Value} (hts : ∀ w ∈ lw_tbl, w.before args s = true) : ∃ (cC : ClassId) (iS : Nat → Nat), u_Kn s RX4 TX4 28 cC iS :=
  u_known hts (fun w hw => by
    have hp : u_ws RX4 TX4 28 = ([726, 728, 730, 732, 734, 736, 738, 740, 742, 744, 746, 748, 750, 752, 754, 756, 758, 760, 762, 764, 766, 768, 770, 772, 774, 776, 778, 780] : List Nat).filterMap (fun i => lw_tbl[i]?) := by decide +kernel
    rw [hp] at hw
    obtain ⟨i, -, hi⟩ := List.mem_filterMap.mp hw
    exact List.mem_of_getElem? hi) (hts _ (List.mem_of_getElem? t_693))
theorem t_ao0 : lw_tbl[55]? = some (.arrayOver (.object RX0)) := by decide +kernel
theorem t_ao2 : lw_tbl[84]? = some (.arrayOver (.object RX2)) := by decide +kernel
theorem t_ls0 : lw_tbl[191]? = some (.laysStatic Bundle.tN "UNASSIGNED_STACK" Bundle.steD) := by decide +kernel
theorem t_ls1 : lw_tbl[193]? = some (.laysStatic Bundle.tN "SUPPRESSED_SENTINEL" Bundle.listD) := by decide +kernel
theorem arr_k {s : State} {args : Array Value} {ty : FieldType} (hp : ∀ C, ty ≠ .object C) (h : (Cond.arrayClass ty).before args s = true) : ∃ c : ClassId, ArrOfT s c ty ∧ s.vm.findClass ("[" ++ ty.toString) = some c := by
  obtain ⟨c, k, comp, h1, h2, h3⟩ := Cond.arrayClass_spec h
  exact ⟨c, fun n z => ⟨(fun k h => by cases h), k, h2, comp, h3⟩, h1⟩
theorem arr_o {s : State} {args : Array Value} {C : String} (h : (Cond.arrayOver (.object C)).before args s = true) : ∃ c : ClassId, ArrOfT s c (.object C) ∧ va_RA s c (.object C) := by
  obtain ⟨comp, c, k, h1, h2, h3, h4, h5⟩ := Cond.arrayOver_spec h
  exact ⟨c, fun n z => ⟨(fun k h => by cases h), k, h3, comp, h4⟩, k, comp, h3, h4, h1, h5⟩
theorem KK_at {s : State} {args : Array Value} (hts : ∀ w ∈ lw_tbl, w.before args s = true) (hgv : (Jvm.Cond.and given_1 narrow_1).before args s = true) : ∃ g : GT, KK g s := by
  obtain ⟨c0, i0, k0⟩ := kn_X0 hts
  obtain ⟨c1, i1, k1⟩ := kn_X1 hts
  obtain ⟨c2, i2, k2⟩ := kn_X2 hts
  obtain ⟨c3, i3, k3⟩ := kn_X3 hts
  obtain ⟨c4, i4, k4⟩ := kn_X4 hts
  obtain ⟨aI, rI, fI⟩ := arr_k (ty := .int) (fun _ h => by cases h) (hts _ ac_I)
  obtain ⟨aZ, rZ, fZ⟩ := arr_k (ty := .boolean) (fun _ h => by cases h) (hts _ ac_Z)
  obtain ⟨aL, rL, fL⟩ := arr_k (ty := .long) (fun _ h => by cases h) (hts _ ac_L)
  have h0 := hts _ (List.mem_of_getElem? t_ao0)
  have h2 := hts _ (List.mem_of_getElem? t_ao2)
  obtain ⟨aC, rC, fC⟩ := arr_o h0
  obtain ⟨aP, rP, fP⟩ := arr_o h2
  refine ⟨((fun k => if k = 0 then c0 else if k = 1 then c1 else if k = 2 then c2 else if k = 3 then c3 else c4, fun k => if k = 0 then i0 else if k = 1 then i1 else if k = 2 then i2 else if k = 3 then i3 else i4), (aI, aZ, aL, aC, aP)), ⟨fun k q hq => ?_, fun k q hq => ?_⟩, fun i w hi hk => ?_, fun i own k tx hi => ?_, fun ty hty => ?_, va_AO.of h0, va_AO.of h2, notcast hgv⟩
  · match k, hq with
    | 0, hq => cases hq; exact k0
    | 1, hq => cases hq; exact k1
    | 2, hq => cases hq; exact k2
    | 3, hq => cases hq; exact k3
    | 4, hq => cases hq; exact k4
    | k + 5, hq => simp [vwCl] at hq
  · match k, hq with
    | 0, hq => cases hq; exact ⟨rI, fI⟩
    | 1, hq => cases hq; exact ⟨rZ, fZ⟩
    | 2, hq => cases hq; exact ⟨rL, fL⟩
    | 3, hq => cases hq; exact ⟨rC, fC⟩
    | 4, hq => cases hq; exact ⟨rP, fP⟩
    | k + 5, hq => simp [tys] at hq
  · have h1 : w.onTables = true := by
      simp only [kw, Bool.and_eq_true] at hk
      exact hk.1
    exact va_Nw.of h1 (hts w (List.mem_of_getElem? hi))
  · have hw := hts _ (List.mem_of_getElem? hi)
    have hcur : ∃ cur, s.vm.findClass own = some cur := by
      have h1 := hw
      simp only [Cond.before, Cond.holds, Cond.value] at h1
      cases hc : s.vm.findClass own with
      | none => simp [hc] at h1
      | some cur => exact ⟨cur, rfl⟩
    obtain ⟨cur, hcur⟩ := hcur
    obtain ⟨-, -, -, a, -, -, -, -, -, hev⟩ := Cond.stringRef_spec hcur hw
    exact ⟨a, vk_R.of hw hev⟩
  · have := hts _ hty
    simp only [Cond.before, Cond.holds, Cond.value] at this ⊢
    exact this
theorem ZZ_at {s : State} {args : Array Value} (hts : ∀ w ∈ lw_tbl, w.before args s = true) (hgv : (Jvm.Cond.and given_1 narrow_1).before args s = true) : ZZ s.heap.size s s.heap := by
  have hs := flat_of_before _ hgv
  have hini := hts _ (List.mem_of_getElem? t_37)
  exact ⟨vx_Zqof (hts _ (List.mem_of_getElem? t_ls0)) hini (hs _ (by decide +kernel)) (fun a h => Nat.not_le_of_lt h), vx_Zqof (hts _ (List.mem_of_getElem? t_ls1)) hini (hs _ (by decide +kernel)) (fun a h => Nat.not_le_of_lt h)⟩
def s00 : St := fun _ _ _ => 0
def fz : Int → Int := fun i => if i = -1 then 1 else 0
def sI : St := nwS (nwS (nwS (nwS s00 2 fz) 1 fz) 0 fz) 3 fz
theorem sI_z {a b : Nat} {i : Int} (h : ¬ (b = 0 ∧ i = -1)) : sI a b i = 0 := by
  unfold sI nwS fz s00
  repeat' split
  all_goals first | rfl | (exfalso; omega)
theorem sI_1 {a : Nat} (h : a < 4) : sI a 0 (-1) = 1 := by
  unfold sI nwS fz
  repeat' split
  all_goals first | rfl | (exfalso; omega)
theorem Inv_0 : Inv sI := by
  have z : ∀ (a b : Nat) (i : Int), ¬ (b = 0 ∧ i = -1) → sI a b i = 0 := fun a b i h => sI_z h
  have z0 : ∀ (b : Nat) (i : Int), b ≠ 0 ∨ i ≠ -1 → sI 0 b i = 0 := fun b i h => sI_z (by omega)
  have e0 := z 0 0 0 (by omega)
  have e2 := z 0 0 2 (by omega)
  have e8 := z 0 0 8 (by omega)
  have e14 := z 0 0 14 (by omega)
  refine ⟨⟨sI_1 (by decide), by rw [e0]; decide, by rw [e2]; decide, by rw [e8]; decide, by rw [e14]; decide, fun x _ _ => ?_, fun x _ _ => ?_, fun x h0 h1 => ?_, fun x _ _ => ?_⟩, ⟨sI_1 (by decide), sI_1 (by decide), sI_1 (by decide)⟩, ⟨by rw [e0]; exact z _ _ _ (by omega), fun j _ _ => ?_⟩, ⟨by rw [e2]; exact z _ _ _ (by omega), fun j => ?_, fun j h0 h1 => ?_, fun k _ _ => ?_, fun j _ _ => ⟨z _ _ _ (by omega), fun k _ _ => z _ _ _ (by omega)⟩⟩, ⟨by rw [e8]; exact z _ _ _ (by omega), fun j _ _ => ?_⟩, ⟨by rw [e14]; exact z _ _ _ (by omega), fun j => ?_, fun x q => ?_, fun x _ _ => ⟨z _ _ _ (by omega), z _ _ _ (by omega), fun w _ _ => z _ _ _ (by omega), fun k _ _ => z _ _ _ (by omega)⟩, fun j _ _ => ?_⟩⟩
  · rw [z 0 4 x (by omega), z 0 5 x (by omega)]; decide
  · rw [z 0 16 x (by omega), z 0 17 x (by omega), z 0 18 x (by omega), z 0 21 x (by omega)]; decide
  · rw [e14] at h1; omega
  · rw [z 0 20 x (by omega)]; decide
  · rw [z 1 1 j (by omega), z 0 2 j (by omega)]; decide
  · rw [z 1 3 _ (by omega), e2]; omega
  · rw [e2] at h1; omega
  · rw [z 0 8 k (by omega)]; decide
  · rw [z 2 2 j (by omega), z 2 3 j (by omega), z 2 4 j (by omega), z 2 5 j (by omega), z 2 6 j (by omega), z 0 10 j (by omega), z 0 11 j (by omega), z 0 12 j (by omega), z 0 13 j (by omega), z 0 14 j (by omega)]; exact ⟨rfl, rfl, rfl, rfl, rfl, by decide, by decide, by decide, by decide, fun _ => ⟨rfl, rfl⟩⟩
  · rw [z 1 6 _ (by omega), e14]; omega
  · have q1 := q.1
    have q2 := q.2.1
    rw [e14] at q2
    omega
  · rw [z 0 23 j (by omega)]; decide
set_option maxHeartbeats 4000000 in
set_option maxRecDepth 100000 in
/-- YOUR PART: from the entry, for every script of at most 2560 ints, the law comes to its end with true -/
theorem whole_start {p : Program} {e : Env} {s : State} {m : MethodId} {below : List Frame} {meth : Method} {c : Code} (l : Launch) (hflags : l.flags = flags0) {b L : Nat} {xs : Nat → Int32} (hL : L ≤ 2560) (C0 : lw_At p s m meth c b L xs) : W p l e room_1 s m #[Value.ref b] below meth c s.heap [] 0 0 (lw_Z below #[Value.ref b] s) (entryFrame m ([Value.ref b] : List Value).toArray 7) := by
  obtain ⟨hx, hb, hr, hml, hown, hts, hX, hbl, hlocks, hgv⟩ := C0
  have hfl : l.stackTraces = false := by
    unfold Launch.stackTraces
    rw [hflags]
    decide +kernel
  obtain ⟨g, hK⟩ := KK_at hts hgv
  have hZ := ZZ_at hts hgv
  have hb : c.code = cL_law := hb
  have hown : s.vm.findClass RL = some m.cls := hown
  have hl := lv_entry ([.ref b]) (n := 7) (Nat.le_of_ble_eq_true rfl)
  rw [lg_entry_eq]
  generalize (lg_sl ([.ref b]) ++ List.replicate (7 - (lg_sl ([.ref b])).length) Slot.unset).toArray = ls at hl ⊢
  have hl : lv_has ls 7 [(0, .ref b)] := hl
  have hS : va_S (fun q => s.heap.size ≤ q) s.heap s.heap [] := va_S.rf
  have hdd : ∀ o : Nat, s00 o 0 (-1) ≠ 1 := fun o h => by unfold s00 at h; exact absurd h (by decide)
  have hP0 : pic g s.heap.size (fun _ _ => 0) s00 s.heap := ⟨fun o r h1 => absurd h1 (hdd o), fun o r o' r' h1 => absurd h1 (hdd o), Nat.le_refl _, fun _ _ _ => rng_0⟩
  have hW := hP0.piw
  refine w_newO (fs := [.null, .int (i32 0), .null, .int (i32 0), .null, .null, .int (i32 0), .null]) hx hb hown hK hW hS (ci := 3) rfl (lay_X3 hK) tyX3 tyX3_ok t_46 t_47 t_34 (fun j hj => by rcases (show j = 0 ∨ j = 1 ∨ j = 2 ∨ j = 3 ∨ j = 4 ∨ j = 5 ∨ j = 6 ∨ j = 7 by omega) with rfl | rfl | rfl | rfl | rfl | rfl | rfl | rfl <;> rfl) (Nat.le_of_ble_eq_true rfl) (Nat.le_of_ble_eq_true rfl) dL_law_0 (fun q0 H hqq0 hW hS => ?_)
  have hW : piw g s.heap.size (fun _ _ => 0) s00 [(q0, .inr (3, [.null, .int (i32 0), .null, .int (i32 0), .null, .null, .int (i32 0), .null]))] H := hW
  refine lv_dup hx hb dL_law_3 rfl ?_
  refine q_callI (As := []) (rest := [.ref q0]) hx hb hml hl.1 hown hK hZ hW hS (c_X3_init l g s.heap.size (fun _ _ => 0) s00 q0 hdd) rfl t_49 (q_callB hK 48 34 50 t_48 t_34 t_50 f_yX3_init ⟨Nat.le_of_ble_eq_true rfl, Nat.le_of_ble_eq_true rfl⟩) rfl rfl (Nat.le_of_ble_eq_true rfl) dL_law_4 ⟨Nat.le_of_ble_eq_true rfl, Nat.le_of_ble_eq_true rfl⟩ (fun r9 ad2 S2 H locs h9 hP hS => ?_)
  obtain ⟨rfl, A2, A1, hA1, had2, hS2⟩ := h9
  have eq0 : q0 = ad2 1 0 := by rw [had2, adN_o, hA1]
  have hS2 : S2 = nwS (nwS s00 2 fz) 1 fz := hS2
  refine lv_astore_n (lv' := [(1, .ref q0), (0, .ref b)]) hx hb dL_law_7 rfl hl (by decide) rfl (fun ls hl => ?_)
  refine w_newO (fs := [.int (i32 0), .null, .int (i32 0), .null, .null, .null, .null, .null, .int (i32 0), .null, .null, .null, .null, .null, .int (i32 0), .null, .null, .null, .null, .null, .null, .null, .null, .null, .null, .null, .null, .int (i32 0)]) hx hb hown hK hP.piw hS (ci := 4) rfl (lay_X4 hK) tyX4 tyX4_ok t_692 t_693 t_36 (fun j hj => by rcases (show j = 0 ∨ j = 1 ∨ j = 2 ∨ j = 3 ∨ j = 4 ∨ j = 5 ∨ j = 6 ∨ j = 7 ∨ j = 8 ∨ j = 9 ∨ j = 10 ∨ j = 11 ∨ j = 12 ∨ j = 13 ∨ j = 14 ∨ j = 15 ∨ j = 16 ∨ j = 17 ∨ j = 18 ∨ j = 19 ∨ j = 20 ∨ j = 21 ∨ j = 22 ∨ j = 23 ∨ j = 24 ∨ j = 25 ∨ j = 26 ∨ j = 27 by omega) with rfl | rfl | rfl | rfl | rfl | rfl | rfl | rfl | rfl | rfl | rfl | rfl | rfl | rfl | rfl | rfl | rfl | rfl | rfl | rfl | rfl | rfl | rfl | rfl | rfl | rfl | rfl | rfl <;> rfl) (Nat.le_of_ble_eq_true rfl) (Nat.le_of_ble_eq_true rfl) dL_law_8 (fun q8 H hqq8 hW hS => ?_)
  have hW : piw g s.heap.size ad2 S2 [(q8, .inr (4, [.int (i32 0), .null, .int (i32 0), .null, .null, .null, .null, .null, .int (i32 0), .null, .null, .null, .null, .null, .int (i32 0), .null, .null, .null, .null, .null, .null, .null, .null, .null, .null, .null, .null, .int (i32 0)]))] H := hW
  refine lv_dup hx hb dL_law_11 rfl ?_
  have hkc : keepc S2 0 := fun _ => ⟨by decide, fun j _ => by omega, fun j _ => by omega⟩
  refine q_callI (As := []) (rest := [.ref q8]) hx hb hml hl.1 hown hK hZ hW hS (c_X4_init l g s.heap.size ad2 S2 q8 hkc) rfl t_695 (q_callB hK 694 36 696 t_694 t_36 t_696 f_yX4_init ⟨Nat.le_of_ble_eq_true rfl, Nat.le_of_ble_eq_true rfl⟩) rfl rfl (Nat.le_of_ble_eq_true rfl) dL_law_12 ⟨Nat.le_of_ble_eq_true rfl, Nat.le_of_ble_eq_true rfl⟩ (fun r9 ad3 S3 H locs h9 hP hS => ?_)
  obtain ⟨rfl, A0, hA0, had3, hS3⟩ := h9
  have eq8 : q8 = ad3 0 0 := by rw [had3, adN_o, hA0]
  have hS3 : S3 = nwS S2 0 fz := hS3
  refine lv_astore_n (lv' := [(2, .ref q8), (1, .ref q0), (0, .ref b)]) hx hb dL_law_15 rfl hl (by decide) rfl (fun ls hl => ?_)
  refine lv_iconst (v := i32 1) hx hb dL_law_16 rfl ?_
  refine w_newL hx hb hK hP.piw hS (n := i32 1) (N := 1) (by decide) (by decide) (by decide) (Nat.le_of_ble_eq_true rfl) (Nat.le_of_ble_eq_true rfl) ac_L dL_law_17 (fun q17 H hW hS => ?_)
  have hW : piw g s.heap.size ad3 S3 [(q17, arCell g ad3 (fun _ => 0) (2, 1))] H := hW
  have hkc3 : keepc S3 3 := fun _ => ⟨by decide, fun j _ => by omega, fun j _ => by omega⟩
  have hP := pic_add (o := 3) (k := 3) (f := fz) (A := fun _ => q17) (ix := fun _ => 0) (ri := fun _ => 1) hW rfl (Or.inl rfl) (fun i => by unfold fz; split <;> exact ⟨by decide, by decide⟩) hkc3 (fun r hr9 => by rw [ok3 hr9]; rfl) (fun r hr9 => (ok3 hr9).symm)
  have hSI : nwS S3 3 fz = sI := by rw [hS3, hS2]; rfl
  rw [hSI] at hP
  have eq17 : q17 = adN ad3 3 (fun _ => q17) 3 1 := by rw [adN_o]
  have e10 : q0 = adN ad3 3 (fun _ => q17) 1 0 := by rw [adN_n (by decide), had3, adN_n (by decide)]; exact eq0
  have e00 : q8 = adN ad3 3 (fun _ => q17) 0 0 := by rw [adN_n (by decide)]; exact eq8
  generalize adN ad3 3 (fun _ => q17) = ad at hP eq17 e10 e00
  refine lv_astore_n (lv' := [(3, .ref q17), (2, .ref q8), (1, .ref q0), (0, .ref b)]) hx hb dL_law_19 rfl hl (by decide) rfl (fun ls hl => ?_)
  refine lv_iconst (v := i32 0) hx hb dL_law_20 rfl ?_
  refine lv_istore (lv' := [(4, .int (i32 0)), (3, .ref q17), (2, .ref q8), (1, .ref q0), (0, .ref b)]) hx hb dL_law_21 hl (by decide) rfl (fun ls hl => ?_)
  have hl : lv_has ls 7 [(4, .int (i32 0)), (0, .ref b), (1, .ref q0), (2, .ref q8), (3, .ref q17)] := lv_sub hl [0, 4, 3, 2, 1] rfl
  rw [e10, e00, eq17] at hl
  refine W.widen (k := 1000) (n := 100000) (Nat.le_of_ble_eq_true rfl) (Nat.le_of_ble_eq_true rfl) ?_
  refine lc_loop hfl hx hb hml hown hK hZ hX hbl hL (fun H locs ls hS => ?_) 520 ad sI H locs ls 0 1000 100000 Inv_0 (by decide) (by omega) hP hS hl (by decide)
  refine lv_iconst (v := i32 1) hx hb dL_law_1440 rfl ?_
  refine va_forget hS.2.2 ?_
  exact lw_ret hx hb hr hlocks dL_law_1441

