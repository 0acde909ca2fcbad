/-! THE CLAIM OUT OF ONE WALK OF THE LAW'S BODY. Your part is whole_start (and what it stands on); all else here is the same for every law, but numbers. -/
def R_law : String := "WeftHouseLaw"
def lw_P (b : Addr) (xs : List Int32) (args : Array Value) (s : State) : Prop := args = #[.ref b] ∧ s.IntsAt b xs ∧ xs.length ≤ 2560 ∧ (Jvm.Cond.and given_1 narrow_1).before args s = true
def lw_Q (_ : Array Value) (s : State) (o : Outcome) (t : State) : Prop := o = .returned (some (.int 1)) ∧ Framed s o t [] 601024 7293034
def lw_Z (below : List Frame) (a : Array Value) (s : State) : State → Prop := fun t => ∃ o, t.status = .running ∧ Ended t below o ∧ lw_Q a s o t
/-- the law's own end, with 1 on the stack, nothing written that was there before, its room as the claim has it -/
theorem lw_ret {p : Program} {l : Launch} {e : Env} {s : State} {m : MethodId} {below : List Frame} {meth : Method} {c : Code} {b : Nat} (hx : p.tables.exec = Jvm.exec) (hb : c.code = code) (hr : meth.sig.returnType = ret) (hlocks : meth.locks = false) {pc : Nat} {H : Heap} {ls : Array Slot} (hdg : decode code pc = .ok (.ireturn, 1)) : W p l e room_1 s m #[Value.ref b] below meth c H [] 601024 7293034 (lw_Z below #[Value.ref b] s) (F0 m pc ls [.int 1]) := by
  intro T hT X
  obtain ⟨fs, hret, hrun, hended, hW, hframe⟩ := X.leave (v := some (.int 1)) (hlocks := hlocks) (fun h => by rw [hr] at h; cases h)
  have hmeth' : T.vm.method? m = some meth := X.method'
  refine ⟨T.setFrames fs, ?_, .returned (some (.int 1)), hrun, hended, rfl, ⟨_, rfl⟩, hW, hframe⟩
  jvm_step X.here [X.here.top, hx, hb, hdg, hmeth', hr, ret, narrow_b1]
  (try refine ⟨rfl, ?_⟩); (try refine ⟨rfl, ?_⟩)
  first | (intro acts; rw [hret _ acts rfl rfl rfl]) | rw [hret _ _ rfl rfl rfl]
  exact Steps.refl _
/-- what holds at the law's entry: the machine, the code, the tables' words (any of lw_tbl by 'hts w (by decide +kernel)'), the script of L ints xs at the cell b, what the Statement gives of the start (any of its parts by flat_of_before) -/
def lw_At (p : Program) (s : State) (m : MethodId) (meth : Method) (c : Code) (b L : Nat) (xs : Nat → Int32) : Prop :=
  p.tables.exec = Jvm.exec ∧ c.code = code ∧ meth.sig.returnType = ret ∧ c.maxLocals = 7 ∧ s.vm.findClass R_law = some m.cls ∧ (∀ w ∈ lw_tbl, w.before #[Value.ref b] s = true) ∧ va_X b L xs s s.heap ∧ b < s.heap.size ∧ meth.locks = false ∧ (Jvm.Cond.and given_1 narrow_1).before #[Value.ref b] s = true
set_option maxHeartbeats 4000000 in
set_option maxRecDepth 100000 in
theorem lc_step {p : Program} {l : Launch} {e : Env} {s : State} {m : MethodId} {below : List Frame} {meth : Method} {c : Code} {args : Array Value} {Qm : State → Prop} {g : GT} {b L : Nat} {xs : Nat → Int32} (hfl : l.stackTraces = false) (hx : p.tables.exec = Jvm.exec) (hb : c.code = cL_law) (hml : c.maxLocals = 7) (hown : s.vm.findClass RL = some m.cls) (hK : KK g s) (hZ : ZZ s.heap.size s s.heap) (hX : va_X b L xs s s.heap) (hbl : b < s.heap.size) (hL : L ≤ 2560) {ad : Nat → Nat → Nat} {S : St} {H : Heap} {locs : List Loc} {ls : Array Slot} {i : Int} {cells slots : Nat} (hI : Inv S) (hi : 0 ≤ i ∧ i + 5 ≤ L) (hP : pic g s.heap.size ad S H) (hS : va_S (fun q => s.heap.size ≤ q) s.heap H locs) (hl : lv_has ls 7 [(4, .int (i32 i)), (0, .ref b), (1, .ref (ad 1 0)), (2, .ref (ad 0 0)), (3, .ref (ad 3 1))]) (hc : cells + 20 ≤ 601024 ∧ slots + 1000 ≤ 7293034)
    (kont : ∀ (ad' : Nat → Nat → Nat) (S' : St) (H : Heap) (locs : List Loc) (ls : Array Slot), Inv S' → (∀ x q, x < 4 → ad' x q = ad x q) → pic g s.heap.size ad' S' H → va_S (fun q => s.heap.size ≤ q) s.heap H locs → lv_has ls 7 [(4, .int (i32 i)), (0, .ref b), (1, .ref (ad' 1 0)), (2, .ref (ad' 0 0)), (3, .ref (ad' 3 1))] → W p l e room_1 s m args below meth c H locs (cells + 20) (slots + 1000) Qm (F0 m 1434 ls [])) :
    W p l e room_1 s m args below meth c H locs cells slots Qm (F0 m 32 ls []) := by
  refine lv_aload_n hx hb dL_law_32 rfl (lv_at hl 1 rfl) ?_
  refine lv_iload hx hb dL_law_33 (lv_at hl 0 rfl) ?_
  refine p_sld hx hb hX hbl hL hS (by omega) (by omega) dL_law_35 ?_
  refine lv_bipush (v := i32 31) hx hb dL_law_36 (by decide) ?_
  refine lv_iand hx hb dL_law_38 ?_
  generalize i32 (zs xs i) &&& i32 31 = x9
  by_cases h0 : x9.toInt = 0
  · exact lv_tableIn (off := 97) (tgt := 136) hx hb dL_law_39 (by rw [h0]; decide) (by rw [h0]; decide) (by rw [h0]; rfl) (by decide) (lc_type hfl hx hb hml hown hK hZ hX hbl hL hI hi hP hS hl hc kont)
  by_cases h1 : x9.toInt = 1
  · exact lv_tableIn (off := 155) (tgt := 194) hx hb dL_law_39 (by rw [h1]; decide) (by rw [h1]; decide) (by rw [h1]; rfl) (by decide) (lc_empty hfl hx hb hml hown hK hZ hX hbl hL hI hi hP hS hl hc kont)
  by_cases h2 : x9.toInt = 2
  · exact lv_tableIn (off := 168) (tgt := 207) hx hb dL_law_39 (by rw [h2]; decide) (by rw [h2]; decide) (by rw [h2]; rfl) (by decide) (lc_cartoon hfl hx hb hml hown hK hZ hX hbl hL hI hi hP hS hl hc kont)
  by_cases h3 : x9.toInt = 3
  · exact lv_tableIn (off := 224) (tgt := 263) hx hb dL_law_39 (by rw [h3]; decide) (by rw [h3]; decide) (by rw [h3]; rfl) (by decide) (lc_row hfl hx hb hml hown hK hZ hX hbl hL hI hi hP hS hl hc kont)
  by_cases h4 : x9.toInt = 4
  · exact lv_tableIn (off := 280) (tgt := 319) hx hb dL_law_39 (by rw [h4]; decide) (by rw [h4]; decide) (by rw [h4]; rfl) (by decide) (lc_hatch hfl hx hb hml hown hK hZ hX hbl hL hI hi hP hS hl hc kont)
  by_cases h5 : x9.toInt = 5
  · exact lv_tableIn (off := 340) (tgt := 379) hx hb dL_law_39 (by rw [h5]; decide) (by rw [h5]; decide) (by rw [h5]; rfl) (by decide) (lc_dye hfl hx hb hml hown hK hZ hX hbl hL hI hi hP hS hl hc kont)
  by_cases h6 : x9.toInt = 6
  · exact lv_tableIn (off := 448) (tgt := 487) hx hb dL_law_39 (by rw [h6]; decide) (by rw [h6]; decide) (by rw [h6]; rfl) (by decide) (lc_left hfl hx hb hml hown hK hZ hX hbl hL hI hi hP hS hl hc kont)
  by_cases h7 : x9.toInt = 7
  · exact lv_tableIn (off := 504) (tgt := 543) hx hb dL_law_39 (by rw [h7]; decide) (by rw [h7]; decide) (by rw [h7]; rfl) (by decide) (lc_gold hfl hx hb hml hown hK hZ hX hbl hL hI hi hP hS hl hc kont)
  by_cases h8 : x9.toInt = 8
  · exact lv_tableIn (off := 517) (tgt := 556) hx hb dL_law_39 (by rw [h8]; decide) (by rw [h8]; decide) (by rw [h8]; rfl) (by decide) (lc_loom hfl hx hb hml hown hK hZ hX hbl hL hI hi hP hS hl hc kont)
  by_cases h9 : x9.toInt = 9
  · exact lv_tableIn (off := 613) (tgt := 652) hx hb dL_law_39 (by rw [h9]; decide) (by rw [h9]; decide) (by rw [h9]; rfl) (by decide) (lc_weave hfl hx hb hml hown hK hZ hX hbl hL hI hi hP hS hl hc kont)
  by_cases h10 : x9.toInt = 10
  · exact lv_tableIn (off := 681) (tgt := 720) hx hb dL_law_39 (by rw [h10]; decide) (by rw [h10]; decide) (by rw [h10]; rfl) (by decide) (lc_pieceIs hfl hx hb hml hown hK hZ hX hbl hL hI hi hP hS hl hc kont)
  by_cases h11 : x9.toInt = 11
  · exact lv_tableIn (off := 749) (tgt := 788) hx hb dL_law_39 (by rw [h11]; decide) (by rw [h11]; decide) (by rw [h11]; rfl) (by decide) (lc_cell hfl hx hb hml hown hK hZ hX hbl hL hI hi hP hS hl hc kont)
  by_cases h12 : x9.toInt = 12
  · exact lv_tableIn (off := 841) (tgt := 880) hx hb dL_law_39 (by rw [h12]; decide) (by rw [h12]; decide) (by rw [h12]; rfl) (by decide) (lc_sew hfl hx hb hml hown hK hZ hX hbl hL hI hi hP hS hl hc kont)
  by_cases h13 : x9.toInt = 13
  · exact lv_tableIn (off := 916) (tgt := 955) hx hb dL_law_39 (by rw [h13]; decide) (by rw [h13]; decide) (by rw [h13]; rfl) (by decide) (lc_light hfl hx hb hml hown hK hZ hX hbl hL hI hi hP hS hl hc kont)
  by_cases h14 : x9.toInt = 14
  · exact lv_tableIn (off := 984) (tgt := 1023) hx hb dL_law_39 (by rw [h14]; decide) (by rw [h14]; decide) (by rw [h14]; rfl) (by decide) (lc_wash hfl hx hb hml hown hK hZ hX hbl hL hI hi hP hS hl hc kont)
  by_cases h15 : x9.toInt = 15
  · exact lv_tableIn (off := 1040) (tgt := 1079) hx hb dL_law_39 (by rw [h15]; decide) (by rw [h15]; decide) (by rw [h15]; rfl) (by decide) (lc_cut hfl hx hb hml hown hK hZ hX hbl hL hI hi hP hS hl hc kont)
  by_cases h16 : x9.toInt = 16
  · exact lv_tableIn (off := 1108) (tgt := 1147) hx hb dL_law_39 (by rw [h16]; decide) (by rw [h16]; decide) (by rw [h16]; rfl) (by decide) (lc_match hfl hx hb hml hown hK hZ hX hbl hL hI hi hP hS hl hc kont)
  by_cases h17 : x9.toInt = 17
  · exact lv_tableIn (off := 1176) (tgt := 1215) hx hb dL_law_39 (by rw [h17]; decide) (by rw [h17]; decide) (by rw [h17]; rfl) (by decide) (lc_join hfl hx hb hml hown hK hZ hX hbl hL hI hi hP hS hl hc kont)
  by_cases h18 : x9.toInt = 18
  · exact lv_tableIn (off := 1251) (tgt := 1290) hx hb dL_law_39 (by rw [h18]; decide) (by rw [h18]; decide) (by rw [h18]; rfl) (by decide) (lc_isTrue hfl hx hb hml hown hK hZ hX hbl hL hI hi hP hS hl hc kont)
  by_cases h19 : x9.toInt = 19
  · exact lv_tableIn (off := 1314) (tgt := 1353) hx hb dL_law_39 (by rw [h19]; decide) (by rw [h19]; decide) (by rw [h19]; rfl) (by decide) (lc_likeness hfl hx hb hml hown hK hZ hX hbl hL hI hi hP hS hl hc kont)
  by_cases h20 : x9.toInt = 20
  · exact lv_tableIn (off := 1382) (tgt := 1421) hx hb dL_law_39 (by rw [h20]; decide) (by rw [h20]; decide) (by rw [h20]; rfl) (by decide) (lc_balances hfl hx hb hml hown hK hZ hX hbl hL hI hi hP hS hl hc kont)
  refine lv_tableOut (tgt := 1434) hx hb dL_law_39 (by omega) (by decide) ?_
  refine W.widen (k := cells + 20) (n := slots + 1000) (by omega) (by omega) ?_
  exact kont ad S H locs ls hI (fun _ _ _ => rfl) hP hS hl
set_option maxHeartbeats 4000000 in
set_option maxRecDepth 100000 in
theorem lc_loop {p : Program} {l : Launch} {e : Env} {s : State} {m : MethodId} {below : List Frame} {meth : Method} {c : Code} {args : Array Value} {Qm : State → Prop} {g : GT} {b L : Nat} {xs : Nat → Int32} (hfl : l.stackTraces = false) (hx : p.tables.exec = Jvm.exec) (hb : c.code = cL_law) (hml : c.maxLocals = 7) (hown : s.vm.findClass RL = some m.cls) (hK : KK g s) (hZ : ZZ s.heap.size s s.heap) (hX : va_X b L xs s s.heap) (hbl : b < s.heap.size) (hL : L ≤ 2560) (kend : ∀ (H : Heap) (locs : List Loc) (ls : Array Slot), va_S (fun q => s.heap.size ≤ q) s.heap H locs → W p l e room_1 s m args below meth c H locs 601024 7293034 Qm (F0 m 1440 ls [])) :
    ∀ (k : Nat) (ad : Nat → Nat → Nat) (S : St) (H : Heap) (locs : List Loc) (ls : Array Slot) (i : Int) (cells slots : Nat), Inv S → 0 ≤ i ∧ i ≤ 2560 → (L : Int) - i < 5 * k → pic g s.heap.size ad S H → va_S (fun q => s.heap.size ≤ q) s.heap H locs → lv_has ls 7 [(4, .int (i32 i)), (0, .ref b), (1, .ref (ad 1 0)), (2, .ref (ad 0 0)), (3, .ref (ad 3 1))] → cells + 20 * k ≤ 601024 ∧ slots + 1000 * k ≤ 7293034 → W p l e room_1 s m args below meth c H locs cells slots Qm (F0 m 23 ls []) := by
  intro k
  induction k with
  | zero =>
    intro ad S H locs ls i cells slots hI hi hk hP hS hl hc
    refine lv_iload hx hb dL_law_23 (lv_at hl 0 rfl) ?_
    refine lv_aload_n hx hb dL_law_25 rfl (lv_at hl 1 rfl) ?_
    refine va_slen hx hb hX hbl (A := fun q => s.heap.size ≤ q) (Nat.not_le_of_lt hbl) hS dL_law_26 ?_
    rw [show Int32.ofNat L = i32 L from i32_nI L]
    refine lv_iconst (v := i32 5) hx hb dL_law_27 rfl ?_
    refine q_isub hx hb dL_law_28 ?_
    refine q_icmp_gt (tgt := 1440) hx hb ⟨by omega, by omega⟩ ⟨by omega, by omega⟩ dL_law_29 (by decide) (fun h9 => ?_) (fun h9 => ?_)
    · exact W.widen (by omega) (by omega) (kend H locs ls hS)
    · omega
  | succ k ih =>
    intro ad S H locs ls i cells slots hI hi hk hP hS hl hc
    refine lv_iload hx hb dL_law_23 (lv_at hl 0 rfl) ?_
    refine lv_aload_n hx hb dL_law_25 rfl (lv_at hl 1 rfl) ?_
    refine va_slen hx hb hX hbl (A := fun q => s.heap.size ≤ q) (Nat.not_le_of_lt hbl) hS dL_law_26 ?_
    rw [show Int32.ofNat L = i32 L from i32_nI L]
    refine lv_iconst (v := i32 5) hx hb dL_law_27 rfl ?_
    refine q_isub hx hb dL_law_28 ?_
    refine q_icmp_gt (tgt := 1440) hx hb ⟨by omega, by omega⟩ ⟨by omega, by omega⟩ dL_law_29 (by decide) (fun h9 => ?_) (fun h9 => ?_)
    · exact W.widen (by omega) (by omega) (kend H locs ls hS)
    · refine lc_step hfl hx hb hml hown hK hZ hX hbl hL hI (by omega) hP hS hl (by omega) (fun ad' S' H locs ls hI hek hP hS hl => ?_)
      refine lv_iinc (v := i32 (i + 5)) (lv' := [(4, .int (i32 (i + 5))), (0, .ref b), (1, .ref (ad' 1 0)), (2, .ref (ad' 0 0)), (3, .ref (ad' 3 1))]) hx hb dL_law_1434 hl (k := 0) rfl (i32_add _ _) (by decide) rfl (fun ls hl => ?_)
      refine lv_goto (tgt := 23) hx hb dL_law_1437 (by decide) ?_
      exact ih ad' S' H locs ls (i + 5) (cells + 20) (slots + 1000) hI (by omega) (by omega) hP hS hl (by omega)
