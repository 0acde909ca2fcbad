set_option maxHeartbeats 4000000 in
set_option maxRecDepth 100000 in
theorem lc_type {p : Program} {l : Launch} {e : Env} {s : State} {m : MethodId} {below : List Frame} {meth : Method} {c : Code} {args : Array Value} {Qm : State → Prop} {g : GT} {b L : Nat} {xs : Nat → Int32} (hfl : l.stackTraces = false) (hx : p.tables.exec = Jvm.exec) (hb : c.code = cL_law) (hml : c.maxLocals = 7) (hown : s.vm.findClass RL = some m.cls) (hK : KK g s) (hZ : ZZ s.heap.size s s.heap) (hX : va_X b L xs s s.heap) (hbl : b < s.heap.size) (hL : L ≤ 2560) {ad : Nat → Nat → Nat} {S : St} {H : Heap} {locs : List Loc} {ls : Array Slot} {i : Int} {cells slots : Nat} (hI : Inv S) (hi : 0 ≤ i ∧ i + 5 ≤ L) (hP : pic g s.heap.size ad S H) (hS : va_S (fun q => s.heap.size ≤ q) s.heap H locs) (hl : lv_has ls 7 [(4, .int (i32 i)), (0, .ref b), (1, .ref (ad 1 0)), (2, .ref (ad 0 0)), (3, .ref (ad 3 1))]) (hc : cells + 20 ≤ 601024 ∧ slots + 1000 ≤ 7293034)
    (kont : ∀ (ad' : Nat → Nat → Nat) (S' : St) (H : Heap) (locs : List Loc) (ls : Array Slot), Inv S' → (∀ x q, x < 4 → ad' x q = ad x q) → pic g s.heap.size ad' S' H → va_S (fun q => s.heap.size ≤ q) s.heap H locs → lv_has ls 7 [(4, .int (i32 i)), (0, .ref b), (1, .ref (ad' 1 0)), (2, .ref (ad' 0 0)), (3, .ref (ad' 3 1))] → W p l e room_1 s m args below meth c H locs (cells + 20) (slots + 1000) Qm (F0 m 1434 ls [])) :
    W p l e room_1 s m args below meth c H locs cells slots Qm (F0 m 136 ls []) := by
  refine lv_aload_n hx hb dL_law_136 rfl (lv_at hl 2 rfl) ?_
  refine lv_aload_n hx hb dL_law_137 rfl (lv_at hl 1 rfl) ?_
  refine lv_iload hx hb dL_law_138 (lv_at hl 0 rfl) ?_
  refine lv_iconst (v := i32 1) hx hb dL_law_140 rfl ?_
  refine q_iadd hx hb dL_law_141 ?_
  refine p_sld hx hb hX hbl hL hS (by omega) (by omega) dL_law_142 ?_
  refine lv_i2c hx hb dL_law_143 (chz_i _) ?_
  refine lv_aload_n hx hb dL_law_144 rfl (lv_at hl 4 rfl) ?_
  refine q_callH (As := [.ref (ad 1 0), .int (i32 (chz (zs xs (i + 1)))), .ref (ad 3 1)]) (rest := []) hx hb hml hl.1 hown hK hZ hP hS (c_L_type l g s.heap.size ad S (chz (zs xs (i + 1))) hfl hI.wc (chz_r _) hI.a3) t_152 t_33 t_154 t_153 f_yL_type ⟨Nat.le_of_ble_eq_true rfl, Nat.le_of_ble_eq_true rfl⟩ rfl rfl (Nat.le_of_ble_eq_true rfl) dL_law_145 ⟨by show cells + 1 ≤ 601024; omega, by show slots + 6 ≤ 7293034; omega⟩ (fun r1 ad1 S1 H locs h1 hP hS => ?_)
  obtain ⟨hr1, ek1⟩ := lhP_k h1
  have e0 := lhP_0 h1 zk_type.1
  have a3 := (lhP_3 h1 zk_type.2).trans hI.a3
  subst hr1
  have hl : lv_has ls 7 [(4, .int (i32 i)), (0, .ref b), (1, .ref (ad1 1 0)), (2, .ref (ad1 0 0)), (3, .ref (ad1 3 1))] := by
    have t9 := hl
    rw [← ek1 1 0 (by decide), ← ek1 0 0 (by decide), ← ek1 3 1 (by decide)] at t9
    exact t9
  have al0 : S1 0 0 (-1) = 1 := by rw [e0]; exact hI.m.al
  refine lv_istore (lv' := [(5, .int (i32 (thr (sg (chz (zs xs (i + 1))) ≠ -1) (S 1 0 1 < 12) (True)))), (4, .int (i32 i)), (0, .ref b), (1, .ref (ad1 1 0)), (2, .ref (ad1 0 0)), (3, .ref (ad1 3 1))]) hx hb dL_law_148 hl (by decide) rfl (fun ls hl => ?_)
  refine lv_aload_n hx hb dL_law_150 rfl (lv_at hl 4 rfl) ?_
  refine lv_aload_n hx hb dL_law_151 rfl (lv_at hl 2 rfl) ?_
  refine lv_iload hx hb dL_law_152 (lv_at hl 1 rfl) ?_
  refine lv_iconst (v := i32 1) hx hb dL_law_154 rfl ?_
  refine q_iadd hx hb dL_law_155 ?_
  refine p_sld hx hb hX hbl hL hS (by omega) (by omega) dL_law_156 ?_
  refine lv_i2c hx hb dL_law_157 (chz_i _) ?_
  refine q_callV (k := 0) (As := [.int (i32 (chz (zs xs (i + 1))))]) (rest := []) hx hb hml hl.1 hown hK hZ hP hS al0 rfl rfl rfl (c_X4_type l g s.heap.size ad1 S1 (chz (zs xs (i + 1))) (wM_e e0 hI.m) (chz_r _)) t_788 t_789 (q_callB hK 787 36 790 t_787 t_36 t_790 f_yX4_type ⟨Nat.le_of_ble_eq_true rfl, Nat.le_of_ble_eq_true rfl⟩) rfl rfl (Nat.le_of_ble_eq_true rfl) dL_law_158 ⟨by show cells + 1 + 0 ≤ 601024; omega, by show slots + 6 + 0 ≤ 7293034; omega⟩ (fun r2 ad2 S2 H locs h2 hP hS => ?_)
  have hG := sim_type hI (chz_r _) h1 h2
  obtain ⟨⟨b9, hr2, hcmp⟩, hth, hI2, ek2⟩ := hG
  subst hr2
  have ek : ∀ x q, x < 4 → ad1 x q = ad2 x q := fun x q h => (ek1 x q h).trans (ek2 x q h).symm
  have hl : lv_has ls 7 [(5, .int (i32 (thr (sg (chz (zs xs (i + 1))) ≠ -1) (S 1 0 1 < 12) (True)))), (4, .int (i32 i)), (0, .ref b), (1, .ref (ad2 1 0)), (2, .ref (ad2 0 0)), (3, .ref (ad2 3 1))] := by
    have t9 := hl
    rw [ek 1 0 (by decide), ek 0 0 (by decide), ek 3 1 (by decide)] at t9
    exact t9
  refine lv_istore (lv' := [(6, .int (i32 b9)), (5, .int (i32 (thr (sg (chz (zs xs (i + 1))) ≠ -1) (S 1 0 1 < 12) (True)))), (4, .int (i32 i)), (0, .ref b), (1, .ref (ad2 1 0)), (2, .ref (ad2 0 0)), (3, .ref (ad2 3 1))]) hx hb dL_law_161 hl (by decide) rfl (fun ls hl => ?_)
  refine lv_aload_n hx hb dL_law_163 rfl (lv_at hl 5 rfl) ?_
  refine q_callV (k := 0) (As := []) (rest := []) hx hb hml hl.1 hown hK hZ hP hS hI2.m.al rfl rfl rfl (c_X4_thrown l g s.heap.size ad2 S2 hI2.m.al) t_784 t_785 (q_callB hK 783 36 786 t_783 t_36 t_786 f_yX4_thrown ⟨Nat.le_of_ble_eq_true rfl, Nat.le_of_ble_eq_true rfl⟩) rfl rfl (Nat.le_of_ble_eq_true rfl) dL_law_164 ⟨by show cells + 1 + 0 + 0 ≤ 601024; omega, by show slots + 6 + 0 + 0 ≤ 7293034; omega⟩ (q_an (fun H locs hP hS => ?_))
  refine lv_iload hx hb dL_law_167 (lv_at hl 1 rfl) ?_
  refine q_icmp_eq (tgt := 174) hx hb (hP.rg 0 0 27) (thr_rng _ _ _) dL_law_169 (by decide) (fun _ => ?_) (fun h => absurd hth h)
  refine lv_iload hx hb dL_law_174 (lv_at hl 1 rfl) ?_
  refine q_if_ne (tgt := 191) hx hb (thr_rng _ _ _) dL_law_176 (by decide) (fun hk9 => ?_) (fun hk9 => ?_)
  · refine lv_goto (tgt := 1434) hx hb dL_law_191 (by decide) ?_
    refine W.widen (k := cells + 20) (n := slots + 1000) (by show cells + 1 + 0 + 0 ≤ cells + 20; omega) (by show slots + 6 + 0 + 0 ≤ slots + 1000; omega) ?_
    exact kont ad2 _ H locs ls hI2 ek2 hP hS (lv_sub hl [2, 3, 4, 5, 6] rfl)
  · refine lv_aload_n hx hb dL_law_179 rfl (lv_at hl 6 rfl) ?_
    refine lv_iconst (v := i32 0) hx hb dL_law_180 rfl ?_
    refine p_lald (o := 3) (r := 1) (k := 3) (n := 1) (z := 0) hx hb hK hP hI2.a3 rfl rfl (by decide) (by decide) (by decide) (by decide) dL_law_181 ?_
    refine lv_iload hx hb dL_law_182 (lv_at hl 0 rfl) ?_
    refine lv_i2l hx hb dL_law_184 (wr_64 _) ?_
    refine q_lcmp0 hx hb (hcmp hk9) dL_law_185 ?_
    refine q_if_eq (a := 0) (tgt := 191) hx hb rng_0 dL_law_186 (by decide) (fun _ => ?_) (fun h => absurd rfl h)
    refine lv_goto (tgt := 1434) hx hb dL_law_191 (by decide) ?_
    refine W.widen (k := cells + 20) (n := slots + 1000) (by show cells + 1 + 0 + 0 ≤ cells + 20; omega) (by show slots + 6 + 0 + 0 ≤ slots + 1000; omega) ?_
    exact kont ad2 _ H locs ls hI2 ek2 hP hS (lv_sub hl [2, 3, 4, 5, 6] rfl)

set_option maxHeartbeats 4000000 in
set_option maxRecDepth 100000 in
theorem lc_empty {p : Program} {l : Launch} {e : Env} {s : State} {m : MethodId} {below : List Frame} {meth : Method} {c : Code} {args : Array Value} {Qm : State → Prop} {g : GT} {b L : Nat} {xs : Nat → Int32} (hfl : l.stackTraces = false) (hx : p.tables.exec = Jvm.exec) (hb : c.code = cL_law) (hml : c.maxLocals = 7) (hown : s.vm.findClass RL = some m.cls) (hK : KK g s) (hZ : ZZ s.heap.size s s.heap) (hX : va_X b L xs s s.heap) (hbl : b < s.heap.size) (hL : L ≤ 2560) {ad : Nat → Nat → Nat} {S : St} {H : Heap} {locs : List Loc} {ls : Array Slot} {i : Int} {cells slots : Nat} (hI : Inv S) (hi : 0 ≤ i ∧ i + 5 ≤ L) (hP : pic g s.heap.size ad S H) (hS : va_S (fun q => s.heap.size ≤ q) s.heap H locs) (hl : lv_has ls 7 [(4, .int (i32 i)), (0, .ref b), (1, .ref (ad 1 0)), (2, .ref (ad 0 0)), (3, .ref (ad 3 1))]) (hc : cells + 20 ≤ 601024 ∧ slots + 1000 ≤ 7293034)
    (kont : ∀ (ad' : Nat → Nat → Nat) (S' : St) (H : Heap) (locs : List Loc) (ls : Array Slot), Inv S' → (∀ x q, x < 4 → ad' x q = ad x q) → pic g s.heap.size ad' S' H → va_S (fun q => s.heap.size ≤ q) s.heap H locs → lv_has ls 7 [(4, .int (i32 i)), (0, .ref b), (1, .ref (ad' 1 0)), (2, .ref (ad' 0 0)), (3, .ref (ad' 3 1))] → W p l e room_1 s m args below meth c H locs (cells + 20) (slots + 1000) Qm (F0 m 1434 ls [])) :
    W p l e room_1 s m args below meth c H locs cells slots Qm (F0 m 194 ls []) := by
  refine lv_aload_n hx hb dL_law_194 rfl (lv_at hl 2 rfl) ?_
  refine q_callV (k := 1) (As := []) (rest := []) hx hb hml hl.1 hown hK hZ hP hS hI.a1 rfl rfl rfl (c_X3_empty l g s.heap.size ad S hI.wc) t_111 t_112 (q_callB hK 110 34 113 t_110 t_34 t_113 f_yX3_empty ⟨Nat.le_of_ble_eq_true rfl, Nat.le_of_ble_eq_true rfl⟩) rfl rfl (Nat.le_of_ble_eq_true rfl) dL_law_195 ⟨by show cells + 0 ≤ 601024; omega, by show slots + 0 ≤ 7293034; omega⟩ (q_an (fun H locs hP hS => ?_))
  have e0 : (st S 1 0 1 0) 0 = S 0 := by funext b i; rw [st_at, if_neg (by omega)]
  refine lv_aload_n hx hb dL_law_198 rfl (lv_at hl 3 rfl) ?_
  refine q_callV (k := 0) (As := []) (rest := [.int (i32 (S 1 0 1))]) hx hb hml hl.1 hown hK hZ hP hS (by rw [e0]; exact hI.m.al) rfl rfl rfl (c_X4_empty l g s.heap.size ad (st S 1 0 1 0) (wM_e e0 hI.m)) t_799 t_800 (q_callB hK 798 36 801 t_798 t_36 t_801 f_yX4_empty ⟨Nat.le_of_ble_eq_true rfl, Nat.le_of_ble_eq_true rfl⟩) rfl rfl (Nat.le_of_ble_eq_true rfl) dL_law_199 ⟨by show cells + 0 + 0 ≤ 601024; omega, by show slots + 0 + 0 ≤ 7293034; omega⟩ (q_an (fun H locs hP hS => ?_))
  obtain ⟨hq, hI2⟩ := sim_empty hI
  rw [show st S 1 0 1 0 0 0 0 = S 0 0 0 from by rw [e0]]
  refine q_icmp_eq (tgt := 1434) hx hb (hq ▸ Inv.rl hI) (Inv.rl hI) dL_law_202 (by decide) (fun _ => ?_) (fun h => absurd hq h)
  refine W.widen (k := cells + 20) (n := slots + 1000) (by show cells + 0 + 0 ≤ cells + 20; omega) (by show slots + 0 + 0 ≤ slots + 1000; omega) ?_
  exact kont ad _ H locs ls hI2 (fun _ _ _ => rfl) hP hS (lv_sub hl [0, 1, 2, 3, 4] rfl)

set_option maxHeartbeats 4000000 in
set_option maxRecDepth 100000 in
theorem lc_cartoon {p : Program} {l : Launch} {e : Env} {s : State} {m : MethodId} {below : List Frame} {meth : Method} {c : Code} {args : Array Value} {Qm : State → Prop} {g : GT} {b L : Nat} {xs : Nat → Int32} (hfl : l.stackTraces = false) (hx : p.tables.exec = Jvm.exec) (hb : c.code = cL_law) (hml : c.maxLocals = 7) (hown : s.vm.findClass RL = some m.cls) (hK : KK g s) (hZ : ZZ s.heap.size s s.heap) (hX : va_X b L xs s s.heap) (hbl : b < s.heap.size) (hL : L ≤ 2560) {ad : Nat → Nat → Nat} {S : St} {H : Heap} {locs : List Loc} {ls : Array Slot} {i : Int} {cells slots : Nat} (hI : Inv S) (hi : 0 ≤ i ∧ i + 5 ≤ L) (hP : pic g s.heap.size ad S H) (hS : va_S (fun q => s.heap.size ≤ q) s.heap H locs) (hl : lv_has ls 7 [(4, .int (i32 i)), (0, .ref b), (1, .ref (ad 1 0)), (2, .ref (ad 0 0)), (3, .ref (ad 3 1))]) (hc : cells + 20 ≤ 601024 ∧ slots + 1000 ≤ 7293034)
    (kont : ∀ (ad' : Nat → Nat → Nat) (S' : St) (H : Heap) (locs : List Loc) (ls : Array Slot), Inv S' → (∀ x q, x < 4 → ad' x q = ad x q) → pic g s.heap.size ad' S' H → va_S (fun q => s.heap.size ≤ q) s.heap H locs → lv_has ls 7 [(4, .int (i32 i)), (0, .ref b), (1, .ref (ad' 1 0)), (2, .ref (ad' 0 0)), (3, .ref (ad' 3 1))] → W p l e room_1 s m args below meth c H locs (cells + 20) (slots + 1000) Qm (F0 m 1434 ls [])) :
    W p l e room_1 s m args below meth c H locs cells slots Qm (F0 m 207 ls []) := by
  refine lv_aload_n hx hb dL_law_207 rfl (lv_at hl 2 rfl) ?_
  refine lv_aload_n hx hb dL_law_208 rfl (lv_at hl 1 rfl) ?_
  refine lv_iload hx hb dL_law_209 (lv_at hl 0 rfl) ?_
  refine lv_iconst (v := i32 1) hx hb dL_law_211 rfl ?_
  refine q_iadd hx hb dL_law_212 ?_
  refine p_sld hx hb hX hbl hL hS (by omega) (by omega) dL_law_213 ?_
  refine lv_aload_n hx hb dL_law_214 rfl (lv_at hl 4 rfl) ?_
  refine q_callH (As := [.ref (ad 1 0), .int (i32 (zs xs (i + 1))), .ref (ad 3 1)]) (rest := []) hx hb hml hl.1 hown hK hZ hP hS (c_L_cartoon l g s.heap.size ad S (zs xs (i + 1)) hfl hI.wc (zs_r _ _) hI.hcf hI.hpf hI.a3) t_249 t_33 t_251 t_250 f_yL_cartoon ⟨Nat.le_of_ble_eq_true rfl, Nat.le_of_ble_eq_true rfl⟩ rfl rfl (Nat.le_of_ble_eq_true rfl) dL_law_215 ⟨by show cells + 2 ≤ 601024; omega, by show slots + 125 ≤ 7293034; omega⟩ (fun r1 ad1 S1 H locs h1 hP hS => ?_)
  obtain ⟨hr1, ek1⟩ := lhP_k h1
  have e0 := lhP_0 h1 zk_cartoon.1
  have a3 := (lhP_3 h1 zk_cartoon.2).trans hI.a3
  subst hr1
  have hl : lv_has ls 7 [(4, .int (i32 i)), (0, .ref b), (1, .ref (ad1 1 0)), (2, .ref (ad1 0 0)), (3, .ref (ad1 3 1))] := by
    have t9 := hl
    rw [← ek1 1 0 (by decide), ← ek1 0 0 (by decide), ← ek1 3 1 (by decide)] at t9
    exact t9
  have al0 : S1 0 0 (-1) = 1 := by rw [e0]; exact hI.m.al
  refine lv_istore (lv' := [(5, .int (i32 (thr (2 ≤ (zs xs (i + 1)) ∧ (zs xs (i + 1)) ≤ 12) (S 1 0 3 < 5) (True)))), (4, .int (i32 i)), (0, .ref b), (1, .ref (ad1 1 0)), (2, .ref (ad1 0 0)), (3, .ref (ad1 3 1))]) hx hb dL_law_218 hl (by decide) rfl (fun ls hl => ?_)
  refine lv_aload_n hx hb dL_law_220 rfl (lv_at hl 4 rfl) ?_
  refine lv_aload_n hx hb dL_law_221 rfl (lv_at hl 2 rfl) ?_
  refine lv_iload hx hb dL_law_222 (lv_at hl 1 rfl) ?_
  refine lv_iconst (v := i32 1) hx hb dL_law_224 rfl ?_
  refine q_iadd hx hb dL_law_225 ?_
  refine p_sld hx hb hX hbl hL hS (by omega) (by omega) dL_law_226 ?_
  refine q_callV (k := 0) (As := [.int (i32 (zs xs (i + 1)))]) (rest := []) hx hb hml hl.1 hown hK hZ hP hS al0 rfl rfl rfl (c_X4_cartoon l g s.heap.size ad1 S1 (zs xs (i + 1)) (wM_e e0 hI.m) (zs_r _ _)) t_803 t_804 (q_callB hK 802 36 805 t_802 t_36 t_805 f_yX4_cartoon ⟨Nat.le_of_ble_eq_true rfl, Nat.le_of_ble_eq_true rfl⟩) rfl rfl (Nat.le_of_ble_eq_true rfl) dL_law_227 ⟨by show cells + 2 + 0 ≤ 601024; omega, by show slots + 125 + 0 ≤ 7293034; omega⟩ (fun r2 ad2 S2 H locs h2 hP hS => ?_)
  have hG := sim_cartoon hI (zs_r _ _) h1 h2
  obtain ⟨⟨b9, hr2, hcmp⟩, hth, hI2, ek2⟩ := hG
  subst hr2
  have ek : ∀ x q, x < 4 → ad1 x q = ad2 x q := fun x q h => (ek1 x q h).trans (ek2 x q h).symm
  have hl : lv_has ls 7 [(5, .int (i32 (thr (2 ≤ (zs xs (i + 1)) ∧ (zs xs (i + 1)) ≤ 12) (S 1 0 3 < 5) (True)))), (4, .int (i32 i)), (0, .ref b), (1, .ref (ad2 1 0)), (2, .ref (ad2 0 0)), (3, .ref (ad2 3 1))] := by
    have t9 := hl
    rw [ek 1 0 (by decide), ek 0 0 (by decide), ek 3 1 (by decide)] at t9
    exact t9
  refine lv_istore (lv' := [(6, .int (i32 b9)), (5, .int (i32 (thr (2 ≤ (zs xs (i + 1)) ∧ (zs xs (i + 1)) ≤ 12) (S 1 0 3 < 5) (True)))), (4, .int (i32 i)), (0, .ref b), (1, .ref (ad2 1 0)), (2, .ref (ad2 0 0)), (3, .ref (ad2 3 1))]) hx hb dL_law_230 hl (by decide) rfl (fun ls hl => ?_)
  refine lv_aload_n hx hb dL_law_232 rfl (lv_at hl 5 rfl) ?_
  refine q_callV (k := 0) (As := []) (rest := []) hx hb hml hl.1 hown hK hZ hP hS hI2.m.al rfl rfl rfl (c_X4_thrown l g s.heap.size ad2 S2 hI2.m.al) t_784 t_785 (q_callB hK 783 36 786 t_783 t_36 t_786 f_yX4_thrown ⟨Nat.le_of_ble_eq_true rfl, Nat.le_of_ble_eq_true rfl⟩) rfl rfl (Nat.le_of_ble_eq_true rfl) dL_law_233 ⟨by show cells + 2 + 0 + 0 ≤ 601024; omega, by show slots + 125 + 0 + 0 ≤ 7293034; omega⟩ (q_an (fun H locs hP hS => ?_))
  refine lv_iload hx hb dL_law_236 (lv_at hl 1 rfl) ?_
  refine q_icmp_eq (tgt := 243) hx hb (hP.rg 0 0 27) (thr_rng _ _ _) dL_law_238 (by decide) (fun _ => ?_) (fun h => absurd hth h)
  refine lv_iload hx hb dL_law_243 (lv_at hl 1 rfl) ?_
  refine q_if_ne (tgt := 260) hx hb (thr_rng _ _ _) dL_law_245 (by decide) (fun hk9 => ?_) (fun hk9 => ?_)
  · refine lv_goto (tgt := 1434) hx hb dL_law_260 (by decide) ?_
    refine W.widen (k := cells + 20) (n := slots + 1000) (by show cells + 2 + 0 + 0 ≤ cells + 20; omega) (by show slots + 125 + 0 + 0 ≤ slots + 1000; omega) ?_
    exact kont ad2 _ H locs ls hI2 ek2 hP hS (lv_sub hl [2, 3, 4, 5, 6] rfl)
  · refine lv_aload_n hx hb dL_law_248 rfl (lv_at hl 6 rfl) ?_
    refine lv_iconst (v := i32 0) hx hb dL_law_249 rfl ?_
    refine p_lald (o := 3) (r := 1) (k := 3) (n := 1) (z := 0) hx hb hK hP hI2.a3 rfl rfl (by decide) (by decide) (by decide) (by decide) dL_law_250 ?_
    refine lv_iload hx hb dL_law_251 (lv_at hl 0 rfl) ?_
    refine lv_i2l hx hb dL_law_253 (wr_64 _) ?_
    refine q_lcmp0 hx hb (hcmp hk9) dL_law_254 ?_
    refine q_if_eq (a := 0) (tgt := 260) hx hb rng_0 dL_law_255 (by decide) (fun _ => ?_) (fun h => absurd rfl h)
    refine lv_goto (tgt := 1434) hx hb dL_law_260 (by decide) ?_
    refine W.widen (k := cells + 20) (n := slots + 1000) (by show cells + 2 + 0 + 0 ≤ cells + 20; omega) (by show slots + 125 + 0 + 0 ≤ slots + 1000; omega) ?_
    exact kont ad2 _ H locs ls hI2 ek2 hP hS (lv_sub hl [2, 3, 4, 5, 6] rfl)

set_option maxHeartbeats 4000000 in
set_option maxRecDepth 100000 in
theorem lc_row {p : Program} {l : Launch} {e : Env} {s : State} {m : MethodId} {below : List Frame} {meth : Method} {c : Code} {args : Array Value} {Qm : State → Prop} {g : GT} {b L : Nat} {xs : Nat → Int32} (hfl : l.stackTraces = false) (hx : p.tables.exec = Jvm.exec) (hb : c.code = cL_law) (hml : c.maxLocals = 7) (hown : s.vm.findClass RL = some m.cls) (hK : KK g s) (hZ : ZZ s.heap.size s s.heap) (hX : va_X b L xs s s.heap) (hbl : b < s.heap.size) (hL : L ≤ 2560) {ad : Nat → Nat → Nat} {S : St} {H : Heap} {locs : List Loc} {ls : Array Slot} {i : Int} {cells slots : Nat} (hI : Inv S) (hi : 0 ≤ i ∧ i + 5 ≤ L) (hP : pic g s.heap.size ad S H) (hS : va_S (fun q => s.heap.size ≤ q) s.heap H locs) (hl : lv_has ls 7 [(4, .int (i32 i)), (0, .ref b), (1, .ref (ad 1 0)), (2, .ref (ad 0 0)), (3, .ref (ad 3 1))]) (hc : cells + 20 ≤ 601024 ∧ slots + 1000 ≤ 7293034)
    (kont : ∀ (ad' : Nat → Nat → Nat) (S' : St) (H : Heap) (locs : List Loc) (ls : Array Slot), Inv S' → (∀ x q, x < 4 → ad' x q = ad x q) → pic g s.heap.size ad' S' H → va_S (fun q => s.heap.size ≤ q) s.heap H locs → lv_has ls 7 [(4, .int (i32 i)), (0, .ref b), (1, .ref (ad' 1 0)), (2, .ref (ad' 0 0)), (3, .ref (ad' 3 1))] → W p l e room_1 s m args below meth c H locs (cells + 20) (slots + 1000) Qm (F0 m 1434 ls [])) :
    W p l e room_1 s m args below meth c H locs cells slots Qm (F0 m 263 ls []) := by
  refine lv_aload_n hx hb dL_law_263 rfl (lv_at hl 2 rfl) ?_
  refine lv_aload_n hx hb dL_law_264 rfl (lv_at hl 1 rfl) ?_
  refine lv_iload hx hb dL_law_265 (lv_at hl 0 rfl) ?_
  refine lv_iconst (v := i32 1) hx hb dL_law_267 rfl ?_
  refine q_iadd hx hb dL_law_268 ?_
  refine p_sld hx hb hX hbl hL hS (by omega) (by omega) dL_law_269 ?_
  refine lv_aload_n hx hb dL_law_270 rfl (lv_at hl 4 rfl) ?_
  refine q_callH (As := [.ref (ad 1 0), .int (i32 (zs xs (i + 1))), .ref (ad 3 1)]) (rest := []) hx hb hml hl.1 hown hK hZ hP hS (c_L_row l g s.heap.size ad S (zs xs (i + 1)) hfl hI.wc (zs_r _ _) hI.a3) t_279 t_33 t_281 t_280 f_yL_row ⟨Nat.le_of_ble_eq_true rfl, Nat.le_of_ble_eq_true rfl⟩ rfl rfl (Nat.le_of_ble_eq_true rfl) dL_law_271 ⟨by show cells + 2 ≤ 601024; omega, by show slots + 12 ≤ 7293034; omega⟩ (fun r1 ad1 S1 H locs h1 hP hS => ?_)
  obtain ⟨hr1, ek1⟩ := lhP_k h1
  have e0 := lhP_0 h1 zk_row.1
  have a3 := (lhP_3 h1 zk_row.2).trans hI.a3
  subst hr1
  have hl : lv_has ls 7 [(4, .int (i32 i)), (0, .ref b), (1, .ref (ad1 1 0)), (2, .ref (ad1 0 0)), (3, .ref (ad1 3 1))] := by
    have t9 := hl
    rw [← ek1 1 0 (by decide), ← ek1 0 0 (by decide), ← ek1 3 1 (by decide)] at t9
    exact t9
  have al0 : S1 0 0 (-1) = 1 := by rw [e0]; exact hI.m.al
  refine lv_istore (lv' := [(5, .int (i32 (thr (ceC S (zs xs (i + 1))) (S 1 0 1 = S (4 + (zs xs (i + 1)).toNat) 0 0 ∧ S (4 + (zs xs (i + 1)).toNat) 0 1 < 10) (True)))), (4, .int (i32 i)), (0, .ref b), (1, .ref (ad1 1 0)), (2, .ref (ad1 0 0)), (3, .ref (ad1 3 1))]) hx hb dL_law_274 hl (by decide) rfl (fun ls hl => ?_)
  refine lv_aload_n hx hb dL_law_276 rfl (lv_at hl 4 rfl) ?_
  refine lv_aload_n hx hb dL_law_277 rfl (lv_at hl 2 rfl) ?_
  refine lv_iload hx hb dL_law_278 (lv_at hl 1 rfl) ?_
  refine lv_iconst (v := i32 1) hx hb dL_law_280 rfl ?_
  refine q_iadd hx hb dL_law_281 ?_
  refine p_sld hx hb hX hbl hL hS (by omega) (by omega) dL_law_282 ?_
  refine q_callV (k := 0) (As := [.int (i32 (zs xs (i + 1)))]) (rest := []) hx hb hml hl.1 hown hK hZ hP hS al0 rfl rfl rfl (c_X4_row l g s.heap.size ad1 S1 (zs xs (i + 1)) (wM_e e0 hI.m) (zs_r _ _)) t_810 t_811 (q_callB hK 809 36 812 t_809 t_36 t_812 f_yX4_row ⟨Nat.le_of_ble_eq_true rfl, Nat.le_of_ble_eq_true rfl⟩) rfl rfl (Nat.le_of_ble_eq_true rfl) dL_law_283 ⟨by show cells + 2 + 0 ≤ 601024; omega, by show slots + 12 + 0 ≤ 7293034; omega⟩ (fun r2 ad2 S2 H locs h2 hP hS => ?_)
  have hG := sim_row hI (zs_r _ _) h1 h2
  obtain ⟨⟨b9, hr2, hcmp⟩, hth, hI2, ek2⟩ := hG
  subst hr2
  have ek : ∀ x q, x < 4 → ad1 x q = ad2 x q := fun x q h => (ek1 x q h).trans (ek2 x q h).symm
  have hl : lv_has ls 7 [(5, .int (i32 (thr (ceC S (zs xs (i + 1))) (S 1 0 1 = S (4 + (zs xs (i + 1)).toNat) 0 0 ∧ S (4 + (zs xs (i + 1)).toNat) 0 1 < 10) (True)))), (4, .int (i32 i)), (0, .ref b), (1, .ref (ad2 1 0)), (2, .ref (ad2 0 0)), (3, .ref (ad2 3 1))] := by
    have t9 := hl
    rw [ek 1 0 (by decide), ek 0 0 (by decide), ek 3 1 (by decide)] at t9
    exact t9
  refine lv_istore (lv' := [(6, .int (i32 b9)), (5, .int (i32 (thr (ceC S (zs xs (i + 1))) (S 1 0 1 = S (4 + (zs xs (i + 1)).toNat) 0 0 ∧ S (4 + (zs xs (i + 1)).toNat) 0 1 < 10) (True)))), (4, .int (i32 i)), (0, .ref b), (1, .ref (ad2 1 0)), (2, .ref (ad2 0 0)), (3, .ref (ad2 3 1))]) hx hb dL_law_286 hl (by decide) rfl (fun ls hl => ?_)
  refine lv_aload_n hx hb dL_law_288 rfl (lv_at hl 5 rfl) ?_
  refine q_callV (k := 0) (As := []) (rest := []) hx hb hml hl.1 hown hK hZ hP hS hI2.m.al rfl rfl rfl (c_X4_thrown l g s.heap.size ad2 S2 hI2.m.al) t_784 t_785 (q_callB hK 783 36 786 t_783 t_36 t_786 f_yX4_thrown ⟨Nat.le_of_ble_eq_true rfl, Nat.le_of_ble_eq_true rfl⟩) rfl rfl (Nat.le_of_ble_eq_true rfl) dL_law_289 ⟨by show cells + 2 + 0 + 0 ≤ 601024; omega, by show slots + 12 + 0 + 0 ≤ 7293034; omega⟩ (q_an (fun H locs hP hS => ?_))
  refine lv_iload hx hb dL_law_292 (lv_at hl 1 rfl) ?_
  refine q_icmp_eq (tgt := 299) hx hb (hP.rg 0 0 27) (thr_rng _ _ _) dL_law_294 (by decide) (fun _ => ?_) (fun h => absurd hth h)
  refine lv_iload hx hb dL_law_299 (lv_at hl 1 rfl) ?_
  refine q_if_ne (tgt := 316) hx hb (thr_rng _ _ _) dL_law_301 (by decide) (fun hk9 => ?_) (fun hk9 => ?_)
  · refine lv_goto (tgt := 1434) hx hb dL_law_316 (by decide) ?_
    refine W.widen (k := cells + 20) (n := slots + 1000) (by show cells + 2 + 0 + 0 ≤ cells + 20; omega) (by show slots + 12 + 0 + 0 ≤ slots + 1000; omega) ?_
    exact kont ad2 _ H locs ls hI2 ek2 hP hS (lv_sub hl [2, 3, 4, 5, 6] rfl)
  · refine lv_aload_n hx hb dL_law_304 rfl (lv_at hl 6 rfl) ?_
    refine lv_iconst (v := i32 0) hx hb dL_law_305 rfl ?_
    refine p_lald (o := 3) (r := 1) (k := 3) (n := 1) (z := 0) hx hb hK hP hI2.a3 rfl rfl (by decide) (by decide) (by decide) (by decide) dL_law_306 ?_
    refine lv_iload hx hb dL_law_307 (lv_at hl 0 rfl) ?_
    refine lv_i2l hx hb dL_law_309 (wr_64 _) ?_
    refine q_lcmp0 hx hb (hcmp hk9) dL_law_310 ?_
    refine q_if_eq (a := 0) (tgt := 316) hx hb rng_0 dL_law_311 (by decide) (fun _ => ?_) (fun h => absurd rfl h)
    refine lv_goto (tgt := 1434) hx hb dL_law_316 (by decide) ?_
    refine W.widen (k := cells + 20) (n := slots + 1000) (by show cells + 2 + 0 + 0 ≤ cells + 20; omega) (by show slots + 12 + 0 + 0 ≤ slots + 1000; omega) ?_
    exact kont ad2 _ H locs ls hI2 ek2 hP hS (lv_sub hl [2, 3, 4, 5, 6] rfl)

set_option maxHeartbeats 4000000 in
set_option maxRecDepth 100000 in
theorem lc_hatch {p : Program} {l : Launch} {e : Env} {s : State} {m : MethodId} {below : List Frame} {meth : Method} {c : Code} {args : Array Value} {Qm : State → Prop} {g : GT} {b L : Nat} {xs : Nat → Int32} (hfl : l.stackTraces = false) (hx : p.tables.exec = Jvm.exec) (hb : c.code = cL_law) (hml : c.maxLocals = 7) (hown : s.vm.findClass RL = some m.cls) (hK : KK g s) (hZ : ZZ s.heap.size s s.heap) (hX : va_X b L xs s s.heap) (hbl : b < s.heap.size) (hL : L ≤ 2560) {ad : Nat → Nat → Nat} {S : St} {H : Heap} {locs : List Loc} {ls : Array Slot} {i : Int} {cells slots : Nat} (hI : Inv S) (hi : 0 ≤ i ∧ i + 5 ≤ L) (hP : pic g s.heap.size ad S H) (hS : va_S (fun q => s.heap.size ≤ q) s.heap H locs) (hl : lv_has ls 7 [(4, .int (i32 i)), (0, .ref b), (1, .ref (ad 1 0)), (2, .ref (ad 0 0)), (3, .ref (ad 3 1))]) (hc : cells + 20 ≤ 601024 ∧ slots + 1000 ≤ 7293034)
    (kont : ∀ (ad' : Nat → Nat → Nat) (S' : St) (H : Heap) (locs : List Loc) (ls : Array Slot), Inv S' → (∀ x q, x < 4 → ad' x q = ad x q) → pic g s.heap.size ad' S' H → va_S (fun q => s.heap.size ≤ q) s.heap H locs → lv_has ls 7 [(4, .int (i32 i)), (0, .ref b), (1, .ref (ad' 1 0)), (2, .ref (ad' 0 0)), (3, .ref (ad' 3 1))] → W p l e room_1 s m args below meth c H locs (cells + 20) (slots + 1000) Qm (F0 m 1434 ls [])) :
    W p l e room_1 s m args below meth c H locs cells slots Qm (F0 m 319 ls []) := by
  refine lv_aload_n hx hb dL_law_319 rfl (lv_at hl 2 rfl) ?_
  refine lv_aload_n hx hb dL_law_320 rfl (lv_at hl 1 rfl) ?_
  refine lv_iload hx hb dL_law_321 (lv_at hl 0 rfl) ?_
  refine lv_iconst (v := i32 1) hx hb dL_law_323 rfl ?_
  refine q_iadd hx hb dL_law_324 ?_
  refine p_sld hx hb hX hbl hL hS (by omega) (by omega) dL_law_325 ?_
  refine lv_aload_n hx hb dL_law_326 rfl (lv_at hl 1 rfl) ?_
  refine lv_iload hx hb dL_law_327 (lv_at hl 0 rfl) ?_
  refine lv_iconst (v := i32 2) hx hb dL_law_329 rfl ?_
  refine q_iadd hx hb dL_law_330 ?_
  refine p_sld hx hb hX hbl hL hS (by omega) (by omega) dL_law_331 ?_
  refine lv_aload_n hx hb dL_law_332 rfl (lv_at hl 1 rfl) ?_
  refine lv_iload hx hb dL_law_333 (lv_at hl 0 rfl) ?_
  refine lv_iconst (v := i32 3) hx hb dL_law_335 rfl ?_
  refine q_iadd hx hb dL_law_336 ?_
  refine p_sld hx hb hX hbl hL hS (by omega) (by omega) dL_law_337 ?_
  refine q_callH (As := [.ref (ad 1 0), .int (i32 (zs xs (i + 1))), .int (i32 (zs xs (i + 2))), .int (i32 (zs xs (i + 3)))]) (rest := []) hx hb hml hl.1 hown hK hZ hP hS (c_L_hatch l g s.heap.size ad S (zs xs (i + 1)) (zs xs (i + 2)) (zs xs (i + 3)) hfl hI.wc (zs_r _ _) (zs_r _ _) (zs_r _ _)) t_323 t_33 t_325 t_324 f_yL_hatch ⟨Nat.le_of_ble_eq_true rfl, Nat.le_of_ble_eq_true rfl⟩ rfl rfl (Nat.le_of_ble_eq_true rfl) dL_law_338 ⟨by show cells + 3 ≤ 601024; omega, by show slots + 18 ≤ 7293034; omega⟩ (fun r1 ad1 S1 H locs h1 hP hS => ?_)
  obtain ⟨hr1, ek1⟩ := lhP_k h1
  have e0 := lhP_0 h1 zk_hatch.1
  have a3 := (lhP_3 h1 zk_hatch.2).trans hI.a3
  subst hr1
  have hl : lv_has ls 7 [(4, .int (i32 i)), (0, .ref b), (1, .ref (ad1 1 0)), (2, .ref (ad1 0 0)), (3, .ref (ad1 3 1))] := by
    have t9 := hl
    rw [← ek1 1 0 (by decide), ← ek1 0 0 (by decide), ← ek1 3 1 (by decide)] at t9
    exact t9
  have al0 : S1 0 0 (-1) = 1 := by rw [e0]; exact hI.m.al
  refine lv_istore (lv' := [(5, .int (i32 (thr (ceC S (zs xs (i + 1)) ∧ (0 ≤ (zs xs (i + 2)) ∧ (zs xs (i + 2)) < 6) ∧ (0 ≤ (zs xs (i + 3)) ∧ (zs xs (i + 3)) < 6)) (True) (True)))), (4, .int (i32 i)), (0, .ref b), (1, .ref (ad1 1 0)), (2, .ref (ad1 0 0)), (3, .ref (ad1 3 1))]) hx hb dL_law_341 hl (by decide) rfl (fun ls hl => ?_)
  refine lv_aload_n hx hb dL_law_343 rfl (lv_at hl 4 rfl) ?_
  refine lv_aload_n hx hb dL_law_344 rfl (lv_at hl 2 rfl) ?_
  refine lv_iload hx hb dL_law_345 (lv_at hl 1 rfl) ?_
  refine lv_iconst (v := i32 1) hx hb dL_law_347 rfl ?_
  refine q_iadd hx hb dL_law_348 ?_
  refine p_sld hx hb hX hbl hL hS (by omega) (by omega) dL_law_349 ?_
  refine lv_aload_n hx hb dL_law_350 rfl (lv_at hl 2 rfl) ?_
  refine lv_iload hx hb dL_law_351 (lv_at hl 1 rfl) ?_
  refine lv_iconst (v := i32 2) hx hb dL_law_353 rfl ?_
  refine q_iadd hx hb dL_law_354 ?_
  refine p_sld hx hb hX hbl hL hS (by omega) (by omega) dL_law_355 ?_
  refine lv_aload_n hx hb dL_law_356 rfl (lv_at hl 2 rfl) ?_
  refine lv_iload hx hb dL_law_357 (lv_at hl 1 rfl) ?_
  refine lv_iconst (v := i32 3) hx hb dL_law_359 rfl ?_
  refine q_iadd hx hb dL_law_360 ?_
  refine p_sld hx hb hX hbl hL hS (by omega) (by omega) dL_law_361 ?_
  refine q_callV (k := 0) (As := [.int (i32 (zs xs (i + 1))), .int (i32 (zs xs (i + 2))), .int (i32 (zs xs (i + 3)))]) (rest := []) hx hb hml hl.1 hown hK hZ hP hS al0 rfl rfl rfl (c_X4_hatch l g s.heap.size ad1 S1 (zs xs (i + 1)) (zs xs (i + 2)) (zs xs (i + 3)) (wM_e e0 hI.m) (zs_r _ _) (zs_r _ _) (zs_r _ _)) t_818 t_819 (q_callB hK 817 36 820 t_817 t_36 t_820 f_yX4_hatch ⟨Nat.le_of_ble_eq_true rfl, Nat.le_of_ble_eq_true rfl⟩) rfl rfl (Nat.le_of_ble_eq_true rfl) dL_law_362 ⟨by show cells + 3 + 0 ≤ 601024; omega, by show slots + 18 + 0 ≤ 7293034; omega⟩ (fun r2 ad2 S2 H locs h2 hP hS => ?_)
  have hG := sim_hatch hI (zs_r _ _) (zs_r _ _) (zs_r _ _) h1 h2
  obtain ⟨hr2, hth, hI2, ek2⟩ := hG
  subst hr2
  have ek : ∀ x q, x < 4 → ad1 x q = ad2 x q := fun x q h => (ek1 x q h).trans (ek2 x q h).symm
  have hl : lv_has ls 7 [(5, .int (i32 (thr (ceC S (zs xs (i + 1)) ∧ (0 ≤ (zs xs (i + 2)) ∧ (zs xs (i + 2)) < 6) ∧ (0 ≤ (zs xs (i + 3)) ∧ (zs xs (i + 3)) < 6)) (True) (True)))), (4, .int (i32 i)), (0, .ref b), (1, .ref (ad2 1 0)), (2, .ref (ad2 0 0)), (3, .ref (ad2 3 1))] := by
    have t9 := hl
    rw [ek 1 0 (by decide), ek 0 0 (by decide), ek 3 1 (by decide)] at t9
    exact t9
  refine lv_aload_n hx hb dL_law_365 rfl (lv_at hl 4 rfl) ?_
  refine q_callV (k := 0) (As := []) (rest := []) hx hb hml hl.1 hown hK hZ hP hS hI2.m.al rfl rfl rfl (c_X4_thrown l g s.heap.size ad2 S2 hI2.m.al) t_784 t_785 (q_callB hK 783 36 786 t_783 t_36 t_786 f_yX4_thrown ⟨Nat.le_of_ble_eq_true rfl, Nat.le_of_ble_eq_true rfl⟩) rfl rfl (Nat.le_of_ble_eq_true rfl) dL_law_366 ⟨by show cells + 3 + 0 + 0 ≤ 601024; omega, by show slots + 18 + 0 + 0 ≤ 7293034; omega⟩ (q_an (fun H locs hP hS => ?_))
  refine lv_iload hx hb dL_law_369 (lv_at hl 0 rfl) ?_
  refine q_icmp_eq (tgt := 376) hx hb (hP.rg 0 0 27) (thr_rng _ _ _) dL_law_371 (by decide) (fun _ => ?_) (fun h => absurd hth h)
  refine lv_goto (tgt := 1434) hx hb dL_law_376 (by decide) ?_
  refine W.widen (k := cells + 20) (n := slots + 1000) (by show cells + 3 + 0 + 0 ≤ cells + 20; omega) (by show slots + 18 + 0 + 0 ≤ slots + 1000; omega) ?_
  exact kont ad2 _ H locs ls hI2 ek2 hP hS (lv_sub hl [1, 2, 3, 4, 5] rfl)

set_option maxHeartbeats 4000000 in
set_option maxRecDepth 100000 in
theorem lc_dye {p : Program} {l : Launch} {e : Env} {s : State} {m : MethodId} {below : List Frame} {meth : Method} {c : Code} {args : Array Value} {Qm : State → Prop} {g : GT} {b L : Nat} {xs : Nat → Int32} (hfl : l.stackTraces = false) (hx : p.tables.exec = Jvm.exec) (hb : c.code = cL_law) (hml : c.maxLocals = 7) (hown : s.vm.findClass RL = some m.cls) (hK : KK g s) (hZ : ZZ s.heap.size s s.heap) (hX : va_X b L xs s s.heap) (hbl : b < s.heap.size) (hL : L ≤ 2560) {ad : Nat → Nat → Nat} {S : St} {H : Heap} {locs : List Loc} {ls : Array Slot} {i : Int} {cells slots : Nat} (hI : Inv S) (hi : 0 ≤ i ∧ i + 5 ≤ L) (hP : pic g s.heap.size ad S H) (hS : va_S (fun q => s.heap.size ≤ q) s.heap H locs) (hl : lv_has ls 7 [(4, .int (i32 i)), (0, .ref b), (1, .ref (ad 1 0)), (2, .ref (ad 0 0)), (3, .ref (ad 3 1))]) (hc : cells + 20 ≤ 601024 ∧ slots + 1000 ≤ 7293034)
    (kont : ∀ (ad' : Nat → Nat → Nat) (S' : St) (H : Heap) (locs : List Loc) (ls : Array Slot), Inv S' → (∀ x q, x < 4 → ad' x q = ad x q) → pic g s.heap.size ad' S' H → va_S (fun q => s.heap.size ≤ q) s.heap H locs → lv_has ls 7 [(4, .int (i32 i)), (0, .ref b), (1, .ref (ad' 1 0)), (2, .ref (ad' 0 0)), (3, .ref (ad' 3 1))] → W p l e room_1 s m args below meth c H locs (cells + 20) (slots + 1000) Qm (F0 m 1434 ls [])) :
    W p l e room_1 s m args below meth c H locs cells slots Qm (F0 m 379 ls []) := by
  refine lv_aload_n hx hb dL_law_379 rfl (lv_at hl 2 rfl) ?_
  refine lv_aload_n hx hb dL_law_380 rfl (lv_at hl 1 rfl) ?_
  refine lv_iload hx hb dL_law_381 (lv_at hl 0 rfl) ?_
  refine lv_iconst (v := i32 1) hx hb dL_law_383 rfl ?_
  refine q_iadd hx hb dL_law_384 ?_
  refine p_sld hx hb hX hbl hL hS (by omega) (by omega) dL_law_385 ?_
  refine lv_aload_n hx hb dL_law_386 rfl (lv_at hl 1 rfl) ?_
  refine lv_iload hx hb dL_law_387 (lv_at hl 0 rfl) ?_
  refine lv_iconst (v := i32 2) hx hb dL_law_389 rfl ?_
  refine q_iadd hx hb dL_law_390 ?_
  refine p_sld hx hb hX hbl hL hS (by omega) (by omega) dL_law_391 ?_
  refine lv_aload_n hx hb dL_law_392 rfl (lv_at hl 1 rfl) ?_
  refine lv_iload hx hb dL_law_393 (lv_at hl 0 rfl) ?_
  refine lv_iconst (v := i32 3) hx hb dL_law_395 rfl ?_
  refine q_iadd hx hb dL_law_396 ?_
  refine p_sld hx hb hX hbl hL hS (by omega) (by omega) dL_law_397 ?_
  refine lv_aload_n hx hb dL_law_398 rfl (lv_at hl 1 rfl) ?_
  refine lv_iload hx hb dL_law_399 (lv_at hl 0 rfl) ?_
  refine lv_iconst (v := i32 4) hx hb dL_law_401 rfl ?_
  refine q_iadd hx hb dL_law_402 ?_
  refine p_sld hx hb hX hbl hL hS (by omega) (by omega) dL_law_403 ?_
  refine q_z01 hx hb (zs_r _ _) (L1 := 411) dL_law_404 dL_law_407 dL_law_408 dL_law_411 (by decide) (by decide) ?_
  refine lv_aload_n hx hb dL_law_412 rfl (lv_at hl 4 rfl) ?_
  refine q_callH (As := [.ref (ad 1 0), .int (i32 (zs xs (i + 1))), .int (i32 (zs xs (i + 2))), .int (i32 (zs xs (i + 3))), .int (i32 (b2 (zs xs (i + 4) ≠ 0))), .ref (ad 3 1)]) (rest := []) hx hb hml hl.1 hown hK hZ hP hS (c_L_dye l g s.heap.size ad S (zs xs (i + 1)) (zs xs (i + 2)) (zs xs (i + 3)) (zs xs (i + 4) ≠ 0) hfl hI.wc (zs_r _ _) (zs_r _ _) (zs_r _ _) hI.a3) t_338 t_33 t_340 t_339 f_yL_dye ⟨Nat.le_of_ble_eq_true rfl, Nat.le_of_ble_eq_true rfl⟩ rfl rfl (Nat.le_of_ble_eq_true rfl) dL_law_413 ⟨by show cells + 2 ≤ 601024; omega, by show slots + 12 ≤ 7293034; omega⟩ (fun r1 ad1 S1 H locs h1 hP hS => ?_)
  obtain ⟨hr1, ek1⟩ := lhP_k h1
  have e0 := lhP_0 h1 zk_dye.1
  have a3 := (lhP_3 h1 zk_dye.2).trans hI.a3
  subst hr1
  have hl : lv_has ls 7 [(4, .int (i32 i)), (0, .ref b), (1, .ref (ad1 1 0)), (2, .ref (ad1 0 0)), (3, .ref (ad1 3 1))] := by
    have t9 := hl
    rw [← ek1 1 0 (by decide), ← ek1 0 0 (by decide), ← ek1 3 1 (by decide)] at t9
    exact t9
  have al0 : S1 0 0 (-1) = 1 := by rw [e0]; exact hI.m.al
  refine lv_istore (lv' := [(5, .int (i32 (thr (0 ≤ (zs xs (i + 1)) ∧ (zs xs (i + 1)) < 6) ((1 ≤ (zs xs (i + 2)) ∧ (zs xs (i + 2)) ≤ 999) ∧ (0 ≤ (zs xs (i + 3)) ∧ (zs xs (i + 3)) ≤ 9)) (S 2 0 0 < 20)))), (4, .int (i32 i)), (0, .ref b), (1, .ref (ad1 1 0)), (2, .ref (ad1 0 0)), (3, .ref (ad1 3 1))]) hx hb dL_law_416 hl (by decide) rfl (fun ls hl => ?_)
  refine lv_aload_n hx hb dL_law_418 rfl (lv_at hl 4 rfl) ?_
  refine lv_aload_n hx hb dL_law_419 rfl (lv_at hl 2 rfl) ?_
  refine lv_iload hx hb dL_law_420 (lv_at hl 1 rfl) ?_
  refine lv_iconst (v := i32 1) hx hb dL_law_422 rfl ?_
  refine q_iadd hx hb dL_law_423 ?_
  refine p_sld hx hb hX hbl hL hS (by omega) (by omega) dL_law_424 ?_
  refine lv_aload_n hx hb dL_law_425 rfl (lv_at hl 2 rfl) ?_
  refine lv_iload hx hb dL_law_426 (lv_at hl 1 rfl) ?_
  refine lv_iconst (v := i32 2) hx hb dL_law_428 rfl ?_
  refine q_iadd hx hb dL_law_429 ?_
  refine p_sld hx hb hX hbl hL hS (by omega) (by omega) dL_law_430 ?_
  refine lv_aload_n hx hb dL_law_431 rfl (lv_at hl 2 rfl) ?_
  refine lv_iload hx hb dL_law_432 (lv_at hl 1 rfl) ?_
  refine lv_iconst (v := i32 3) hx hb dL_law_434 rfl ?_
  refine q_iadd hx hb dL_law_435 ?_
  refine p_sld hx hb hX hbl hL hS (by omega) (by omega) dL_law_436 ?_
  refine lv_aload_n hx hb dL_law_437 rfl (lv_at hl 2 rfl) ?_
  refine lv_iload hx hb dL_law_438 (lv_at hl 1 rfl) ?_
  refine lv_iconst (v := i32 4) hx hb dL_law_440 rfl ?_
  refine q_iadd hx hb dL_law_441 ?_
  refine p_sld hx hb hX hbl hL hS (by omega) (by omega) dL_law_442 ?_
  refine q_z01 hx hb (zs_r _ _) (L1 := 450) dL_law_443 dL_law_446 dL_law_447 dL_law_450 (by decide) (by decide) ?_
  refine q_callV (k := 0) (As := [.int (i32 (zs xs (i + 1))), .int (i32 (zs xs (i + 2))), .int (i32 (zs xs (i + 3))), .int (i32 (b2 (zs xs (i + 4) ≠ 0)))]) (rest := []) hx hb hml hl.1 hown hK hZ hP hS al0 rfl rfl rfl (c_X4_dye l g s.heap.size ad1 S1 (zs xs (i + 1)) (zs xs (i + 2)) (zs xs (i + 3)) (zs xs (i + 4) ≠ 0) (wM_e e0 hI.m) (zs_r _ _) (zs_r _ _) (zs_r _ _)) t_825 t_826 (q_callB hK 824 36 827 t_824 t_36 t_827 f_yX4_dye ⟨Nat.le_of_ble_eq_true rfl, Nat.le_of_ble_eq_true rfl⟩) rfl rfl (Nat.le_of_ble_eq_true rfl) dL_law_451 ⟨by show cells + 2 + 0 ≤ 601024; omega, by show slots + 12 + 0 ≤ 7293034; omega⟩ (fun r2 ad2 S2 H locs h2 hP hS => ?_)
  have hG := sim_dye hI (zs_r _ _) (zs_r _ _) (zs_r _ _) h1 h2
  obtain ⟨⟨b9, hr2, hcmp⟩, hth, hI2, ek2⟩ := hG
  subst hr2
  have ek : ∀ x q, x < 4 → ad1 x q = ad2 x q := fun x q h => (ek1 x q h).trans (ek2 x q h).symm
  have hl : lv_has ls 7 [(5, .int (i32 (thr (0 ≤ (zs xs (i + 1)) ∧ (zs xs (i + 1)) < 6) ((1 ≤ (zs xs (i + 2)) ∧ (zs xs (i + 2)) ≤ 999) ∧ (0 ≤ (zs xs (i + 3)) ∧ (zs xs (i + 3)) ≤ 9)) (S 2 0 0 < 20)))), (4, .int (i32 i)), (0, .ref b), (1, .ref (ad2 1 0)), (2, .ref (ad2 0 0)), (3, .ref (ad2 3 1))] := by
    have t9 := hl
    rw [ek 1 0 (by decide), ek 0 0 (by decide), ek 3 1 (by decide)] at t9
    exact t9
  refine lv_istore (lv' := [(6, .int (i32 b9)), (5, .int (i32 (thr (0 ≤ (zs xs (i + 1)) ∧ (zs xs (i + 1)) < 6) ((1 ≤ (zs xs (i + 2)) ∧ (zs xs (i + 2)) ≤ 999) ∧ (0 ≤ (zs xs (i + 3)) ∧ (zs xs (i + 3)) ≤ 9)) (S 2 0 0 < 20)))), (4, .int (i32 i)), (0, .ref b), (1, .ref (ad2 1 0)), (2, .ref (ad2 0 0)), (3, .ref (ad2 3 1))]) hx hb dL_law_454 hl (by decide) rfl (fun ls hl => ?_)
  refine lv_aload_n hx hb dL_law_456 rfl (lv_at hl 5 rfl) ?_
  refine q_callV (k := 0) (As := []) (rest := []) hx hb hml hl.1 hown hK hZ hP hS hI2.m.al rfl rfl rfl (c_X4_thrown l g s.heap.size ad2 S2 hI2.m.al) t_784 t_785 (q_callB hK 783 36 786 t_783 t_36 t_786 f_yX4_thrown ⟨Nat.le_of_ble_eq_true rfl, Nat.le_of_ble_eq_true rfl⟩) rfl rfl (Nat.le_of_ble_eq_true rfl) dL_law_457 ⟨by show cells + 2 + 0 + 0 ≤ 601024; omega, by show slots + 12 + 0 + 0 ≤ 7293034; omega⟩ (q_an (fun H locs hP hS => ?_))
  refine lv_iload hx hb dL_law_460 (lv_at hl 1 rfl) ?_
  refine q_icmp_eq (tgt := 467) hx hb (hP.rg 0 0 27) (thr_rng _ _ _) dL_law_462 (by decide) (fun _ => ?_) (fun h => absurd hth h)
  refine lv_iload hx hb dL_law_467 (lv_at hl 1 rfl) ?_
  refine q_if_ne (tgt := 484) hx hb (thr_rng _ _ _) dL_law_469 (by decide) (fun hk9 => ?_) (fun hk9 => ?_)
  · refine lv_goto (tgt := 1434) hx hb dL_law_484 (by decide) ?_
    refine W.widen (k := cells + 20) (n := slots + 1000) (by show cells + 2 + 0 + 0 ≤ cells + 20; omega) (by show slots + 12 + 0 + 0 ≤ slots + 1000; omega) ?_
    exact kont ad2 _ H locs ls hI2 ek2 hP hS (lv_sub hl [2, 3, 4, 5, 6] rfl)
  · refine lv_aload_n hx hb dL_law_472 rfl (lv_at hl 6 rfl) ?_
    refine lv_iconst (v := i32 0) hx hb dL_law_473 rfl ?_
    refine p_lald (o := 3) (r := 1) (k := 3) (n := 1) (z := 0) hx hb hK hP hI2.a3 rfl rfl (by decide) (by decide) (by decide) (by decide) dL_law_474 ?_
    refine lv_iload hx hb dL_law_475 (lv_at hl 0 rfl) ?_
    refine lv_i2l hx hb dL_law_477 (wr_64 _) ?_
    refine q_lcmp0 hx hb (hcmp hk9) dL_law_478 ?_
    refine q_if_eq (a := 0) (tgt := 484) hx hb rng_0 dL_law_479 (by decide) (fun _ => ?_) (fun h => absurd rfl h)
    refine lv_goto (tgt := 1434) hx hb dL_law_484 (by decide) ?_
    refine W.widen (k := cells + 20) (n := slots + 1000) (by show cells + 2 + 0 + 0 ≤ cells + 20; omega) (by show slots + 12 + 0 + 0 ≤ slots + 1000; omega) ?_
    exact kont ad2 _ H locs ls hI2 ek2 hP hS (lv_sub hl [2, 3, 4, 5, 6] rfl)

set_option maxHeartbeats 4000000 in
set_option maxRecDepth 100000 in
theorem lc_left {p : Program} {l : Launch} {e : Env} {s : State} {m : MethodId} {below : List Frame} {meth : Method} {c : Code} {args : Array Value} {Qm : State → Prop} {g : GT} {b L : Nat} {xs : Nat → Int32} (hfl : l.stackTraces = false) (hx : p.tables.exec = Jvm.exec) (hb : c.code = cL_law) (hml : c.maxLocals = 7) (hown : s.vm.findClass RL = some m.cls) (hK : KK g s) (hZ : ZZ s.heap.size s s.heap) (hX : va_X b L xs s s.heap) (hbl : b < s.heap.size) (hL : L ≤ 2560) {ad : Nat → Nat → Nat} {S : St} {H : Heap} {locs : List Loc} {ls : Array Slot} {i : Int} {cells slots : Nat} (hI : Inv S) (hi : 0 ≤ i ∧ i + 5 ≤ L) (hP : pic g s.heap.size ad S H) (hS : va_S (fun q => s.heap.size ≤ q) s.heap H locs) (hl : lv_has ls 7 [(4, .int (i32 i)), (0, .ref b), (1, .ref (ad 1 0)), (2, .ref (ad 0 0)), (3, .ref (ad 3 1))]) (hc : cells + 20 ≤ 601024 ∧ slots + 1000 ≤ 7293034)
    (kont : ∀ (ad' : Nat → Nat → Nat) (S' : St) (H : Heap) (locs : List Loc) (ls : Array Slot), Inv S' → (∀ x q, x < 4 → ad' x q = ad x q) → pic g s.heap.size ad' S' H → va_S (fun q => s.heap.size ≤ q) s.heap H locs → lv_has ls 7 [(4, .int (i32 i)), (0, .ref b), (1, .ref (ad' 1 0)), (2, .ref (ad' 0 0)), (3, .ref (ad' 3 1))] → W p l e room_1 s m args below meth c H locs (cells + 20) (slots + 1000) Qm (F0 m 1434 ls [])) :
    W p l e room_1 s m args below meth c H locs cells slots Qm (F0 m 487 ls []) := by
  refine lv_aload_n hx hb dL_law_487 rfl (lv_at hl 2 rfl) ?_
  refine lv_aload_n hx hb dL_law_488 rfl (lv_at hl 1 rfl) ?_
  refine lv_iload hx hb dL_law_489 (lv_at hl 0 rfl) ?_
  refine lv_iconst (v := i32 1) hx hb dL_law_491 rfl ?_
  refine q_iadd hx hb dL_law_492 ?_
  refine p_sld hx hb hX hbl hL hS (by omega) (by omega) dL_law_493 ?_
  refine lv_aload_n hx hb dL_law_494 rfl (lv_at hl 4 rfl) ?_
  refine q_callH (As := [.ref (ad 1 0), .int (i32 (zs xs (i + 1))), .ref (ad 3 1)]) (rest := []) hx hb hml hl.1 hown hK hZ hP hS (c_L_left l g s.heap.size ad S (zs xs (i + 1)) hfl hI.wc (zs_r _ _) hI.a3) t_357 t_33 t_359 t_358 f_yL_left ⟨Nat.le_of_ble_eq_true rfl, Nat.le_of_ble_eq_true rfl⟩ rfl rfl (Nat.le_of_ble_eq_true rfl) dL_law_495 ⟨by show cells + 1 ≤ 601024; omega, by show slots + 6 ≤ 7293034; omega⟩ (fun r1 ad1 S1 H locs h1 hP hS => ?_)
  obtain ⟨hr1, ek1⟩ := lhP_k h1
  have e0 := lhP_0 h1 zk_left.1
  have a3 := (lhP_3 h1 zk_left.2).trans hI.a3
  subst hr1
  have hl : lv_has ls 7 [(4, .int (i32 i)), (0, .ref b), (1, .ref (ad1 1 0)), (2, .ref (ad1 0 0)), (3, .ref (ad1 3 1))] := by
    have t9 := hl
    rw [← ek1 1 0 (by decide), ← ek1 0 0 (by decide), ← ek1 3 1 (by decide)] at t9
    exact t9
  have al0 : S1 0 0 (-1) = 1 := by rw [e0]; exact hI.m.al
  refine lv_istore (lv' := [(5, .int (i32 (thr (0 ≤ (zs xs (i + 1)) ∧ (zs xs (i + 1)) < S 2 0 0) (True) (True)))), (4, .int (i32 i)), (0, .ref b), (1, .ref (ad1 1 0)), (2, .ref (ad1 0 0)), (3, .ref (ad1 3 1))]) hx hb dL_law_498 hl (by decide) rfl (fun ls hl => ?_)
  refine lv_aload_n hx hb dL_law_500 rfl (lv_at hl 4 rfl) ?_
  refine lv_aload_n hx hb dL_law_501 rfl (lv_at hl 2 rfl) ?_
  refine lv_iload hx hb dL_law_502 (lv_at hl 1 rfl) ?_
  refine lv_iconst (v := i32 1) hx hb dL_law_504 rfl ?_
  refine q_iadd hx hb dL_law_505 ?_
  refine p_sld hx hb hX hbl hL hS (by omega) (by omega) dL_law_506 ?_
  refine q_callV (k := 0) (As := [.int (i32 (zs xs (i + 1)))]) (rest := []) hx hb hml hl.1 hown hK hZ hP hS al0 rfl rfl rfl (c_X4_left l g s.heap.size ad1 S1 (zs xs (i + 1)) (wM_e e0 hI.m) (zs_r _ _)) t_829 t_830 (q_callB hK 828 36 831 t_828 t_36 t_831 f_yX4_left ⟨Nat.le_of_ble_eq_true rfl, Nat.le_of_ble_eq_true rfl⟩) rfl rfl (Nat.le_of_ble_eq_true rfl) dL_law_507 ⟨by show cells + 1 + 0 ≤ 601024; omega, by show slots + 6 + 0 ≤ 7293034; omega⟩ (fun r2 ad2 S2 H locs h2 hP hS => ?_)
  have hG := sim_left hI (zs_r _ _) h1 h2
  obtain ⟨⟨b9, hr2, hcmp⟩, hth, hI2, ek2⟩ := hG
  subst hr2
  have ek : ∀ x q, x < 4 → ad1 x q = ad2 x q := fun x q h => (ek1 x q h).trans (ek2 x q h).symm
  have hl : lv_has ls 7 [(5, .int (i32 (thr (0 ≤ (zs xs (i + 1)) ∧ (zs xs (i + 1)) < S 2 0 0) (True) (True)))), (4, .int (i32 i)), (0, .ref b), (1, .ref (ad2 1 0)), (2, .ref (ad2 0 0)), (3, .ref (ad2 3 1))] := by
    have t9 := hl
    rw [ek 1 0 (by decide), ek 0 0 (by decide), ek 3 1 (by decide)] at t9
    exact t9
  refine lv_istore (lv' := [(6, .int (i32 b9)), (5, .int (i32 (thr (0 ≤ (zs xs (i + 1)) ∧ (zs xs (i + 1)) < S 2 0 0) (True) (True)))), (4, .int (i32 i)), (0, .ref b), (1, .ref (ad2 1 0)), (2, .ref (ad2 0 0)), (3, .ref (ad2 3 1))]) hx hb dL_law_510 hl (by decide) rfl (fun ls hl => ?_)
  refine lv_aload_n hx hb dL_law_512 rfl (lv_at hl 5 rfl) ?_
  refine q_callV (k := 0) (As := []) (rest := []) hx hb hml hl.1 hown hK hZ hP hS hI2.m.al rfl rfl rfl (c_X4_thrown l g s.heap.size ad2 S2 hI2.m.al) t_784 t_785 (q_callB hK 783 36 786 t_783 t_36 t_786 f_yX4_thrown ⟨Nat.le_of_ble_eq_true rfl, Nat.le_of_ble_eq_true rfl⟩) rfl rfl (Nat.le_of_ble_eq_true rfl) dL_law_513 ⟨by show cells + 1 + 0 + 0 ≤ 601024; omega, by show slots + 6 + 0 + 0 ≤ 7293034; omega⟩ (q_an (fun H locs hP hS => ?_))
  refine lv_iload hx hb dL_law_516 (lv_at hl 1 rfl) ?_
  refine q_icmp_eq (tgt := 523) hx hb (hP.rg 0 0 27) (thr_rng _ _ _) dL_law_518 (by decide) (fun _ => ?_) (fun h => absurd hth h)
  refine lv_iload hx hb dL_law_523 (lv_at hl 1 rfl) ?_
  refine q_if_ne (tgt := 540) hx hb (thr_rng _ _ _) dL_law_525 (by decide) (fun hk9 => ?_) (fun hk9 => ?_)
  · refine lv_goto (tgt := 1434) hx hb dL_law_540 (by decide) ?_
    refine W.widen (k := cells + 20) (n := slots + 1000) (by show cells + 1 + 0 + 0 ≤ cells + 20; omega) (by show slots + 6 + 0 + 0 ≤ slots + 1000; omega) ?_
    exact kont ad2 _ H locs ls hI2 ek2 hP hS (lv_sub hl [2, 3, 4, 5, 6] rfl)
  · refine lv_aload_n hx hb dL_law_528 rfl (lv_at hl 6 rfl) ?_
    refine lv_iconst (v := i32 0) hx hb dL_law_529 rfl ?_
    refine p_lald (o := 3) (r := 1) (k := 3) (n := 1) (z := 0) hx hb hK hP hI2.a3 rfl rfl (by decide) (by decide) (by decide) (by decide) dL_law_530 ?_
    refine lv_iload hx hb dL_law_531 (lv_at hl 0 rfl) ?_
    refine lv_i2l hx hb dL_law_533 (wr_64 _) ?_
    refine q_lcmp0 hx hb (hcmp hk9) dL_law_534 ?_
    refine q_if_eq (a := 0) (tgt := 540) hx hb rng_0 dL_law_535 (by decide) (fun _ => ?_) (fun h => absurd rfl h)
    refine lv_goto (tgt := 1434) hx hb dL_law_540 (by decide) ?_
    refine W.widen (k := cells + 20) (n := slots + 1000) (by show cells + 1 + 0 + 0 ≤ cells + 20; omega) (by show slots + 6 + 0 + 0 ≤ slots + 1000; omega) ?_
    exact kont ad2 _ H locs ls hI2 ek2 hP hS (lv_sub hl [2, 3, 4, 5, 6] rfl)

set_option maxHeartbeats 4000000 in
set_option maxRecDepth 100000 in
theorem lc_gold {p : Program} {l : Launch} {e : Env} {s : State} {m : MethodId} {below : List Frame} {meth : Method} {c : Code} {args : Array Value} {Qm : State → Prop} {g : GT} {b L : Nat} {xs : Nat → Int32} (hfl : l.stackTraces = false) (hx : p.tables.exec = Jvm.exec) (hb : c.code = cL_law) (hml : c.maxLocals = 7) (hown : s.vm.findClass RL = some m.cls) (hK : KK g s) (hZ : ZZ s.heap.size s s.heap) (hX : va_X b L xs s s.heap) (hbl : b < s.heap.size) (hL : L ≤ 2560) {ad : Nat → Nat → Nat} {S : St} {H : Heap} {locs : List Loc} {ls : Array Slot} {i : Int} {cells slots : Nat} (hI : Inv S) (hi : 0 ≤ i ∧ i + 5 ≤ L) (hP : pic g s.heap.size ad S H) (hS : va_S (fun q => s.heap.size ≤ q) s.heap H locs) (hl : lv_has ls 7 [(4, .int (i32 i)), (0, .ref b), (1, .ref (ad 1 0)), (2, .ref (ad 0 0)), (3, .ref (ad 3 1))]) (hc : cells + 20 ≤ 601024 ∧ slots + 1000 ≤ 7293034)
    (kont : ∀ (ad' : Nat → Nat → Nat) (S' : St) (H : Heap) (locs : List Loc) (ls : Array Slot), Inv S' → (∀ x q, x < 4 → ad' x q = ad x q) → pic g s.heap.size ad' S' H → va_S (fun q => s.heap.size ≤ q) s.heap H locs → lv_has ls 7 [(4, .int (i32 i)), (0, .ref b), (1, .ref (ad' 1 0)), (2, .ref (ad' 0 0)), (3, .ref (ad' 3 1))] → W p l e room_1 s m args below meth c H locs (cells + 20) (slots + 1000) Qm (F0 m 1434 ls [])) :
    W p l e room_1 s m args below meth c H locs cells slots Qm (F0 m 543 ls []) := by
  refine lv_aload_n hx hb dL_law_543 rfl (lv_at hl 2 rfl) ?_
  refine q_callV (k := 1) (As := []) (rest := []) hx hb hml hl.1 hown hK hZ hP hS hI.a1 rfl rfl rfl (c_X3_gold l g s.heap.size ad S hI.wc) t_115 t_116 (q_callB hK 114 34 117 t_114 t_34 t_117 f_yX3_gold ⟨Nat.le_of_ble_eq_true rfl, Nat.le_of_ble_eq_true rfl⟩) rfl rfl (Nat.le_of_ble_eq_true rfl) dL_law_544 ⟨by show cells + 0 ≤ 601024; omega, by show slots + 0 ≤ 7293034; omega⟩ (q_an (fun H locs hP hS => ?_))
  have e0 : S 0 = S 0 := by funext b i; rfl
  refine lv_aload_n hx hb dL_law_547 rfl (lv_at hl 3 rfl) ?_
  refine q_callV (k := 0) (As := []) (rest := [.int (i32 (gdC S))]) hx hb hml hl.1 hown hK hZ hP hS (by rw [e0]; exact hI.m.al) rfl rfl rfl (c_X4_gold l g s.heap.size ad S (wM_e e0 hI.m)) t_833 t_834 (q_callB hK 832 36 835 t_832 t_36 t_835 f_yX4_gold ⟨Nat.le_of_ble_eq_true rfl, Nat.le_of_ble_eq_true rfl⟩) rfl rfl (Nat.le_of_ble_eq_true rfl) dL_law_548 ⟨by show cells + 0 + 0 ≤ 601024; omega, by show slots + 0 + 0 ≤ 7293034; omega⟩ (q_an (fun H locs hP hS => ?_))
  have hq := sim_gold hI
  have hI2 := hI.s27 0
  rw [← hq]
  refine q_icmp_eqi (tgt := 1434) hx hb dL_law_551 (by decide) ?_
  refine W.widen (k := cells + 20) (n := slots + 1000) (by show cells + 0 + 0 ≤ cells + 20; omega) (by show slots + 0 + 0 ≤ slots + 1000; omega) ?_
  exact kont ad _ H locs ls hI2 (fun _ _ _ => rfl) hP hS (lv_sub hl [0, 1, 2, 3, 4] rfl)

set_option maxHeartbeats 4000000 in
set_option maxRecDepth 100000 in
theorem lc_loom {p : Program} {l : Launch} {e : Env} {s : State} {m : MethodId} {below : List Frame} {meth : Method} {c : Code} {args : Array Value} {Qm : State → Prop} {g : GT} {b L : Nat} {xs : Nat → Int32} (hfl : l.stackTraces = false) (hx : p.tables.exec = Jvm.exec) (hb : c.code = cL_law) (hml : c.maxLocals = 7) (hown : s.vm.findClass RL = some m.cls) (hK : KK g s) (hZ : ZZ s.heap.size s s.heap) (hX : va_X b L xs s s.heap) (hbl : b < s.heap.size) (hL : L ≤ 2560) {ad : Nat → Nat → Nat} {S : St} {H : Heap} {locs : List Loc} {ls : Array Slot} {i : Int} {cells slots : Nat} (hI : Inv S) (hi : 0 ≤ i ∧ i + 5 ≤ L) (hP : pic g s.heap.size ad S H) (hS : va_S (fun q => s.heap.size ≤ q) s.heap H locs) (hl : lv_has ls 7 [(4, .int (i32 i)), (0, .ref b), (1, .ref (ad 1 0)), (2, .ref (ad 0 0)), (3, .ref (ad 3 1))]) (hc : cells + 20 ≤ 601024 ∧ slots + 1000 ≤ 7293034)
    (kont : ∀ (ad' : Nat → Nat → Nat) (S' : St) (H : Heap) (locs : List Loc) (ls : Array Slot), Inv S' → (∀ x q, x < 4 → ad' x q = ad x q) → pic g s.heap.size ad' S' H → va_S (fun q => s.heap.size ≤ q) s.heap H locs → lv_has ls 7 [(4, .int (i32 i)), (0, .ref b), (1, .ref (ad' 1 0)), (2, .ref (ad' 0 0)), (3, .ref (ad' 3 1))] → W p l e room_1 s m args below meth c H locs (cells + 20) (slots + 1000) Qm (F0 m 1434 ls [])) :
    W p l e room_1 s m args below meth c H locs cells slots Qm (F0 m 556 ls []) := by
  refine lv_aload_n hx hb dL_law_556 rfl (lv_at hl 2 rfl) ?_
  refine lv_aload_n hx hb dL_law_557 rfl (lv_at hl 1 rfl) ?_
  refine lv_iload hx hb dL_law_558 (lv_at hl 0 rfl) ?_
  refine lv_iconst (v := i32 1) hx hb dL_law_560 rfl ?_
  refine q_iadd hx hb dL_law_561 ?_
  refine p_sld hx hb hX hbl hL hS (by omega) (by omega) dL_law_562 ?_
  refine lv_aload_n hx hb dL_law_563 rfl (lv_at hl 1 rfl) ?_
  refine lv_iload hx hb dL_law_564 (lv_at hl 0 rfl) ?_
  refine lv_iconst (v := i32 2) hx hb dL_law_566 rfl ?_
  refine q_iadd hx hb dL_law_567 ?_
  refine p_sld hx hb hX hbl hL hS (by omega) (by omega) dL_law_568 ?_
  refine lv_aload_n hx hb dL_law_569 rfl (lv_at hl 1 rfl) ?_
  refine lv_iload hx hb dL_law_570 (lv_at hl 0 rfl) ?_
  refine lv_iconst (v := i32 3) hx hb dL_law_572 rfl ?_
  refine q_iadd hx hb dL_law_573 ?_
  refine p_sld hx hb hX hbl hL hS (by omega) (by omega) dL_law_574 ?_
  refine q_z01 hx hb (zs_r _ _) (L1 := 582) dL_law_575 dL_law_578 dL_law_579 dL_law_582 (by decide) (by decide) ?_
  refine lv_aload_n hx hb dL_law_583 rfl (lv_at hl 4 rfl) ?_
  refine q_callH (As := [.ref (ad 1 0), .int (i32 (zs xs (i + 1))), .int (i32 (zs xs (i + 2))), .int (i32 (b2 (zs xs (i + 3) ≠ 0))), .ref (ad 3 1)]) (rest := []) hx hb hml hl.1 hown hK hZ hP hS (c_L_loom l g s.heap.size ad S (zs xs (i + 1)) (zs xs (i + 2)) (zs xs (i + 3) ≠ 0) hfl hI.wc (zs_r _ _) (zs_r _ _) hI.hcf hI.hpf hI.a3) t_369 t_33 t_371 t_370 f_yL_loom ⟨Nat.le_of_ble_eq_true rfl, Nat.le_of_ble_eq_true rfl⟩ rfl rfl (Nat.le_of_ble_eq_true rfl) dL_law_584 ⟨by show cells + 9 ≤ 601024; omega, by show slots + 793 ≤ 7293034; omega⟩ (fun r1 ad1 S1 H locs h1 hP hS => ?_)
  obtain ⟨hr1, ek1⟩ := lhP_k h1
  have e0 := lhP_0 h1 zk_loom.1
  have a3 := (lhP_3 h1 zk_loom.2).trans hI.a3
  subst hr1
  have hl : lv_has ls 7 [(4, .int (i32 i)), (0, .ref b), (1, .ref (ad1 1 0)), (2, .ref (ad1 0 0)), (3, .ref (ad1 3 1))] := by
    have t9 := hl
    rw [← ek1 1 0 (by decide), ← ek1 0 0 (by decide), ← ek1 3 1 (by decide)] at t9
    exact t9
  have al0 : S1 0 0 (-1) = 1 := by rw [e0]; exact hI.m.al
  refine lv_istore (lv' := [(5, .int (i32 (thr (ceC S (zs xs (i + 1))) (1 ≤ (zs xs (i + 2)) ∧ (zs xs (i + 2)) ≤ 4 ∧ (zs xs (i + 2)) ≤ S (4 + (zs xs (i + 1)).toNat) 0 0) (1 ≤ S (4 + (zs xs (i + 1)).toNat) 0 1 ∧ S 1 0 6 < 20)))), (4, .int (i32 i)), (0, .ref b), (1, .ref (ad1 1 0)), (2, .ref (ad1 0 0)), (3, .ref (ad1 3 1))]) hx hb dL_law_587 hl (by decide) rfl (fun ls hl => ?_)
  refine lv_aload_n hx hb dL_law_589 rfl (lv_at hl 4 rfl) ?_
  refine lv_aload_n hx hb dL_law_590 rfl (lv_at hl 2 rfl) ?_
  refine lv_iload hx hb dL_law_591 (lv_at hl 1 rfl) ?_
  refine lv_iconst (v := i32 1) hx hb dL_law_593 rfl ?_
  refine q_iadd hx hb dL_law_594 ?_
  refine p_sld hx hb hX hbl hL hS (by omega) (by omega) dL_law_595 ?_
  refine lv_aload_n hx hb dL_law_596 rfl (lv_at hl 2 rfl) ?_
  refine lv_iload hx hb dL_law_597 (lv_at hl 1 rfl) ?_
  refine lv_iconst (v := i32 2) hx hb dL_law_599 rfl ?_
  refine q_iadd hx hb dL_law_600 ?_
  refine p_sld hx hb hX hbl hL hS (by omega) (by omega) dL_law_601 ?_
  refine lv_aload_n hx hb dL_law_602 rfl (lv_at hl 2 rfl) ?_
  refine lv_iload hx hb dL_law_603 (lv_at hl 1 rfl) ?_
  refine lv_iconst (v := i32 3) hx hb dL_law_605 rfl ?_
  refine q_iadd hx hb dL_law_606 ?_
  refine p_sld hx hb hX hbl hL hS (by omega) (by omega) dL_law_607 ?_
  refine q_z01 hx hb (zs_r _ _) (L1 := 615) dL_law_608 dL_law_611 dL_law_612 dL_law_615 (by decide) (by decide) ?_
  refine q_callV (k := 0) (As := [.int (i32 (zs xs (i + 1))), .int (i32 (zs xs (i + 2))), .int (i32 (b2 (zs xs (i + 3) ≠ 0)))]) (rest := []) hx hb hml hl.1 hown hK hZ hP hS al0 rfl rfl rfl (c_X4_loom l g s.heap.size ad1 S1 (zs xs (i + 1)) (zs xs (i + 2)) (zs xs (i + 3) ≠ 0) (wM_e e0 hI.m) (zs_r _ _) (zs_r _ _)) t_844 t_845 (q_callB hK 843 36 846 t_843 t_36 t_846 f_yX4_loom ⟨Nat.le_of_ble_eq_true rfl, Nat.le_of_ble_eq_true rfl⟩) rfl rfl (Nat.le_of_ble_eq_true rfl) dL_law_616 ⟨by show cells + 9 + 0 ≤ 601024; omega, by show slots + 793 + 0 ≤ 7293034; omega⟩ (fun r2 ad2 S2 H locs h2 hP hS => ?_)
  have hG := sim_loom hI (zs_r _ _) (zs_r _ _) h1 h2
  obtain ⟨⟨b9, hr2, hcmp⟩, hth, hI2, ek2⟩ := hG
  subst hr2
  have ek : ∀ x q, x < 4 → ad1 x q = ad2 x q := fun x q h => (ek1 x q h).trans (ek2 x q h).symm
  have hl : lv_has ls 7 [(5, .int (i32 (thr (ceC S (zs xs (i + 1))) (1 ≤ (zs xs (i + 2)) ∧ (zs xs (i + 2)) ≤ 4 ∧ (zs xs (i + 2)) ≤ S (4 + (zs xs (i + 1)).toNat) 0 0) (1 ≤ S (4 + (zs xs (i + 1)).toNat) 0 1 ∧ S 1 0 6 < 20)))), (4, .int (i32 i)), (0, .ref b), (1, .ref (ad2 1 0)), (2, .ref (ad2 0 0)), (3, .ref (ad2 3 1))] := by
    have t9 := hl
    rw [ek 1 0 (by decide), ek 0 0 (by decide), ek 3 1 (by decide)] at t9
    exact t9
  refine lv_istore (lv' := [(6, .int (i32 b9)), (5, .int (i32 (thr (ceC S (zs xs (i + 1))) (1 ≤ (zs xs (i + 2)) ∧ (zs xs (i + 2)) ≤ 4 ∧ (zs xs (i + 2)) ≤ S (4 + (zs xs (i + 1)).toNat) 0 0) (1 ≤ S (4 + (zs xs (i + 1)).toNat) 0 1 ∧ S 1 0 6 < 20)))), (4, .int (i32 i)), (0, .ref b), (1, .ref (ad2 1 0)), (2, .ref (ad2 0 0)), (3, .ref (ad2 3 1))]) hx hb dL_law_619 hl (by decide) rfl (fun ls hl => ?_)
  refine lv_aload_n hx hb dL_law_621 rfl (lv_at hl 5 rfl) ?_
  refine q_callV (k := 0) (As := []) (rest := []) hx hb hml hl.1 hown hK hZ hP hS hI2.m.al rfl rfl rfl (c_X4_thrown l g s.heap.size ad2 S2 hI2.m.al) t_784 t_785 (q_callB hK 783 36 786 t_783 t_36 t_786 f_yX4_thrown ⟨Nat.le_of_ble_eq_true rfl, Nat.le_of_ble_eq_true rfl⟩) rfl rfl (Nat.le_of_ble_eq_true rfl) dL_law_622 ⟨by show cells + 9 + 0 + 0 ≤ 601024; omega, by show slots + 793 + 0 + 0 ≤ 7293034; omega⟩ (q_an (fun H locs hP hS => ?_))
  refine lv_iload hx hb dL_law_625 (lv_at hl 1 rfl) ?_
  refine q_icmp_eq (tgt := 632) hx hb (hP.rg 0 0 27) (thr_rng _ _ _) dL_law_627 (by decide) (fun _ => ?_) (fun h => absurd hth h)
  refine lv_iload hx hb dL_law_632 (lv_at hl 1 rfl) ?_
  refine q_if_ne (tgt := 649) hx hb (thr_rng _ _ _) dL_law_634 (by decide) (fun hk9 => ?_) (fun hk9 => ?_)
  · refine lv_goto (tgt := 1434) hx hb dL_law_649 (by decide) ?_
    refine W.widen (k := cells + 20) (n := slots + 1000) (by show cells + 9 + 0 + 0 ≤ cells + 20; omega) (by show slots + 793 + 0 + 0 ≤ slots + 1000; omega) ?_
    exact kont ad2 _ H locs ls hI2 ek2 hP hS (lv_sub hl [2, 3, 4, 5, 6] rfl)
  · refine lv_aload_n hx hb dL_law_637 rfl (lv_at hl 6 rfl) ?_
    refine lv_iconst (v := i32 0) hx hb dL_law_638 rfl ?_
    refine p_lald (o := 3) (r := 1) (k := 3) (n := 1) (z := 0) hx hb hK hP hI2.a3 rfl rfl (by decide) (by decide) (by decide) (by decide) dL_law_639 ?_
    refine lv_iload hx hb dL_law_640 (lv_at hl 0 rfl) ?_
    refine lv_i2l hx hb dL_law_642 (wr_64 _) ?_
    refine q_lcmp0 hx hb (hcmp hk9) dL_law_643 ?_
    refine q_if_eq (a := 0) (tgt := 649) hx hb rng_0 dL_law_644 (by decide) (fun _ => ?_) (fun h => absurd rfl h)
    refine lv_goto (tgt := 1434) hx hb dL_law_649 (by decide) ?_
    refine W.widen (k := cells + 20) (n := slots + 1000) (by show cells + 9 + 0 + 0 ≤ cells + 20; omega) (by show slots + 793 + 0 + 0 ≤ slots + 1000; omega) ?_
    exact kont ad2 _ H locs ls hI2 ek2 hP hS (lv_sub hl [2, 3, 4, 5, 6] rfl)

set_option maxHeartbeats 4000000 in
set_option maxRecDepth 100000 in
theorem lc_weave {p : Program} {l : Launch} {e : Env} {s : State} {m : MethodId} {below : List Frame} {meth : Method} {c : Code} {args : Array Value} {Qm : State → Prop} {g : GT} {b L : Nat} {xs : Nat → Int32} (hfl : l.stackTraces = false) (hx : p.tables.exec = Jvm.exec) (hb : c.code = cL_law) (hml : c.maxLocals = 7) (hown : s.vm.findClass RL = some m.cls) (hK : KK g s) (hZ : ZZ s.heap.size s s.heap) (hX : va_X b L xs s s.heap) (hbl : b < s.heap.size) (hL : L ≤ 2560) {ad : Nat → Nat → Nat} {S : St} {H : Heap} {locs : List Loc} {ls : Array Slot} {i : Int} {cells slots : Nat} (hI : Inv S) (hi : 0 ≤ i ∧ i + 5 ≤ L) (hP : pic g s.heap.size ad S H) (hS : va_S (fun q => s.heap.size ≤ q) s.heap H locs) (hl : lv_has ls 7 [(4, .int (i32 i)), (0, .ref b), (1, .ref (ad 1 0)), (2, .ref (ad 0 0)), (3, .ref (ad 3 1))]) (hc : cells + 20 ≤ 601024 ∧ slots + 1000 ≤ 7293034)
    (kont : ∀ (ad' : Nat → Nat → Nat) (S' : St) (H : Heap) (locs : List Loc) (ls : Array Slot), Inv S' → (∀ x q, x < 4 → ad' x q = ad x q) → pic g s.heap.size ad' S' H → va_S (fun q => s.heap.size ≤ q) s.heap H locs → lv_has ls 7 [(4, .int (i32 i)), (0, .ref b), (1, .ref (ad' 1 0)), (2, .ref (ad' 0 0)), (3, .ref (ad' 3 1))] → W p l e room_1 s m args below meth c H locs (cells + 20) (slots + 1000) Qm (F0 m 1434 ls [])) :
    W p l e room_1 s m args below meth c H locs cells slots Qm (F0 m 652 ls []) := by
  refine lv_aload_n hx hb dL_law_652 rfl (lv_at hl 2 rfl) ?_
  refine lv_aload_n hx hb dL_law_653 rfl (lv_at hl 1 rfl) ?_
  refine lv_iload hx hb dL_law_654 (lv_at hl 0 rfl) ?_
  refine lv_iconst (v := i32 1) hx hb dL_law_656 rfl ?_
  refine q_iadd hx hb dL_law_657 ?_
  refine p_sld hx hb hX hbl hL hS (by omega) (by omega) dL_law_658 ?_
  refine lv_aload_n hx hb dL_law_659 rfl (lv_at hl 1 rfl) ?_
  refine lv_iload hx hb dL_law_660 (lv_at hl 0 rfl) ?_
  refine lv_iconst (v := i32 2) hx hb dL_law_662 rfl ?_
  refine q_iadd hx hb dL_law_663 ?_
  refine p_sld hx hb hX hbl hL hS (by omega) (by omega) dL_law_664 ?_
  refine lv_aload_n hx hb dL_law_665 rfl (lv_at hl 4 rfl) ?_
  refine q_callH (As := [.ref (ad 1 0), .int (i32 (zs xs (i + 1))), .int (i32 (zs xs (i + 2))), .ref (ad 3 1)]) (rest := []) hx hb hml hl.1 hown hK hZ hP hS (c_L_weave l g s.heap.size ad S (zs xs (i + 1)) (zs xs (i + 2)) hfl hI.wc (zs_r _ _) (zs_r _ _) hI.a3) t_432 t_33 t_434 t_433 f_yL_weave ⟨Nat.le_of_ble_eq_true rfl, Nat.le_of_ble_eq_true rfl⟩ rfl rfl (Nat.le_of_ble_eq_true rfl) dL_law_666 ⟨by show cells + 2 ≤ 601024; omega, by show slots + 12 ≤ 7293034; omega⟩ (fun r1 ad1 S1 H locs h1 hP hS => ?_)
  obtain ⟨hr1, ek1⟩ := lhP_k h1
  have e0 := lhP_0 h1 zk_weave.1
  have a3 := (lhP_3 h1 zk_weave.2).trans hI.a3
  subst hr1
  have hl : lv_has ls 7 [(4, .int (i32 i)), (0, .ref b), (1, .ref (ad1 1 0)), (2, .ref (ad1 0 0)), (3, .ref (ad1 3 1))] := by
    have t9 := hl
    rw [← ek1 1 0 (by decide), ← ek1 0 0 (by decide), ← ek1 3 1 (by decide)] at t9
    exact t9
  have al0 : S1 0 0 (-1) = 1 := by rw [e0]; exact hI.m.al
  refine lv_istore (lv' := [(5, .int (i32 (thr (peC S (zs xs (i + 1)) ∧ (0 ≤ (zs xs (i + 2)) ∧ (zs xs (i + 2)) < S (10 + (zs xs (i + 1)).toNat) 0 2)) (maC S (10 + (zs xs (i + 1)).toNat) (zs xs (i + 2)) ∧ tsC S (10 + (zs xs (i + 1)).toNat) (zs xs (i + 2))) (True)))), (4, .int (i32 i)), (0, .ref b), (1, .ref (ad1 1 0)), (2, .ref (ad1 0 0)), (3, .ref (ad1 3 1))]) hx hb dL_law_669 hl (by decide) rfl (fun ls hl => ?_)
  refine lv_aload_n hx hb dL_law_671 rfl (lv_at hl 4 rfl) ?_
  refine lv_aload_n hx hb dL_law_672 rfl (lv_at hl 2 rfl) ?_
  refine lv_iload hx hb dL_law_673 (lv_at hl 1 rfl) ?_
  refine lv_iconst (v := i32 1) hx hb dL_law_675 rfl ?_
  refine q_iadd hx hb dL_law_676 ?_
  refine p_sld hx hb hX hbl hL hS (by omega) (by omega) dL_law_677 ?_
  refine lv_aload_n hx hb dL_law_678 rfl (lv_at hl 2 rfl) ?_
  refine lv_iload hx hb dL_law_679 (lv_at hl 1 rfl) ?_
  refine lv_iconst (v := i32 2) hx hb dL_law_681 rfl ?_
  refine q_iadd hx hb dL_law_682 ?_
  refine p_sld hx hb hX hbl hL hS (by omega) (by omega) dL_law_683 ?_
  refine q_callV (k := 0) (As := [.int (i32 (zs xs (i + 1))), .int (i32 (zs xs (i + 2)))]) (rest := []) hx hb hml hl.1 hown hK hZ hP hS al0 rfl rfl rfl (c_X4_weave l g s.heap.size ad1 S1 (zs xs (i + 1)) (zs xs (i + 2)) (wM_e e0 hI.m) (zs_r _ _) (zs_r _ _) (by rw [e0]; exact hI.hla) (by unfold isP; rw [e0]; exact hI.hun _ _)) t_856 t_857 (q_callB hK 855 36 858 t_855 t_36 t_858 f_yX4_weave ⟨Nat.le_of_ble_eq_true rfl, Nat.le_of_ble_eq_true rfl⟩) rfl rfl (Nat.le_of_ble_eq_true rfl) dL_law_684 ⟨by show cells + 2 + 0 ≤ 601024; omega, by show slots + 12 + 0 ≤ 7293034; omega⟩ (fun r2 ad2 S2 H locs h2 hP hS => ?_)
  have hG := sim_weave hI (zs_r _ _) (zs_r _ _) h1 h2
  obtain ⟨⟨b9, hr2, hcmp⟩, hth, hI2, ek2⟩ := hG
  subst hr2
  have ek : ∀ x q, x < 4 → ad1 x q = ad2 x q := fun x q h => (ek1 x q h).trans (ek2 x q h).symm
  have hl : lv_has ls 7 [(5, .int (i32 (thr (peC S (zs xs (i + 1)) ∧ (0 ≤ (zs xs (i + 2)) ∧ (zs xs (i + 2)) < S (10 + (zs xs (i + 1)).toNat) 0 2)) (maC S (10 + (zs xs (i + 1)).toNat) (zs xs (i + 2)) ∧ tsC S (10 + (zs xs (i + 1)).toNat) (zs xs (i + 2))) (True)))), (4, .int (i32 i)), (0, .ref b), (1, .ref (ad2 1 0)), (2, .ref (ad2 0 0)), (3, .ref (ad2 3 1))] := by
    have t9 := hl
    rw [ek 1 0 (by decide), ek 0 0 (by decide), ek 3 1 (by decide)] at t9
    exact t9
  refine lv_istore (lv' := [(6, .int (i32 b9)), (5, .int (i32 (thr (peC S (zs xs (i + 1)) ∧ (0 ≤ (zs xs (i + 2)) ∧ (zs xs (i + 2)) < S (10 + (zs xs (i + 1)).toNat) 0 2)) (maC S (10 + (zs xs (i + 1)).toNat) (zs xs (i + 2)) ∧ tsC S (10 + (zs xs (i + 1)).toNat) (zs xs (i + 2))) (True)))), (4, .int (i32 i)), (0, .ref b), (1, .ref (ad2 1 0)), (2, .ref (ad2 0 0)), (3, .ref (ad2 3 1))]) hx hb dL_law_687 hl (by decide) rfl (fun ls hl => ?_)
  refine lv_aload_n hx hb dL_law_689 rfl (lv_at hl 5 rfl) ?_
  refine q_callV (k := 0) (As := []) (rest := []) hx hb hml hl.1 hown hK hZ hP hS hI2.m.al rfl rfl rfl (c_X4_thrown l g s.heap.size ad2 S2 hI2.m.al) t_784 t_785 (q_callB hK 783 36 786 t_783 t_36 t_786 f_yX4_thrown ⟨Nat.le_of_ble_eq_true rfl, Nat.le_of_ble_eq_true rfl⟩) rfl rfl (Nat.le_of_ble_eq_true rfl) dL_law_690 ⟨by show cells + 2 + 0 + 0 ≤ 601024; omega, by show slots + 12 + 0 + 0 ≤ 7293034; omega⟩ (q_an (fun H locs hP hS => ?_))
  refine lv_iload hx hb dL_law_693 (lv_at hl 1 rfl) ?_
  refine q_icmp_eq (tgt := 700) hx hb (hP.rg 0 0 27) (thr_rng _ _ _) dL_law_695 (by decide) (fun _ => ?_) (fun h => absurd hth h)
  refine lv_iload hx hb dL_law_700 (lv_at hl 1 rfl) ?_
  refine q_if_ne (tgt := 717) hx hb (thr_rng _ _ _) dL_law_702 (by decide) (fun hk9 => ?_) (fun hk9 => ?_)
  · refine lv_goto (tgt := 1434) hx hb dL_law_717 (by decide) ?_
    refine W.widen (k := cells + 20) (n := slots + 1000) (by show cells + 2 + 0 + 0 ≤ cells + 20; omega) (by show slots + 12 + 0 + 0 ≤ slots + 1000; omega) ?_
    exact kont ad2 _ H locs ls hI2 ek2 hP hS (lv_sub hl [2, 3, 4, 5, 6] rfl)
  · refine lv_aload_n hx hb dL_law_705 rfl (lv_at hl 6 rfl) ?_
    refine lv_iconst (v := i32 0) hx hb dL_law_706 rfl ?_
    refine p_lald (o := 3) (r := 1) (k := 3) (n := 1) (z := 0) hx hb hK hP hI2.a3 rfl rfl (by decide) (by decide) (by decide) (by decide) dL_law_707 ?_
    refine lv_iload hx hb dL_law_708 (lv_at hl 0 rfl) ?_
    refine lv_i2l hx hb dL_law_710 (wr_64 _) ?_
    refine q_lcmp0 hx hb (hcmp hk9) dL_law_711 ?_
    refine q_if_eq (a := 0) (tgt := 717) hx hb rng_0 dL_law_712 (by decide) (fun _ => ?_) (fun h => absurd rfl h)
    refine lv_goto (tgt := 1434) hx hb dL_law_717 (by decide) ?_
    refine W.widen (k := cells + 20) (n := slots + 1000) (by show cells + 2 + 0 + 0 ≤ cells + 20; omega) (by show slots + 12 + 0 + 0 ≤ slots + 1000; omega) ?_
    exact kont ad2 _ H locs ls hI2 ek2 hP hS (lv_sub hl [2, 3, 4, 5, 6] rfl)

set_option maxHeartbeats 4000000 in
set_option maxRecDepth 100000 in
theorem lc_pieceIs {p : Program} {l : Launch} {e : Env} {s : State} {m : MethodId} {below : List Frame} {meth : Method} {c : Code} {args : Array Value} {Qm : State → Prop} {g : GT} {b L : Nat} {xs : Nat → Int32} (hfl : l.stackTraces = false) (hx : p.tables.exec = Jvm.exec) (hb : c.code = cL_law) (hml : c.maxLocals = 7) (hown : s.vm.findClass RL = some m.cls) (hK : KK g s) (hZ : ZZ s.heap.size s s.heap) (hX : va_X b L xs s s.heap) (hbl : b < s.heap.size) (hL : L ≤ 2560) {ad : Nat → Nat → Nat} {S : St} {H : Heap} {locs : List Loc} {ls : Array Slot} {i : Int} {cells slots : Nat} (hI : Inv S) (hi : 0 ≤ i ∧ i + 5 ≤ L) (hP : pic g s.heap.size ad S H) (hS : va_S (fun q => s.heap.size ≤ q) s.heap H locs) (hl : lv_has ls 7 [(4, .int (i32 i)), (0, .ref b), (1, .ref (ad 1 0)), (2, .ref (ad 0 0)), (3, .ref (ad 3 1))]) (hc : cells + 20 ≤ 601024 ∧ slots + 1000 ≤ 7293034)
    (kont : ∀ (ad' : Nat → Nat → Nat) (S' : St) (H : Heap) (locs : List Loc) (ls : Array Slot), Inv S' → (∀ x q, x < 4 → ad' x q = ad x q) → pic g s.heap.size ad' S' H → va_S (fun q => s.heap.size ≤ q) s.heap H locs → lv_has ls 7 [(4, .int (i32 i)), (0, .ref b), (1, .ref (ad' 1 0)), (2, .ref (ad' 0 0)), (3, .ref (ad' 3 1))] → W p l e room_1 s m args below meth c H locs (cells + 20) (slots + 1000) Qm (F0 m 1434 ls [])) :
    W p l e room_1 s m args below meth c H locs cells slots Qm (F0 m 720 ls []) := by
  refine lv_aload_n hx hb dL_law_720 rfl (lv_at hl 2 rfl) ?_
  refine lv_aload_n hx hb dL_law_721 rfl (lv_at hl 1 rfl) ?_
  refine lv_iload hx hb dL_law_722 (lv_at hl 0 rfl) ?_
  refine lv_iconst (v := i32 1) hx hb dL_law_724 rfl ?_
  refine q_iadd hx hb dL_law_725 ?_
  refine p_sld hx hb hX hbl hL hS (by omega) (by omega) dL_law_726 ?_
  refine lv_aload_n hx hb dL_law_727 rfl (lv_at hl 1 rfl) ?_
  refine lv_iload hx hb dL_law_728 (lv_at hl 0 rfl) ?_
  refine lv_iconst (v := i32 2) hx hb dL_law_730 rfl ?_
  refine q_iadd hx hb dL_law_731 ?_
  refine p_sld hx hb hX hbl hL hS (by omega) (by omega) dL_law_732 ?_
  refine lv_aload_n hx hb dL_law_733 rfl (lv_at hl 4 rfl) ?_
  refine q_callH (As := [.ref (ad 1 0), .int (i32 (zs xs (i + 1))), .int (i32 (zs xs (i + 2))), .ref (ad 3 1)]) (rest := []) hx hb hml hl.1 hown hK hZ hP hS (c_L_pieceIs l g s.heap.size ad S (zs xs (i + 1)) (zs xs (i + 2)) hfl hI.wc (zs_r _ _) (zs_r _ _) hI.a3) t_485 t_33 t_487 t_486 f_yL_pieceIs ⟨Nat.le_of_ble_eq_true rfl, Nat.le_of_ble_eq_true rfl⟩ rfl rfl (Nat.le_of_ble_eq_true rfl) dL_law_734 ⟨by show cells + 2 ≤ 601024; omega, by show slots + 12 ≤ 7293034; omega⟩ (fun r1 ad1 S1 H locs h1 hP hS => ?_)
  obtain ⟨hr1, ek1⟩ := lhP_k h1
  have e0 := lhP_0 h1 zk_pieceIs.1
  have a3 := (lhP_3 h1 zk_pieceIs.2).trans hI.a3
  subst hr1
  have hl : lv_has ls 7 [(4, .int (i32 i)), (0, .ref b), (1, .ref (ad1 1 0)), (2, .ref (ad1 0 0)), (3, .ref (ad1 3 1))] := by
    have t9 := hl
    rw [← ek1 1 0 (by decide), ← ek1 0 0 (by decide), ← ek1 3 1 (by decide)] at t9
    exact t9
  have al0 : S1 0 0 (-1) = 1 := by rw [e0]; exact hI.m.al
  refine lv_istore (lv' := [(5, .int (i32 (thr (peC S (zs xs (i + 1))) (0 ≤ (zs xs (i + 2)) ∧ (zs xs (i + 2)) < 6) (True)))), (4, .int (i32 i)), (0, .ref b), (1, .ref (ad1 1 0)), (2, .ref (ad1 0 0)), (3, .ref (ad1 3 1))]) hx hb dL_law_737 hl (by decide) rfl (fun ls hl => ?_)
  refine lv_aload_n hx hb dL_law_739 rfl (lv_at hl 4 rfl) ?_
  refine lv_aload_n hx hb dL_law_740 rfl (lv_at hl 2 rfl) ?_
  refine lv_iload hx hb dL_law_741 (lv_at hl 1 rfl) ?_
  refine lv_iconst (v := i32 1) hx hb dL_law_743 rfl ?_
  refine q_iadd hx hb dL_law_744 ?_
  refine p_sld hx hb hX hbl hL hS (by omega) (by omega) dL_law_745 ?_
  refine lv_aload_n hx hb dL_law_746 rfl (lv_at hl 2 rfl) ?_
  refine lv_iload hx hb dL_law_747 (lv_at hl 1 rfl) ?_
  refine lv_iconst (v := i32 2) hx hb dL_law_749 rfl ?_
  refine q_iadd hx hb dL_law_750 ?_
  refine p_sld hx hb hX hbl hL hS (by omega) (by omega) dL_law_751 ?_
  refine q_callV (k := 0) (As := [.int (i32 (zs xs (i + 1))), .int (i32 (zs xs (i + 2)))]) (rest := []) hx hb hml hl.1 hown hK hZ hP hS al0 rfl rfl rfl (c_X4_pieceIs l g s.heap.size ad1 S1 (zs xs (i + 1)) (zs xs (i + 2)) (wM_e e0 hI.m) (zs_r _ _) (zs_r _ _)) t_876 t_877 (q_callB hK 875 36 878 t_875 t_36 t_878 f_yX4_pieceIs ⟨Nat.le_of_ble_eq_true rfl, Nat.le_of_ble_eq_true rfl⟩) rfl rfl (Nat.le_of_ble_eq_true rfl) dL_law_752 ⟨by show cells + 2 + 0 ≤ 601024; omega, by show slots + 12 + 0 ≤ 7293034; omega⟩ (fun r2 ad2 S2 H locs h2 hP hS => ?_)
  have hG := sim_pieceIs hI (zs_r _ _) (zs_r _ _) h1 h2
  obtain ⟨⟨b9, hr2, hcmp⟩, hth, hI2, ek2⟩ := hG
  subst hr2
  have ek : ∀ x q, x < 4 → ad1 x q = ad2 x q := fun x q h => (ek1 x q h).trans (ek2 x q h).symm
  have hl : lv_has ls 7 [(5, .int (i32 (thr (peC S (zs xs (i + 1))) (0 ≤ (zs xs (i + 2)) ∧ (zs xs (i + 2)) < 6) (True)))), (4, .int (i32 i)), (0, .ref b), (1, .ref (ad2 1 0)), (2, .ref (ad2 0 0)), (3, .ref (ad2 3 1))] := by
    have t9 := hl
    rw [ek 1 0 (by decide), ek 0 0 (by decide), ek 3 1 (by decide)] at t9
    exact t9
  refine lv_istore (lv' := [(6, .int (i32 b9)), (5, .int (i32 (thr (peC S (zs xs (i + 1))) (0 ≤ (zs xs (i + 2)) ∧ (zs xs (i + 2)) < 6) (True)))), (4, .int (i32 i)), (0, .ref b), (1, .ref (ad2 1 0)), (2, .ref (ad2 0 0)), (3, .ref (ad2 3 1))]) hx hb dL_law_755 hl (by decide) rfl (fun ls hl => ?_)
  refine lv_aload_n hx hb dL_law_757 rfl (lv_at hl 5 rfl) ?_
  refine q_callV (k := 0) (As := []) (rest := []) hx hb hml hl.1 hown hK hZ hP hS hI2.m.al rfl rfl rfl (c_X4_thrown l g s.heap.size ad2 S2 hI2.m.al) t_784 t_785 (q_callB hK 783 36 786 t_783 t_36 t_786 f_yX4_thrown ⟨Nat.le_of_ble_eq_true rfl, Nat.le_of_ble_eq_true rfl⟩) rfl rfl (Nat.le_of_ble_eq_true rfl) dL_law_758 ⟨by show cells + 2 + 0 + 0 ≤ 601024; omega, by show slots + 12 + 0 + 0 ≤ 7293034; omega⟩ (q_an (fun H locs hP hS => ?_))
  refine lv_iload hx hb dL_law_761 (lv_at hl 1 rfl) ?_
  refine q_icmp_eq (tgt := 768) hx hb (hP.rg 0 0 27) (thr_rng _ _ _) dL_law_763 (by decide) (fun _ => ?_) (fun h => absurd hth h)
  refine lv_iload hx hb dL_law_768 (lv_at hl 1 rfl) ?_
  refine q_if_ne (tgt := 785) hx hb (thr_rng _ _ _) dL_law_770 (by decide) (fun hk9 => ?_) (fun hk9 => ?_)
  · refine lv_goto (tgt := 1434) hx hb dL_law_785 (by decide) ?_
    refine W.widen (k := cells + 20) (n := slots + 1000) (by show cells + 2 + 0 + 0 ≤ cells + 20; omega) (by show slots + 12 + 0 + 0 ≤ slots + 1000; omega) ?_
    exact kont ad2 _ H locs ls hI2 ek2 hP hS (lv_sub hl [2, 3, 4, 5, 6] rfl)
  · refine lv_aload_n hx hb dL_law_773 rfl (lv_at hl 6 rfl) ?_
    refine lv_iconst (v := i32 0) hx hb dL_law_774 rfl ?_
    refine p_lald (o := 3) (r := 1) (k := 3) (n := 1) (z := 0) hx hb hK hP hI2.a3 rfl rfl (by decide) (by decide) (by decide) (by decide) dL_law_775 ?_
    refine lv_iload hx hb dL_law_776 (lv_at hl 0 rfl) ?_
    refine lv_i2l hx hb dL_law_778 (wr_64 _) ?_
    refine q_lcmp0 hx hb (hcmp hk9) dL_law_779 ?_
    refine q_if_eq (a := 0) (tgt := 785) hx hb rng_0 dL_law_780 (by decide) (fun _ => ?_) (fun h => absurd rfl h)
    refine lv_goto (tgt := 1434) hx hb dL_law_785 (by decide) ?_
    refine W.widen (k := cells + 20) (n := slots + 1000) (by show cells + 2 + 0 + 0 ≤ cells + 20; omega) (by show slots + 12 + 0 + 0 ≤ slots + 1000; omega) ?_
    exact kont ad2 _ H locs ls hI2 ek2 hP hS (lv_sub hl [2, 3, 4, 5, 6] rfl)

set_option maxHeartbeats 4000000 in
set_option maxRecDepth 100000 in
theorem lc_cell {p : Program} {l : Launch} {e : Env} {s : State} {m : MethodId} {below : List Frame} {meth : Method} {c : Code} {args : Array Value} {Qm : State → Prop} {g : GT} {b L : Nat} {xs : Nat → Int32} (hfl : l.stackTraces = false) (hx : p.tables.exec = Jvm.exec) (hb : c.code = cL_law) (hml : c.maxLocals = 7) (hown : s.vm.findClass RL = some m.cls) (hK : KK g s) (hZ : ZZ s.heap.size s s.heap) (hX : va_X b L xs s s.heap) (hbl : b < s.heap.size) (hL : L ≤ 2560) {ad : Nat → Nat → Nat} {S : St} {H : Heap} {locs : List Loc} {ls : Array Slot} {i : Int} {cells slots : Nat} (hI : Inv S) (hi : 0 ≤ i ∧ i + 5 ≤ L) (hP : pic g s.heap.size ad S H) (hS : va_S (fun q => s.heap.size ≤ q) s.heap H locs) (hl : lv_has ls 7 [(4, .int (i32 i)), (0, .ref b), (1, .ref (ad 1 0)), (2, .ref (ad 0 0)), (3, .ref (ad 3 1))]) (hc : cells + 20 ≤ 601024 ∧ slots + 1000 ≤ 7293034)
    (kont : ∀ (ad' : Nat → Nat → Nat) (S' : St) (H : Heap) (locs : List Loc) (ls : Array Slot), Inv S' → (∀ x q, x < 4 → ad' x q = ad x q) → pic g s.heap.size ad' S' H → va_S (fun q => s.heap.size ≤ q) s.heap H locs → lv_has ls 7 [(4, .int (i32 i)), (0, .ref b), (1, .ref (ad' 1 0)), (2, .ref (ad' 0 0)), (3, .ref (ad' 3 1))] → W p l e room_1 s m args below meth c H locs (cells + 20) (slots + 1000) Qm (F0 m 1434 ls [])) :
    W p l e room_1 s m args below meth c H locs cells slots Qm (F0 m 788 ls []) := by
  refine lv_aload_n hx hb dL_law_788 rfl (lv_at hl 2 rfl) ?_
  refine lv_aload_n hx hb dL_law_789 rfl (lv_at hl 1 rfl) ?_
  refine lv_iload hx hb dL_law_790 (lv_at hl 0 rfl) ?_
  refine lv_iconst (v := i32 1) hx hb dL_law_792 rfl ?_
  refine q_iadd hx hb dL_law_793 ?_
  refine p_sld hx hb hX hbl hL hS (by omega) (by omega) dL_law_794 ?_
  refine lv_aload_n hx hb dL_law_795 rfl (lv_at hl 1 rfl) ?_
  refine lv_iload hx hb dL_law_796 (lv_at hl 0 rfl) ?_
  refine lv_iconst (v := i32 2) hx hb dL_law_798 rfl ?_
  refine q_iadd hx hb dL_law_799 ?_
  refine p_sld hx hb hX hbl hL hS (by omega) (by omega) dL_law_800 ?_
  refine lv_aload_n hx hb dL_law_801 rfl (lv_at hl 1 rfl) ?_
  refine lv_iload hx hb dL_law_802 (lv_at hl 0 rfl) ?_
  refine lv_iconst (v := i32 3) hx hb dL_law_804 rfl ?_
  refine q_iadd hx hb dL_law_805 ?_
  refine p_sld hx hb hX hbl hL hS (by omega) (by omega) dL_law_806 ?_
  refine lv_aload_n hx hb dL_law_807 rfl (lv_at hl 1 rfl) ?_
  refine lv_iload hx hb dL_law_808 (lv_at hl 0 rfl) ?_
  refine lv_iconst (v := i32 4) hx hb dL_law_810 rfl ?_
  refine q_iadd hx hb dL_law_811 ?_
  refine p_sld hx hb hX hbl hL hS (by omega) (by omega) dL_law_812 ?_
  refine lv_aload_n hx hb dL_law_813 rfl (lv_at hl 4 rfl) ?_
  refine q_callH (As := [.ref (ad 1 0), .int (i32 (zs xs (i + 1))), .int (i32 (zs xs (i + 2))), .int (i32 (zs xs (i + 3))), .int (i32 (zs xs (i + 4))), .ref (ad 3 1)]) (rest := []) hx hb hml hl.1 hown hK hZ hP hS (c_L_cell l g s.heap.size ad S (zs xs (i + 1)) (zs xs (i + 2)) (zs xs (i + 3)) (zs xs (i + 4)) hfl hI.wc (zs_r _ _) (zs_r _ _) (zs_r _ _) (zs_r _ _) hI.a3) t_537 t_33 t_539 t_538 f_yL_cell ⟨Nat.le_of_ble_eq_true rfl, Nat.le_of_ble_eq_true rfl⟩ rfl rfl (Nat.le_of_ble_eq_true rfl) dL_law_814 ⟨by show cells + 2 ≤ 601024; omega, by show slots + 12 ≤ 7293034; omega⟩ (fun r1 ad1 S1 H locs h1 hP hS => ?_)
  obtain ⟨hr1, ek1⟩ := lhP_k h1
  have e0 := lhP_0 h1 zk_cell.1
  have a3 := (lhP_3 h1 zk_cell.2).trans hI.a3
  subst hr1
  have hl : lv_has ls 7 [(4, .int (i32 i)), (0, .ref b), (1, .ref (ad1 1 0)), (2, .ref (ad1 0 0)), (3, .ref (ad1 3 1))] := by
    have t9 := hl
    rw [← ek1 1 0 (by decide), ← ek1 0 0 (by decide), ← ek1 3 1 (by decide)] at t9
    exact t9
  have al0 : S1 0 0 (-1) = 1 := by rw [e0]; exact hI.m.al
  refine lv_istore (lv' := [(5, .int (i32 (thr (peC S (zs xs (i + 1)) ∧ (0 ≤ (zs xs (i + 2)) ∧ (zs xs (i + 2)) < S (10 + (zs xs (i + 1)).toNat) 0 1 ∧ 0 ≤ (zs xs (i + 3)) ∧ (zs xs (i + 3)) < S (10 + (zs xs (i + 1)).toNat) 0 0)) (0 ≤ (zs xs (i + 4)) ∧ (zs xs (i + 4)) < 3) (True)))), (4, .int (i32 i)), (0, .ref b), (1, .ref (ad1 1 0)), (2, .ref (ad1 0 0)), (3, .ref (ad1 3 1))]) hx hb dL_law_817 hl (by decide) rfl (fun ls hl => ?_)
  refine lv_aload_n hx hb dL_law_819 rfl (lv_at hl 4 rfl) ?_
  refine lv_aload_n hx hb dL_law_820 rfl (lv_at hl 2 rfl) ?_
  refine lv_iload hx hb dL_law_821 (lv_at hl 1 rfl) ?_
  refine lv_iconst (v := i32 1) hx hb dL_law_823 rfl ?_
  refine q_iadd hx hb dL_law_824 ?_
  refine p_sld hx hb hX hbl hL hS (by omega) (by omega) dL_law_825 ?_
  refine lv_aload_n hx hb dL_law_826 rfl (lv_at hl 2 rfl) ?_
  refine lv_iload hx hb dL_law_827 (lv_at hl 1 rfl) ?_
  refine lv_iconst (v := i32 2) hx hb dL_law_829 rfl ?_
  refine q_iadd hx hb dL_law_830 ?_
  refine p_sld hx hb hX hbl hL hS (by omega) (by omega) dL_law_831 ?_
  refine lv_aload_n hx hb dL_law_832 rfl (lv_at hl 2 rfl) ?_
  refine lv_iload hx hb dL_law_833 (lv_at hl 1 rfl) ?_
  refine lv_iconst (v := i32 3) hx hb dL_law_835 rfl ?_
  refine q_iadd hx hb dL_law_836 ?_
  refine p_sld hx hb hX hbl hL hS (by omega) (by omega) dL_law_837 ?_
  refine lv_aload_n hx hb dL_law_838 rfl (lv_at hl 2 rfl) ?_
  refine lv_iload hx hb dL_law_839 (lv_at hl 1 rfl) ?_
  refine lv_iconst (v := i32 4) hx hb dL_law_841 rfl ?_
  refine q_iadd hx hb dL_law_842 ?_
  refine p_sld hx hb hX hbl hL hS (by omega) (by omega) dL_law_843 ?_
  refine q_callV (k := 0) (As := [.int (i32 (zs xs (i + 1))), .int (i32 (zs xs (i + 2))), .int (i32 (zs xs (i + 3))), .int (i32 (zs xs (i + 4)))]) (rest := []) hx hb hml hl.1 hown hK hZ hP hS al0 rfl rfl rfl (c_X4_cell l g s.heap.size ad1 S1 (zs xs (i + 1)) (zs xs (i + 2)) (zs xs (i + 3)) (zs xs (i + 4)) (wM_e e0 hI.m) (zs_r _ _) (zs_r _ _) (zs_r _ _) (zs_r _ _)) t_904 t_905 (q_callB hK 903 36 906 t_903 t_36 t_906 f_yX4_cell ⟨Nat.le_of_ble_eq_true rfl, Nat.le_of_ble_eq_true rfl⟩) rfl rfl (Nat.le_of_ble_eq_true rfl) dL_law_844 ⟨by show cells + 2 + 0 ≤ 601024; omega, by show slots + 12 + 0 ≤ 7293034; omega⟩ (fun r2 ad2 S2 H locs h2 hP hS => ?_)
  have hG := sim_cell hI (zs_r _ _) (zs_r _ _) (zs_r _ _) (zs_r _ _) h1 h2
  obtain ⟨⟨b9, hr2, hcmp⟩, hth, hI2, ek2⟩ := hG
  subst hr2
  have ek : ∀ x q, x < 4 → ad1 x q = ad2 x q := fun x q h => (ek1 x q h).trans (ek2 x q h).symm
  have hl : lv_has ls 7 [(5, .int (i32 (thr (peC S (zs xs (i + 1)) ∧ (0 ≤ (zs xs (i + 2)) ∧ (zs xs (i + 2)) < S (10 + (zs xs (i + 1)).toNat) 0 1 ∧ 0 ≤ (zs xs (i + 3)) ∧ (zs xs (i + 3)) < S (10 + (zs xs (i + 1)).toNat) 0 0)) (0 ≤ (zs xs (i + 4)) ∧ (zs xs (i + 4)) < 3) (True)))), (4, .int (i32 i)), (0, .ref b), (1, .ref (ad2 1 0)), (2, .ref (ad2 0 0)), (3, .ref (ad2 3 1))] := by
    have t9 := hl
    rw [ek 1 0 (by decide), ek 0 0 (by decide), ek 3 1 (by decide)] at t9
    exact t9
  refine lv_istore (lv' := [(6, .int (i32 b9)), (5, .int (i32 (thr (peC S (zs xs (i + 1)) ∧ (0 ≤ (zs xs (i + 2)) ∧ (zs xs (i + 2)) < S (10 + (zs xs (i + 1)).toNat) 0 1 ∧ 0 ≤ (zs xs (i + 3)) ∧ (zs xs (i + 3)) < S (10 + (zs xs (i + 1)).toNat) 0 0)) (0 ≤ (zs xs (i + 4)) ∧ (zs xs (i + 4)) < 3) (True)))), (4, .int (i32 i)), (0, .ref b), (1, .ref (ad2 1 0)), (2, .ref (ad2 0 0)), (3, .ref (ad2 3 1))]) hx hb dL_law_847 hl (by decide) rfl (fun ls hl => ?_)
  refine lv_aload_n hx hb dL_law_849 rfl (lv_at hl 5 rfl) ?_
  refine q_callV (k := 0) (As := []) (rest := []) hx hb hml hl.1 hown hK hZ hP hS hI2.m.al rfl rfl rfl (c_X4_thrown l g s.heap.size ad2 S2 hI2.m.al) t_784 t_785 (q_callB hK 783 36 786 t_783 t_36 t_786 f_yX4_thrown ⟨Nat.le_of_ble_eq_true rfl, Nat.le_of_ble_eq_true rfl⟩) rfl rfl (Nat.le_of_ble_eq_true rfl) dL_law_850 ⟨by show cells + 2 + 0 + 0 ≤ 601024; omega, by show slots + 12 + 0 + 0 ≤ 7293034; omega⟩ (q_an (fun H locs hP hS => ?_))
  refine lv_iload hx hb dL_law_853 (lv_at hl 1 rfl) ?_
  refine q_icmp_eq (tgt := 860) hx hb (hP.rg 0 0 27) (thr_rng _ _ _) dL_law_855 (by decide) (fun _ => ?_) (fun h => absurd hth h)
  refine lv_iload hx hb dL_law_860 (lv_at hl 1 rfl) ?_
  refine q_if_ne (tgt := 877) hx hb (thr_rng _ _ _) dL_law_862 (by decide) (fun hk9 => ?_) (fun hk9 => ?_)
  · refine lv_goto (tgt := 1434) hx hb dL_law_877 (by decide) ?_
    refine W.widen (k := cells + 20) (n := slots + 1000) (by show cells + 2 + 0 + 0 ≤ cells + 20; omega) (by show slots + 12 + 0 + 0 ≤ slots + 1000; omega) ?_
    exact kont ad2 _ H locs ls hI2 ek2 hP hS (lv_sub hl [2, 3, 4, 5, 6] rfl)
  · refine lv_aload_n hx hb dL_law_865 rfl (lv_at hl 6 rfl) ?_
    refine lv_iconst (v := i32 0) hx hb dL_law_866 rfl ?_
    refine p_lald (o := 3) (r := 1) (k := 3) (n := 1) (z := 0) hx hb hK hP hI2.a3 rfl rfl (by decide) (by decide) (by decide) (by decide) dL_law_867 ?_
    refine lv_iload hx hb dL_law_868 (lv_at hl 0 rfl) ?_
    refine lv_i2l hx hb dL_law_870 (wr_64 _) ?_
    refine q_lcmp0 hx hb (hcmp hk9) dL_law_871 ?_
    refine q_if_eq (a := 0) (tgt := 877) hx hb rng_0 dL_law_872 (by decide) (fun _ => ?_) (fun h => absurd rfl h)
    refine lv_goto (tgt := 1434) hx hb dL_law_877 (by decide) ?_
    refine W.widen (k := cells + 20) (n := slots + 1000) (by show cells + 2 + 0 + 0 ≤ cells + 20; omega) (by show slots + 12 + 0 + 0 ≤ slots + 1000; omega) ?_
    exact kont ad2 _ H locs ls hI2 ek2 hP hS (lv_sub hl [2, 3, 4, 5, 6] rfl)

set_option maxHeartbeats 4000000 in
set_option maxRecDepth 100000 in
theorem lc_sew {p : Program} {l : Launch} {e : Env} {s : State} {m : MethodId} {below : List Frame} {meth : Method} {c : Code} {args : Array Value} {Qm : State → Prop} {g : GT} {b L : Nat} {xs : Nat → Int32} (hfl : l.stackTraces = false) (hx : p.tables.exec = Jvm.exec) (hb : c.code = cL_law) (hml : c.maxLocals = 7) (hown : s.vm.findClass RL = some m.cls) (hK : KK g s) (hZ : ZZ s.heap.size s s.heap) (hX : va_X b L xs s s.heap) (hbl : b < s.heap.size) (hL : L ≤ 2560) {ad : Nat → Nat → Nat} {S : St} {H : Heap} {locs : List Loc} {ls : Array Slot} {i : Int} {cells slots : Nat} (hI : Inv S) (hi : 0 ≤ i ∧ i + 5 ≤ L) (hP : pic g s.heap.size ad S H) (hS : va_S (fun q => s.heap.size ≤ q) s.heap H locs) (hl : lv_has ls 7 [(4, .int (i32 i)), (0, .ref b), (1, .ref (ad 1 0)), (2, .ref (ad 0 0)), (3, .ref (ad 3 1))]) (hc : cells + 20 ≤ 601024 ∧ slots + 1000 ≤ 7293034)
    (kont : ∀ (ad' : Nat → Nat → Nat) (S' : St) (H : Heap) (locs : List Loc) (ls : Array Slot), Inv S' → (∀ x q, x < 4 → ad' x q = ad x q) → pic g s.heap.size ad' S' H → va_S (fun q => s.heap.size ≤ q) s.heap H locs → lv_has ls 7 [(4, .int (i32 i)), (0, .ref b), (1, .ref (ad' 1 0)), (2, .ref (ad' 0 0)), (3, .ref (ad' 3 1))] → W p l e room_1 s m args below meth c H locs (cells + 20) (slots + 1000) Qm (F0 m 1434 ls [])) :
    W p l e room_1 s m args below meth c H locs cells slots Qm (F0 m 880 ls []) := by
  refine lv_aload_n hx hb dL_law_880 rfl (lv_at hl 2 rfl) ?_
  refine lv_aload_n hx hb dL_law_881 rfl (lv_at hl 1 rfl) ?_
  refine lv_iload hx hb dL_law_882 (lv_at hl 0 rfl) ?_
  refine lv_iconst (v := i32 1) hx hb dL_law_884 rfl ?_
  refine q_iadd hx hb dL_law_885 ?_
  refine p_sld hx hb hX hbl hL hS (by omega) (by omega) dL_law_886 ?_
  refine lv_aload_n hx hb dL_law_887 rfl (lv_at hl 1 rfl) ?_
  refine lv_iload hx hb dL_law_888 (lv_at hl 0 rfl) ?_
  refine lv_iconst (v := i32 2) hx hb dL_law_890 rfl ?_
  refine q_iadd hx hb dL_law_891 ?_
  refine p_sld hx hb hX hbl hL hS (by omega) (by omega) dL_law_892 ?_
  refine lv_aload_n hx hb dL_law_893 rfl (lv_at hl 4 rfl) ?_
  refine q_callH (As := [.ref (ad 1 0), .int (i32 (zs xs (i + 1))), .int (i32 (zs xs (i + 2))), .ref (ad 3 1)]) (rest := []) hx hb hml hl.1 hown hK hZ hP hS (c_L_sew l g s.heap.size ad S (zs xs (i + 1)) (zs xs (i + 2)) hfl hI.wc (zs_r _ _) (zs_r _ _) hI.a3) t_553 t_33 t_555 t_554 f_yL_sew ⟨Nat.le_of_ble_eq_true rfl, Nat.le_of_ble_eq_true rfl⟩ rfl rfl (Nat.le_of_ble_eq_true rfl) dL_law_894 ⟨by show cells + 3 ≤ 601024; omega, by show slots + 18 ≤ 7293034; omega⟩ (fun r1 ad1 S1 H locs h1 hP hS => ?_)
  obtain ⟨hr1, ek1⟩ := lhP_k h1
  have e0 := lhP_0 h1 zk_sew.1
  have a3 := (lhP_3 h1 zk_sew.2).trans hI.a3
  subst hr1
  have hl : lv_has ls 7 [(4, .int (i32 i)), (0, .ref b), (1, .ref (ad1 1 0)), (2, .ref (ad1 0 0)), (3, .ref (ad1 3 1))] := by
    have t9 := hl
    rw [← ek1 1 0 (by decide), ← ek1 0 0 (by decide), ← ek1 3 1 (by decide)] at t9
    exact t9
  have al0 : S1 0 0 (-1) = 1 := by rw [e0]; exact hI.m.al
  refine lv_istore (lv' := [(5, .int (i32 (thr (peC S (zs xs (i + 1)) ∧ (1 ≤ (zs xs (i + 2)) ∧ (zs xs (i + 2)) < S (10 + (zs xs (i + 1)).toNat) 0 0)) (dnC S (10 + (zs xs (i + 1)).toNat)) (True)))), (4, .int (i32 i)), (0, .ref b), (1, .ref (ad1 1 0)), (2, .ref (ad1 0 0)), (3, .ref (ad1 3 1))]) hx hb dL_law_897 hl (by decide) rfl (fun ls hl => ?_)
  refine lv_aload_n hx hb dL_law_899 rfl (lv_at hl 4 rfl) ?_
  refine lv_aload_n hx hb dL_law_900 rfl (lv_at hl 2 rfl) ?_
  refine lv_iload hx hb dL_law_901 (lv_at hl 1 rfl) ?_
  refine lv_iconst (v := i32 1) hx hb dL_law_903 rfl ?_
  refine q_iadd hx hb dL_law_904 ?_
  refine p_sld hx hb hX hbl hL hS (by omega) (by omega) dL_law_905 ?_
  refine lv_aload_n hx hb dL_law_906 rfl (lv_at hl 2 rfl) ?_
  refine lv_iload hx hb dL_law_907 (lv_at hl 1 rfl) ?_
  refine lv_iconst (v := i32 2) hx hb dL_law_909 rfl ?_
  refine q_iadd hx hb dL_law_910 ?_
  refine p_sld hx hb hX hbl hL hS (by omega) (by omega) dL_law_911 ?_
  refine q_callV (k := 0) (As := [.int (i32 (zs xs (i + 1))), .int (i32 (zs xs (i + 2)))]) (rest := []) hx hb hml hl.1 hown hK hZ hP hS al0 rfl rfl rfl (c_X4_sew l g s.heap.size ad1 S1 (zs xs (i + 1)) (zs xs (i + 2)) (wM_e e0 hI.m) (zs_r _ _) (zs_r _ _)) t_908 t_909 (q_callB hK 907 36 910 t_907 t_36 t_910 f_yX4_sew ⟨Nat.le_of_ble_eq_true rfl, Nat.le_of_ble_eq_true rfl⟩) rfl rfl (Nat.le_of_ble_eq_true rfl) dL_law_912 ⟨by show cells + 3 + 0 ≤ 601024; omega, by show slots + 18 + 0 ≤ 7293034; omega⟩ (fun r2 ad2 S2 H locs h2 hP hS => ?_)
  have hG := sim_sew hI (zs_r _ _) (zs_r _ _) h1 h2
  obtain ⟨⟨φ9, hr2, hcmp⟩, hth, hI2, ek2⟩ := hG
  subst hr2
  have ek : ∀ x q, x < 4 → ad1 x q = ad2 x q := fun x q h => (ek1 x q h).trans (ek2 x q h).symm
  have hl : lv_has ls 7 [(5, .int (i32 (thr (peC S (zs xs (i + 1)) ∧ (1 ≤ (zs xs (i + 2)) ∧ (zs xs (i + 2)) < S (10 + (zs xs (i + 1)).toNat) 0 0)) (dnC S (10 + (zs xs (i + 1)).toNat)) (True)))), (4, .int (i32 i)), (0, .ref b), (1, .ref (ad2 1 0)), (2, .ref (ad2 0 0)), (3, .ref (ad2 3 1))] := by
    have t9 := hl
    rw [ek 1 0 (by decide), ek 0 0 (by decide), ek 3 1 (by decide)] at t9
    exact t9
  refine lv_istore (lv' := [(6, .int (i32 (b2 φ9))), (5, .int (i32 (thr (peC S (zs xs (i + 1)) ∧ (1 ≤ (zs xs (i + 2)) ∧ (zs xs (i + 2)) < S (10 + (zs xs (i + 1)).toNat) 0 0)) (dnC S (10 + (zs xs (i + 1)).toNat)) (True)))), (4, .int (i32 i)), (0, .ref b), (1, .ref (ad2 1 0)), (2, .ref (ad2 0 0)), (3, .ref (ad2 3 1))]) hx hb dL_law_915 hl (by decide) rfl (fun ls hl => ?_)
  refine lv_aload_n hx hb dL_law_917 rfl (lv_at hl 5 rfl) ?_
  refine q_callV (k := 0) (As := []) (rest := []) hx hb hml hl.1 hown hK hZ hP hS hI2.m.al rfl rfl rfl (c_X4_thrown l g s.heap.size ad2 S2 hI2.m.al) t_784 t_785 (q_callB hK 783 36 786 t_783 t_36 t_786 f_yX4_thrown ⟨Nat.le_of_ble_eq_true rfl, Nat.le_of_ble_eq_true rfl⟩) rfl rfl (Nat.le_of_ble_eq_true rfl) dL_law_918 ⟨by show cells + 3 + 0 + 0 ≤ 601024; omega, by show slots + 18 + 0 + 0 ≤ 7293034; omega⟩ (q_an (fun H locs hP hS => ?_))
  refine lv_iload hx hb dL_law_921 (lv_at hl 1 rfl) ?_
  refine q_icmp_eq (tgt := 928) hx hb (hP.rg 0 0 27) (thr_rng _ _ _) dL_law_923 (by decide) (fun _ => ?_) (fun h => absurd hth h)
  refine lv_iload hx hb dL_law_928 (lv_at hl 1 rfl) ?_
  refine q_if_ne (tgt := 952) hx hb (thr_rng _ _ _) dL_law_930 (by decide) (fun hk9 => ?_) (fun hk9 => ?_)
  · refine lv_goto (tgt := 1434) hx hb dL_law_952 (by decide) ?_
    refine W.widen (k := cells + 20) (n := slots + 1000) (by show cells + 3 + 0 + 0 ≤ cells + 20; omega) (by show slots + 18 + 0 + 0 ≤ slots + 1000; omega) ?_
    exact kont ad2 _ H locs ls hI2 ek2 hP hS (lv_sub hl [2, 3, 4, 5, 6] rfl)
  · refine lv_aload_n hx hb dL_law_933 rfl (lv_at hl 6 rfl) ?_
    refine lv_iconst (v := i32 0) hx hb dL_law_934 rfl ?_
    refine p_lald (o := 3) (r := 1) (k := 3) (n := 1) (z := 0) hx hb hK hP hI2.a3 rfl rfl (by decide) (by decide) (by decide) (by decide) dL_law_935 ?_
    refine lv_iload hx hb dL_law_936 (lv_at hl 0 rfl) ?_
    refine q_l01 hx hb (L1 := 945) dL_law_938 dL_law_941 dL_law_942 dL_law_945 (by decide) (by decide) ?_
    refine q_lcmp0 hx hb (hcmp hk9) dL_law_946 ?_
    refine q_if_eq (a := 0) (tgt := 952) hx hb rng_0 dL_law_947 (by decide) (fun _ => ?_) (fun h => absurd rfl h)
    refine lv_goto (tgt := 1434) hx hb dL_law_952 (by decide) ?_
    refine W.widen (k := cells + 20) (n := slots + 1000) (by show cells + 3 + 0 + 0 ≤ cells + 20; omega) (by show slots + 18 + 0 + 0 ≤ slots + 1000; omega) ?_
    exact kont ad2 _ H locs ls hI2 ek2 hP hS (lv_sub hl [2, 3, 4, 5, 6] rfl)

set_option maxHeartbeats 4000000 in
set_option maxRecDepth 100000 in
theorem lc_light {p : Program} {l : Launch} {e : Env} {s : State} {m : MethodId} {below : List Frame} {meth : Method} {c : Code} {args : Array Value} {Qm : State → Prop} {g : GT} {b L : Nat} {xs : Nat → Int32} (hfl : l.stackTraces = false) (hx : p.tables.exec = Jvm.exec) (hb : c.code = cL_law) (hml : c.maxLocals = 7) (hown : s.vm.findClass RL = some m.cls) (hK : KK g s) (hZ : ZZ s.heap.size s s.heap) (hX : va_X b L xs s s.heap) (hbl : b < s.heap.size) (hL : L ≤ 2560) {ad : Nat → Nat → Nat} {S : St} {H : Heap} {locs : List Loc} {ls : Array Slot} {i : Int} {cells slots : Nat} (hI : Inv S) (hi : 0 ≤ i ∧ i + 5 ≤ L) (hP : pic g s.heap.size ad S H) (hS : va_S (fun q => s.heap.size ≤ q) s.heap H locs) (hl : lv_has ls 7 [(4, .int (i32 i)), (0, .ref b), (1, .ref (ad 1 0)), (2, .ref (ad 0 0)), (3, .ref (ad 3 1))]) (hc : cells + 20 ≤ 601024 ∧ slots + 1000 ≤ 7293034)
    (kont : ∀ (ad' : Nat → Nat → Nat) (S' : St) (H : Heap) (locs : List Loc) (ls : Array Slot), Inv S' → (∀ x q, x < 4 → ad' x q = ad x q) → pic g s.heap.size ad' S' H → va_S (fun q => s.heap.size ≤ q) s.heap H locs → lv_has ls 7 [(4, .int (i32 i)), (0, .ref b), (1, .ref (ad' 1 0)), (2, .ref (ad' 0 0)), (3, .ref (ad' 3 1))] → W p l e room_1 s m args below meth c H locs (cells + 20) (slots + 1000) Qm (F0 m 1434 ls [])) :
    W p l e room_1 s m args below meth c H locs cells slots Qm (F0 m 955 ls []) := by
  refine lv_aload_n hx hb dL_law_955 rfl (lv_at hl 2 rfl) ?_
  refine lv_aload_n hx hb dL_law_956 rfl (lv_at hl 1 rfl) ?_
  refine lv_iload hx hb dL_law_957 (lv_at hl 0 rfl) ?_
  refine lv_iconst (v := i32 1) hx hb dL_law_959 rfl ?_
  refine q_iadd hx hb dL_law_960 ?_
  refine p_sld hx hb hX hbl hL hS (by omega) (by omega) dL_law_961 ?_
  refine lv_aload_n hx hb dL_law_962 rfl (lv_at hl 1 rfl) ?_
  refine lv_iload hx hb dL_law_963 (lv_at hl 0 rfl) ?_
  refine lv_iconst (v := i32 2) hx hb dL_law_965 rfl ?_
  refine q_iadd hx hb dL_law_966 ?_
  refine p_sld hx hb hX hbl hL hS (by omega) (by omega) dL_law_967 ?_
  refine lv_aload_n hx hb dL_law_968 rfl (lv_at hl 4 rfl) ?_
  refine q_callH (As := [.ref (ad 1 0), .int (i32 (zs xs (i + 1))), .int (i32 (zs xs (i + 2))), .ref (ad 3 1)]) (rest := []) hx hb hml hl.1 hown hK hZ hP hS (c_L_light l g s.heap.size ad S (zs xs (i + 1)) (zs xs (i + 2)) hfl hI.wc (zs_r _ _) (zs_r _ _) hI.a3) t_577 t_33 t_579 t_578 f_yL_light ⟨Nat.le_of_ble_eq_true rfl, Nat.le_of_ble_eq_true rfl⟩ rfl rfl (Nat.le_of_ble_eq_true rfl) dL_law_969 ⟨by show cells + 2 ≤ 601024; omega, by show slots + 12 ≤ 7293034; omega⟩ (fun r1 ad1 S1 H locs h1 hP hS => ?_)
  obtain ⟨hr1, ek1⟩ := lhP_k h1
  have e0 := lhP_0 h1 zk_light.1
  have a3 := (lhP_3 h1 zk_light.2).trans hI.a3
  subst hr1
  have hl : lv_has ls 7 [(4, .int (i32 i)), (0, .ref b), (1, .ref (ad1 1 0)), (2, .ref (ad1 0 0)), (3, .ref (ad1 3 1))] := by
    have t9 := hl
    rw [← ek1 1 0 (by decide), ← ek1 0 0 (by decide), ← ek1 3 1 (by decide)] at t9
    exact t9
  have al0 : S1 0 0 (-1) = 1 := by rw [e0]; exact hI.m.al
  refine lv_istore (lv' := [(5, .int (i32 (thr (peC S (zs xs (i + 1))) (1 ≤ (zs xs (i + 2)) ∧ (zs xs (i + 2)) ≤ 9999) (dnC S (10 + (zs xs (i + 1)).toNat))))), (4, .int (i32 i)), (0, .ref b), (1, .ref (ad1 1 0)), (2, .ref (ad1 0 0)), (3, .ref (ad1 3 1))]) hx hb dL_law_972 hl (by decide) rfl (fun ls hl => ?_)
  refine lv_aload_n hx hb dL_law_974 rfl (lv_at hl 4 rfl) ?_
  refine lv_aload_n hx hb dL_law_975 rfl (lv_at hl 2 rfl) ?_
  refine lv_iload hx hb dL_law_976 (lv_at hl 1 rfl) ?_
  refine lv_iconst (v := i32 1) hx hb dL_law_978 rfl ?_
  refine q_iadd hx hb dL_law_979 ?_
  refine p_sld hx hb hX hbl hL hS (by omega) (by omega) dL_law_980 ?_
  refine lv_aload_n hx hb dL_law_981 rfl (lv_at hl 2 rfl) ?_
  refine lv_iload hx hb dL_law_982 (lv_at hl 1 rfl) ?_
  refine lv_iconst (v := i32 2) hx hb dL_law_984 rfl ?_
  refine q_iadd hx hb dL_law_985 ?_
  refine p_sld hx hb hX hbl hL hS (by omega) (by omega) dL_law_986 ?_
  refine q_callV (k := 0) (As := [.int (i32 (zs xs (i + 1))), .int (i32 (zs xs (i + 2)))]) (rest := []) hx hb hml hl.1 hown hK hZ hP hS al0 rfl rfl rfl (c_X4_light l g s.heap.size ad1 S1 (zs xs (i + 1)) (zs xs (i + 2)) (wM_e e0 hI.m) (zs_r _ _) (zs_r _ _) (by unfold isP dnM; rw [e0]; exact hI.hlo _) (by rw [e0]; exact hI.hfd)) t_916 t_917 (q_callB hK 915 36 918 t_915 t_36 t_918 f_yX4_light ⟨Nat.le_of_ble_eq_true rfl, Nat.le_of_ble_eq_true rfl⟩) rfl rfl (Nat.le_of_ble_eq_true rfl) dL_law_987 ⟨by show cells + 2 + 0 ≤ 601024; omega, by show slots + 12 + 0 ≤ 7293034; omega⟩ (fun r2 ad2 S2 H locs h2 hP hS => ?_)
  have hG := sim_light hI (zs_r _ _) (zs_r _ _) h1 h2
  obtain ⟨⟨b9, hr2, hcmp⟩, hth, hI2, ek2⟩ := hG
  subst hr2
  have ek : ∀ x q, x < 4 → ad1 x q = ad2 x q := fun x q h => (ek1 x q h).trans (ek2 x q h).symm
  have hl : lv_has ls 7 [(5, .int (i32 (thr (peC S (zs xs (i + 1))) (1 ≤ (zs xs (i + 2)) ∧ (zs xs (i + 2)) ≤ 9999) (dnC S (10 + (zs xs (i + 1)).toNat))))), (4, .int (i32 i)), (0, .ref b), (1, .ref (ad2 1 0)), (2, .ref (ad2 0 0)), (3, .ref (ad2 3 1))] := by
    have t9 := hl
    rw [ek 1 0 (by decide), ek 0 0 (by decide), ek 3 1 (by decide)] at t9
    exact t9
  refine lv_istore (lv' := [(6, .int (i32 b9)), (5, .int (i32 (thr (peC S (zs xs (i + 1))) (1 ≤ (zs xs (i + 2)) ∧ (zs xs (i + 2)) ≤ 9999) (dnC S (10 + (zs xs (i + 1)).toNat))))), (4, .int (i32 i)), (0, .ref b), (1, .ref (ad2 1 0)), (2, .ref (ad2 0 0)), (3, .ref (ad2 3 1))]) hx hb dL_law_990 hl (by decide) rfl (fun ls hl => ?_)
  refine lv_aload_n hx hb dL_law_992 rfl (lv_at hl 5 rfl) ?_
  refine q_callV (k := 0) (As := []) (rest := []) hx hb hml hl.1 hown hK hZ hP hS hI2.m.al rfl rfl rfl (c_X4_thrown l g s.heap.size ad2 S2 hI2.m.al) t_784 t_785 (q_callB hK 783 36 786 t_783 t_36 t_786 f_yX4_thrown ⟨Nat.le_of_ble_eq_true rfl, Nat.le_of_ble_eq_true rfl⟩) rfl rfl (Nat.le_of_ble_eq_true rfl) dL_law_993 ⟨by show cells + 2 + 0 + 0 ≤ 601024; omega, by show slots + 12 + 0 + 0 ≤ 7293034; omega⟩ (q_an (fun H locs hP hS => ?_))
  refine lv_iload hx hb dL_law_996 (lv_at hl 1 rfl) ?_
  refine q_icmp_eq (tgt := 1003) hx hb (hP.rg 0 0 27) (thr_rng _ _ _) dL_law_998 (by decide) (fun _ => ?_) (fun h => absurd hth h)
  refine lv_iload hx hb dL_law_1003 (lv_at hl 1 rfl) ?_
  refine q_if_ne (tgt := 1020) hx hb (thr_rng _ _ _) dL_law_1005 (by decide) (fun hk9 => ?_) (fun hk9 => ?_)
  · refine lv_goto (tgt := 1434) hx hb dL_law_1020 (by decide) ?_
    refine W.widen (k := cells + 20) (n := slots + 1000) (by show cells + 2 + 0 + 0 ≤ cells + 20; omega) (by show slots + 12 + 0 + 0 ≤ slots + 1000; omega) ?_
    exact kont ad2 _ H locs ls hI2 ek2 hP hS (lv_sub hl [2, 3, 4, 5, 6] rfl)
  · refine lv_aload_n hx hb dL_law_1008 rfl (lv_at hl 6 rfl) ?_
    refine lv_iconst (v := i32 0) hx hb dL_law_1009 rfl ?_
    refine p_lald (o := 3) (r := 1) (k := 3) (n := 1) (z := 0) hx hb hK hP hI2.a3 rfl rfl (by decide) (by decide) (by decide) (by decide) dL_law_1010 ?_
    refine lv_iload hx hb dL_law_1011 (lv_at hl 0 rfl) ?_
    refine lv_i2l hx hb dL_law_1013 (wr_64 _) ?_
    refine q_lcmp0 hx hb (hcmp hk9) dL_law_1014 ?_
    refine q_if_eq (a := 0) (tgt := 1020) hx hb rng_0 dL_law_1015 (by decide) (fun _ => ?_) (fun h => absurd rfl h)
    refine lv_goto (tgt := 1434) hx hb dL_law_1020 (by decide) ?_
    refine W.widen (k := cells + 20) (n := slots + 1000) (by show cells + 2 + 0 + 0 ≤ cells + 20; omega) (by show slots + 12 + 0 + 0 ≤ slots + 1000; omega) ?_
    exact kont ad2 _ H locs ls hI2 ek2 hP hS (lv_sub hl [2, 3, 4, 5, 6] rfl)

set_option maxHeartbeats 4000000 in
set_option maxRecDepth 100000 in
theorem lc_wash {p : Program} {l : Launch} {e : Env} {s : State} {m : MethodId} {below : List Frame} {meth : Method} {c : Code} {args : Array Value} {Qm : State → Prop} {g : GT} {b L : Nat} {xs : Nat → Int32} (hfl : l.stackTraces = false) (hx : p.tables.exec = Jvm.exec) (hb : c.code = cL_law) (hml : c.maxLocals = 7) (hown : s.vm.findClass RL = some m.cls) (hK : KK g s) (hZ : ZZ s.heap.size s s.heap) (hX : va_X b L xs s s.heap) (hbl : b < s.heap.size) (hL : L ≤ 2560) {ad : Nat → Nat → Nat} {S : St} {H : Heap} {locs : List Loc} {ls : Array Slot} {i : Int} {cells slots : Nat} (hI : Inv S) (hi : 0 ≤ i ∧ i + 5 ≤ L) (hP : pic g s.heap.size ad S H) (hS : va_S (fun q => s.heap.size ≤ q) s.heap H locs) (hl : lv_has ls 7 [(4, .int (i32 i)), (0, .ref b), (1, .ref (ad 1 0)), (2, .ref (ad 0 0)), (3, .ref (ad 3 1))]) (hc : cells + 20 ≤ 601024 ∧ slots + 1000 ≤ 7293034)
    (kont : ∀ (ad' : Nat → Nat → Nat) (S' : St) (H : Heap) (locs : List Loc) (ls : Array Slot), Inv S' → (∀ x q, x < 4 → ad' x q = ad x q) → pic g s.heap.size ad' S' H → va_S (fun q => s.heap.size ≤ q) s.heap H locs → lv_has ls 7 [(4, .int (i32 i)), (0, .ref b), (1, .ref (ad' 1 0)), (2, .ref (ad' 0 0)), (3, .ref (ad' 3 1))] → W p l e room_1 s m args below meth c H locs (cells + 20) (slots + 1000) Qm (F0 m 1434 ls [])) :
    W p l e room_1 s m args below meth c H locs cells slots Qm (F0 m 1023 ls []) := by
  refine lv_aload_n hx hb dL_law_1023 rfl (lv_at hl 2 rfl) ?_
  refine lv_aload_n hx hb dL_law_1024 rfl (lv_at hl 1 rfl) ?_
  refine lv_iload hx hb dL_law_1025 (lv_at hl 0 rfl) ?_
  refine lv_iconst (v := i32 1) hx hb dL_law_1027 rfl ?_
  refine q_iadd hx hb dL_law_1028 ?_
  refine p_sld hx hb hX hbl hL hS (by omega) (by omega) dL_law_1029 ?_
  refine lv_aload_n hx hb dL_law_1030 rfl (lv_at hl 4 rfl) ?_
  refine q_callH (As := [.ref (ad 1 0), .int (i32 (zs xs (i + 1))), .ref (ad 3 1)]) (rest := []) hx hb hml hl.1 hown hK hZ hP hS (c_L_wash l g s.heap.size ad S (zs xs (i + 1)) hfl hI.wc (zs_r _ _) hI.a3) t_597 t_33 t_599 t_598 f_yL_wash ⟨Nat.le_of_ble_eq_true rfl, Nat.le_of_ble_eq_true rfl⟩ rfl rfl (Nat.le_of_ble_eq_true rfl) dL_law_1031 ⟨by show cells + 2 ≤ 601024; omega, by show slots + 12 ≤ 7293034; omega⟩ (fun r1 ad1 S1 H locs h1 hP hS => ?_)
  obtain ⟨hr1, ek1⟩ := lhP_k h1
  have e0 := lhP_0 h1 zk_wash.1
  have a3 := (lhP_3 h1 zk_wash.2).trans hI.a3
  subst hr1
  have hl : lv_has ls 7 [(4, .int (i32 i)), (0, .ref b), (1, .ref (ad1 1 0)), (2, .ref (ad1 0 0)), (3, .ref (ad1 3 1))] := by
    have t9 := hl
    rw [← ek1 1 0 (by decide), ← ek1 0 0 (by decide), ← ek1 3 1 (by decide)] at t9
    exact t9
  have al0 : S1 0 0 (-1) = 1 := by rw [e0]; exact hI.m.al
  refine lv_istore (lv' := [(5, .int (i32 (thr (peC S (zs xs (i + 1))) (dnC S (10 + (zs xs (i + 1)).toNat)) (True)))), (4, .int (i32 i)), (0, .ref b), (1, .ref (ad1 1 0)), (2, .ref (ad1 0 0)), (3, .ref (ad1 3 1))]) hx hb dL_law_1034 hl (by decide) rfl (fun ls hl => ?_)
  refine lv_aload_n hx hb dL_law_1036 rfl (lv_at hl 4 rfl) ?_
  refine lv_aload_n hx hb dL_law_1037 rfl (lv_at hl 2 rfl) ?_
  refine lv_iload hx hb dL_law_1038 (lv_at hl 1 rfl) ?_
  refine lv_iconst (v := i32 1) hx hb dL_law_1040 rfl ?_
  refine q_iadd hx hb dL_law_1041 ?_
  refine p_sld hx hb hX hbl hL hS (by omega) (by omega) dL_law_1042 ?_
  refine q_callV (k := 0) (As := [.int (i32 (zs xs (i + 1)))]) (rest := []) hx hb hml hl.1 hown hK hZ hP hS al0 rfl rfl rfl (c_X4_wash l g s.heap.size ad1 S1 (zs xs (i + 1)) (wM_e e0 hI.m) (zs_r _ _) (by unfold isP dnM; rw [e0]; exact hI.hlo _)) t_920 t_921 (q_callB hK 919 36 922 t_919 t_36 t_922 f_yX4_wash ⟨Nat.le_of_ble_eq_true rfl, Nat.le_of_ble_eq_true rfl⟩) rfl rfl (Nat.le_of_ble_eq_true rfl) dL_law_1043 ⟨by show cells + 2 + 0 ≤ 601024; omega, by show slots + 12 + 0 ≤ 7293034; omega⟩ (fun r2 ad2 S2 H locs h2 hP hS => ?_)
  have hG := sim_wash hI (zs_r _ _) h1 h2
  obtain ⟨⟨b9, hr2, hcmp⟩, hth, hI2, ek2⟩ := hG
  subst hr2
  have ek : ∀ x q, x < 4 → ad1 x q = ad2 x q := fun x q h => (ek1 x q h).trans (ek2 x q h).symm
  have hl : lv_has ls 7 [(5, .int (i32 (thr (peC S (zs xs (i + 1))) (dnC S (10 + (zs xs (i + 1)).toNat)) (True)))), (4, .int (i32 i)), (0, .ref b), (1, .ref (ad2 1 0)), (2, .ref (ad2 0 0)), (3, .ref (ad2 3 1))] := by
    have t9 := hl
    rw [ek 1 0 (by decide), ek 0 0 (by decide), ek 3 1 (by decide)] at t9
    exact t9
  refine lv_istore (lv' := [(6, .int (i32 b9)), (5, .int (i32 (thr (peC S (zs xs (i + 1))) (dnC S (10 + (zs xs (i + 1)).toNat)) (True)))), (4, .int (i32 i)), (0, .ref b), (1, .ref (ad2 1 0)), (2, .ref (ad2 0 0)), (3, .ref (ad2 3 1))]) hx hb dL_law_1046 hl (by decide) rfl (fun ls hl => ?_)
  refine lv_aload_n hx hb dL_law_1048 rfl (lv_at hl 5 rfl) ?_
  refine q_callV (k := 0) (As := []) (rest := []) hx hb hml hl.1 hown hK hZ hP hS hI2.m.al rfl rfl rfl (c_X4_thrown l g s.heap.size ad2 S2 hI2.m.al) t_784 t_785 (q_callB hK 783 36 786 t_783 t_36 t_786 f_yX4_thrown ⟨Nat.le_of_ble_eq_true rfl, Nat.le_of_ble_eq_true rfl⟩) rfl rfl (Nat.le_of_ble_eq_true rfl) dL_law_1049 ⟨by show cells + 2 + 0 + 0 ≤ 601024; omega, by show slots + 12 + 0 + 0 ≤ 7293034; omega⟩ (q_an (fun H locs hP hS => ?_))
  refine lv_iload hx hb dL_law_1052 (lv_at hl 1 rfl) ?_
  refine q_icmp_eq (tgt := 1059) hx hb (hP.rg 0 0 27) (thr_rng _ _ _) dL_law_1054 (by decide) (fun _ => ?_) (fun h => absurd hth h)
  refine lv_iload hx hb dL_law_1059 (lv_at hl 1 rfl) ?_
  refine q_if_ne (tgt := 1076) hx hb (thr_rng _ _ _) dL_law_1061 (by decide) (fun hk9 => ?_) (fun hk9 => ?_)
  · refine lv_goto (tgt := 1434) hx hb dL_law_1076 (by decide) ?_
    refine W.widen (k := cells + 20) (n := slots + 1000) (by show cells + 2 + 0 + 0 ≤ cells + 20; omega) (by show slots + 12 + 0 + 0 ≤ slots + 1000; omega) ?_
    exact kont ad2 _ H locs ls hI2 ek2 hP hS (lv_sub hl [2, 3, 4, 5, 6] rfl)
  · refine lv_aload_n hx hb dL_law_1064 rfl (lv_at hl 6 rfl) ?_
    refine lv_iconst (v := i32 0) hx hb dL_law_1065 rfl ?_
    refine p_lald (o := 3) (r := 1) (k := 3) (n := 1) (z := 0) hx hb hK hP hI2.a3 rfl rfl (by decide) (by decide) (by decide) (by decide) dL_law_1066 ?_
    refine lv_iload hx hb dL_law_1067 (lv_at hl 0 rfl) ?_
    refine lv_i2l hx hb dL_law_1069 (wr_64 _) ?_
    refine q_lcmp0 hx hb (hcmp hk9) dL_law_1070 ?_
    refine q_if_eq (a := 0) (tgt := 1076) hx hb rng_0 dL_law_1071 (by decide) (fun _ => ?_) (fun h => absurd rfl h)
    refine lv_goto (tgt := 1434) hx hb dL_law_1076 (by decide) ?_
    refine W.widen (k := cells + 20) (n := slots + 1000) (by show cells + 2 + 0 + 0 ≤ cells + 20; omega) (by show slots + 12 + 0 + 0 ≤ slots + 1000; omega) ?_
    exact kont ad2 _ H locs ls hI2 ek2 hP hS (lv_sub hl [2, 3, 4, 5, 6] rfl)

set_option maxHeartbeats 4000000 in
set_option maxRecDepth 100000 in
theorem lc_cut {p : Program} {l : Launch} {e : Env} {s : State} {m : MethodId} {below : List Frame} {meth : Method} {c : Code} {args : Array Value} {Qm : State → Prop} {g : GT} {b L : Nat} {xs : Nat → Int32} (hfl : l.stackTraces = false) (hx : p.tables.exec = Jvm.exec) (hb : c.code = cL_law) (hml : c.maxLocals = 7) (hown : s.vm.findClass RL = some m.cls) (hK : KK g s) (hZ : ZZ s.heap.size s s.heap) (hX : va_X b L xs s s.heap) (hbl : b < s.heap.size) (hL : L ≤ 2560) {ad : Nat → Nat → Nat} {S : St} {H : Heap} {locs : List Loc} {ls : Array Slot} {i : Int} {cells slots : Nat} (hI : Inv S) (hi : 0 ≤ i ∧ i + 5 ≤ L) (hP : pic g s.heap.size ad S H) (hS : va_S (fun q => s.heap.size ≤ q) s.heap H locs) (hl : lv_has ls 7 [(4, .int (i32 i)), (0, .ref b), (1, .ref (ad 1 0)), (2, .ref (ad 0 0)), (3, .ref (ad 3 1))]) (hc : cells + 20 ≤ 601024 ∧ slots + 1000 ≤ 7293034)
    (kont : ∀ (ad' : Nat → Nat → Nat) (S' : St) (H : Heap) (locs : List Loc) (ls : Array Slot), Inv S' → (∀ x q, x < 4 → ad' x q = ad x q) → pic g s.heap.size ad' S' H → va_S (fun q => s.heap.size ≤ q) s.heap H locs → lv_has ls 7 [(4, .int (i32 i)), (0, .ref b), (1, .ref (ad' 1 0)), (2, .ref (ad' 0 0)), (3, .ref (ad' 3 1))] → W p l e room_1 s m args below meth c H locs (cells + 20) (slots + 1000) Qm (F0 m 1434 ls [])) :
    W p l e room_1 s m args below meth c H locs cells slots Qm (F0 m 1079 ls []) := by
  refine lv_aload_n hx hb dL_law_1079 rfl (lv_at hl 2 rfl) ?_
  refine lv_aload_n hx hb dL_law_1080 rfl (lv_at hl 1 rfl) ?_
  refine lv_iload hx hb dL_law_1081 (lv_at hl 0 rfl) ?_
  refine lv_iconst (v := i32 1) hx hb dL_law_1083 rfl ?_
  refine q_iadd hx hb dL_law_1084 ?_
  refine p_sld hx hb hX hbl hL hS (by omega) (by omega) dL_law_1085 ?_
  refine lv_aload_n hx hb dL_law_1086 rfl (lv_at hl 1 rfl) ?_
  refine lv_iload hx hb dL_law_1087 (lv_at hl 0 rfl) ?_
  refine lv_iconst (v := i32 2) hx hb dL_law_1089 rfl ?_
  refine q_iadd hx hb dL_law_1090 ?_
  refine p_sld hx hb hX hbl hL hS (by omega) (by omega) dL_law_1091 ?_
  refine lv_aload_n hx hb dL_law_1092 rfl (lv_at hl 4 rfl) ?_
  refine q_callH (As := [.ref (ad 1 0), .int (i32 (zs xs (i + 1))), .int (i32 (zs xs (i + 2))), .ref (ad 3 1)]) (rest := []) hx hb hml hl.1 hown hK hZ hP hS (c_L_cut l g s.heap.size ad S (zs xs (i + 1)) (zs xs (i + 2)) hfl hI.wc (zs_r _ _) (zs_r _ _) hI.hcf hI.hpf hI.a3) t_617 t_33 t_619 t_618 f_yL_cut ⟨Nat.le_of_ble_eq_true rfl, Nat.le_of_ble_eq_true rfl⟩ rfl rfl (Nat.le_of_ble_eq_true rfl) dL_law_1093 ⟨by show cells + 11 ≤ 601024; omega, by show slots + 805 ≤ 7293034; omega⟩ (fun r1 ad1 S1 H locs h1 hP hS => ?_)
  obtain ⟨hr1, ek1⟩ := lhP_k h1
  have e0 := lhP_0 h1 zk_cut.1
  have a3 := (lhP_3 h1 zk_cut.2).trans hI.a3
  subst hr1
  have hl : lv_has ls 7 [(4, .int (i32 i)), (0, .ref b), (1, .ref (ad1 1 0)), (2, .ref (ad1 0 0)), (3, .ref (ad1 3 1))] := by
    have t9 := hl
    rw [← ek1 1 0 (by decide), ← ek1 0 0 (by decide), ← ek1 3 1 (by decide)] at t9
    exact t9
  have al0 : S1 0 0 (-1) = 1 := by rw [e0]; exact hI.m.al
  refine lv_istore (lv' := [(5, .int (i32 (thr (peC S (zs xs (i + 1)) ∧ (1 ≤ (zs xs (i + 2)) ∧ (zs xs (i + 2)) < S (10 + (zs xs (i + 1)).toNat) 0 0)) (dnC S (10 + (zs xs (i + 1)).toNat) ∧ S 1 0 6 < 20) (True)))), (4, .int (i32 i)), (0, .ref b), (1, .ref (ad1 1 0)), (2, .ref (ad1 0 0)), (3, .ref (ad1 3 1))]) hx hb dL_law_1096 hl (by decide) rfl (fun ls hl => ?_)
  refine lv_aload_n hx hb dL_law_1098 rfl (lv_at hl 4 rfl) ?_
  refine lv_aload_n hx hb dL_law_1099 rfl (lv_at hl 2 rfl) ?_
  refine lv_iload hx hb dL_law_1100 (lv_at hl 1 rfl) ?_
  refine lv_iconst (v := i32 1) hx hb dL_law_1102 rfl ?_
  refine q_iadd hx hb dL_law_1103 ?_
  refine p_sld hx hb hX hbl hL hS (by omega) (by omega) dL_law_1104 ?_
  refine lv_aload_n hx hb dL_law_1105 rfl (lv_at hl 2 rfl) ?_
  refine lv_iload hx hb dL_law_1106 (lv_at hl 1 rfl) ?_
  refine lv_iconst (v := i32 2) hx hb dL_law_1108 rfl ?_
  refine q_iadd hx hb dL_law_1109 ?_
  refine p_sld hx hb hX hbl hL hS (by omega) (by omega) dL_law_1110 ?_
  refine q_callV (k := 0) (As := [.int (i32 (zs xs (i + 1))), .int (i32 (zs xs (i + 2)))]) (rest := []) hx hb hml hl.1 hown hK hZ hP hS al0 rfl rfl rfl (c_X4_cut l g s.heap.size ad1 S1 (zs xs (i + 1)) (zs xs (i + 2)) (wM_e e0 hI.m) (zs_r _ _) (zs_r _ _)) t_928 t_929 (q_callB hK 927 36 930 t_927 t_36 t_930 f_yX4_cut ⟨Nat.le_of_ble_eq_true rfl, Nat.le_of_ble_eq_true rfl⟩) rfl rfl (Nat.le_of_ble_eq_true rfl) dL_law_1111 ⟨by show cells + 11 + 0 ≤ 601024; omega, by show slots + 805 + 0 ≤ 7293034; omega⟩ (fun r2 ad2 S2 H locs h2 hP hS => ?_)
  have hG := sim_cut hI (zs_r _ _) (zs_r _ _) h1 h2
  obtain ⟨⟨b9, hr2, hcmp⟩, hth, hI2, ek2⟩ := hG
  subst hr2
  have ek : ∀ x q, x < 4 → ad1 x q = ad2 x q := fun x q h => (ek1 x q h).trans (ek2 x q h).symm
  have hl : lv_has ls 7 [(5, .int (i32 (thr (peC S (zs xs (i + 1)) ∧ (1 ≤ (zs xs (i + 2)) ∧ (zs xs (i + 2)) < S (10 + (zs xs (i + 1)).toNat) 0 0)) (dnC S (10 + (zs xs (i + 1)).toNat) ∧ S 1 0 6 < 20) (True)))), (4, .int (i32 i)), (0, .ref b), (1, .ref (ad2 1 0)), (2, .ref (ad2 0 0)), (3, .ref (ad2 3 1))] := by
    have t9 := hl
    rw [ek 1 0 (by decide), ek 0 0 (by decide), ek 3 1 (by decide)] at t9
    exact t9
  refine lv_istore (lv' := [(6, .int (i32 b9)), (5, .int (i32 (thr (peC S (zs xs (i + 1)) ∧ (1 ≤ (zs xs (i + 2)) ∧ (zs xs (i + 2)) < S (10 + (zs xs (i + 1)).toNat) 0 0)) (dnC S (10 + (zs xs (i + 1)).toNat) ∧ S 1 0 6 < 20) (True)))), (4, .int (i32 i)), (0, .ref b), (1, .ref (ad2 1 0)), (2, .ref (ad2 0 0)), (3, .ref (ad2 3 1))]) hx hb dL_law_1114 hl (by decide) rfl (fun ls hl => ?_)
  refine lv_aload_n hx hb dL_law_1116 rfl (lv_at hl 5 rfl) ?_
  refine q_callV (k := 0) (As := []) (rest := []) hx hb hml hl.1 hown hK hZ hP hS hI2.m.al rfl rfl rfl (c_X4_thrown l g s.heap.size ad2 S2 hI2.m.al) t_784 t_785 (q_callB hK 783 36 786 t_783 t_36 t_786 f_yX4_thrown ⟨Nat.le_of_ble_eq_true rfl, Nat.le_of_ble_eq_true rfl⟩) rfl rfl (Nat.le_of_ble_eq_true rfl) dL_law_1117 ⟨by show cells + 11 + 0 + 0 ≤ 601024; omega, by show slots + 805 + 0 + 0 ≤ 7293034; omega⟩ (q_an (fun H locs hP hS => ?_))
  refine lv_iload hx hb dL_law_1120 (lv_at hl 1 rfl) ?_
  refine q_icmp_eq (tgt := 1127) hx hb (hP.rg 0 0 27) (thr_rng _ _ _) dL_law_1122 (by decide) (fun _ => ?_) (fun h => absurd hth h)
  refine lv_iload hx hb dL_law_1127 (lv_at hl 1 rfl) ?_
  refine q_if_ne (tgt := 1144) hx hb (thr_rng _ _ _) dL_law_1129 (by decide) (fun hk9 => ?_) (fun hk9 => ?_)
  · refine lv_goto (tgt := 1434) hx hb dL_law_1144 (by decide) ?_
    refine W.widen (k := cells + 20) (n := slots + 1000) (by show cells + 11 + 0 + 0 ≤ cells + 20; omega) (by show slots + 805 + 0 + 0 ≤ slots + 1000; omega) ?_
    exact kont ad2 _ H locs ls hI2 ek2 hP hS (lv_sub hl [2, 3, 4, 5, 6] rfl)
  · refine lv_aload_n hx hb dL_law_1132 rfl (lv_at hl 6 rfl) ?_
    refine lv_iconst (v := i32 0) hx hb dL_law_1133 rfl ?_
    refine p_lald (o := 3) (r := 1) (k := 3) (n := 1) (z := 0) hx hb hK hP hI2.a3 rfl rfl (by decide) (by decide) (by decide) (by decide) dL_law_1134 ?_
    refine lv_iload hx hb dL_law_1135 (lv_at hl 0 rfl) ?_
    refine lv_i2l hx hb dL_law_1137 (wr_64 _) ?_
    refine q_lcmp0 hx hb (hcmp hk9) dL_law_1138 ?_
    refine q_if_eq (a := 0) (tgt := 1144) hx hb rng_0 dL_law_1139 (by decide) (fun _ => ?_) (fun h => absurd rfl h)
    refine lv_goto (tgt := 1434) hx hb dL_law_1144 (by decide) ?_
    refine W.widen (k := cells + 20) (n := slots + 1000) (by show cells + 11 + 0 + 0 ≤ cells + 20; omega) (by show slots + 805 + 0 + 0 ≤ slots + 1000; omega) ?_
    exact kont ad2 _ H locs ls hI2 ek2 hP hS (lv_sub hl [2, 3, 4, 5, 6] rfl)

set_option maxHeartbeats 4000000 in
set_option maxRecDepth 100000 in
theorem lc_match {p : Program} {l : Launch} {e : Env} {s : State} {m : MethodId} {below : List Frame} {meth : Method} {c : Code} {args : Array Value} {Qm : State → Prop} {g : GT} {b L : Nat} {xs : Nat → Int32} (hfl : l.stackTraces = false) (hx : p.tables.exec = Jvm.exec) (hb : c.code = cL_law) (hml : c.maxLocals = 7) (hown : s.vm.findClass RL = some m.cls) (hK : KK g s) (hZ : ZZ s.heap.size s s.heap) (hX : va_X b L xs s s.heap) (hbl : b < s.heap.size) (hL : L ≤ 2560) {ad : Nat → Nat → Nat} {S : St} {H : Heap} {locs : List Loc} {ls : Array Slot} {i : Int} {cells slots : Nat} (hI : Inv S) (hi : 0 ≤ i ∧ i + 5 ≤ L) (hP : pic g s.heap.size ad S H) (hS : va_S (fun q => s.heap.size ≤ q) s.heap H locs) (hl : lv_has ls 7 [(4, .int (i32 i)), (0, .ref b), (1, .ref (ad 1 0)), (2, .ref (ad 0 0)), (3, .ref (ad 3 1))]) (hc : cells + 20 ≤ 601024 ∧ slots + 1000 ≤ 7293034)
    (kont : ∀ (ad' : Nat → Nat → Nat) (S' : St) (H : Heap) (locs : List Loc) (ls : Array Slot), Inv S' → (∀ x q, x < 4 → ad' x q = ad x q) → pic g s.heap.size ad' S' H → va_S (fun q => s.heap.size ≤ q) s.heap H locs → lv_has ls 7 [(4, .int (i32 i)), (0, .ref b), (1, .ref (ad' 1 0)), (2, .ref (ad' 0 0)), (3, .ref (ad' 3 1))] → W p l e room_1 s m args below meth c H locs (cells + 20) (slots + 1000) Qm (F0 m 1434 ls [])) :
    W p l e room_1 s m args below meth c H locs cells slots Qm (F0 m 1147 ls []) := by
  refine lv_aload_n hx hb dL_law_1147 rfl (lv_at hl 2 rfl) ?_
  refine lv_aload_n hx hb dL_law_1148 rfl (lv_at hl 1 rfl) ?_
  refine lv_iload hx hb dL_law_1149 (lv_at hl 0 rfl) ?_
  refine lv_iconst (v := i32 1) hx hb dL_law_1151 rfl ?_
  refine q_iadd hx hb dL_law_1152 ?_
  refine p_sld hx hb hX hbl hL hS (by omega) (by omega) dL_law_1153 ?_
  refine lv_aload_n hx hb dL_law_1154 rfl (lv_at hl 1 rfl) ?_
  refine lv_iload hx hb dL_law_1155 (lv_at hl 0 rfl) ?_
  refine lv_iconst (v := i32 2) hx hb dL_law_1157 rfl ?_
  refine q_iadd hx hb dL_law_1158 ?_
  refine p_sld hx hb hX hbl hL hS (by omega) (by omega) dL_law_1159 ?_
  refine lv_aload_n hx hb dL_law_1160 rfl (lv_at hl 4 rfl) ?_
  refine q_callH (As := [.ref (ad 1 0), .int (i32 (zs xs (i + 1))), .int (i32 (zs xs (i + 2))), .ref (ad 3 1)]) (rest := []) hx hb hml hl.1 hown hK hZ hP hS (c_L_match l g s.heap.size ad S (zs xs (i + 1)) (zs xs (i + 2)) hfl hI.wc (zs_r _ _) (zs_r _ _) hI.a3) t_636 t_33 t_638 t_637 f_yL_match ⟨Nat.le_of_ble_eq_true rfl, Nat.le_of_ble_eq_true rfl⟩ rfl rfl (Nat.le_of_ble_eq_true rfl) dL_law_1161 ⟨by show cells + 4 ≤ 601024; omega, by show slots + 24 ≤ 7293034; omega⟩ (fun r1 ad1 S1 H locs h1 hP hS => ?_)
  obtain ⟨hr1, ek1⟩ := lhP_k h1
  have e0 := lhP_0 h1 zk_match.1
  have a3 := (lhP_3 h1 zk_match.2).trans hI.a3
  subst hr1
  have hl : lv_has ls 7 [(4, .int (i32 i)), (0, .ref b), (1, .ref (ad1 1 0)), (2, .ref (ad1 0 0)), (3, .ref (ad1 3 1))] := by
    have t9 := hl
    rw [← ek1 1 0 (by decide), ← ek1 0 0 (by decide), ← ek1 3 1 (by decide)] at t9
    exact t9
  have al0 : S1 0 0 (-1) = 1 := by rw [e0]; exact hI.m.al
  refine lv_istore (lv' := [(5, .int (i32 (thr (peC S (zs xs (i + 1)) ∧ peC S (zs xs (i + 2))) ((zs xs (i + 1)) ≠ (zs xs (i + 2))) (dnC S (10 + (zs xs (i + 1)).toNat) ∧ dnC S (10 + (zs xs (i + 2)).toNat))))), (4, .int (i32 i)), (0, .ref b), (1, .ref (ad1 1 0)), (2, .ref (ad1 0 0)), (3, .ref (ad1 3 1))]) hx hb dL_law_1164 hl (by decide) rfl (fun ls hl => ?_)
  refine lv_aload_n hx hb dL_law_1166 rfl (lv_at hl 4 rfl) ?_
  refine lv_aload_n hx hb dL_law_1167 rfl (lv_at hl 2 rfl) ?_
  refine lv_iload hx hb dL_law_1168 (lv_at hl 1 rfl) ?_
  refine lv_iconst (v := i32 1) hx hb dL_law_1170 rfl ?_
  refine q_iadd hx hb dL_law_1171 ?_
  refine p_sld hx hb hX hbl hL hS (by omega) (by omega) dL_law_1172 ?_
  refine lv_aload_n hx hb dL_law_1173 rfl (lv_at hl 2 rfl) ?_
  refine lv_iload hx hb dL_law_1174 (lv_at hl 1 rfl) ?_
  refine lv_iconst (v := i32 2) hx hb dL_law_1176 rfl ?_
  refine q_iadd hx hb dL_law_1177 ?_
  refine p_sld hx hb hX hbl hL hS (by omega) (by omega) dL_law_1178 ?_
  refine q_callV (k := 0) (As := [.int (i32 (zs xs (i + 1))), .int (i32 (zs xs (i + 2)))]) (rest := []) hx hb hml hl.1 hown hK hZ hP hS al0 rfl rfl rfl (c_X4_match l g s.heap.size ad1 S1 (zs xs (i + 1)) (zs xs (i + 2)) (wM_e e0 hI.m) (zs_r _ _) (zs_r _ _) (by unfold isP; rw [e0]; exact hI.hcl)) t_936 t_937 (q_callB hK 935 36 938 t_935 t_36 t_938 f_yX4_match ⟨Nat.le_of_ble_eq_true rfl, Nat.le_of_ble_eq_true rfl⟩) rfl rfl (Nat.le_of_ble_eq_true rfl) dL_law_1179 ⟨by show cells + 4 + 0 ≤ 601024; omega, by show slots + 24 + 0 ≤ 7293034; omega⟩ (fun r2 ad2 S2 H locs h2 hP hS => ?_)
  have hG := sim_match hI (zs_r _ _) (zs_r _ _) h1 h2
  obtain ⟨⟨b9, hr2, hcmp⟩, hth, hI2, ek2⟩ := hG
  subst hr2
  have ek : ∀ x q, x < 4 → ad1 x q = ad2 x q := fun x q h => (ek1 x q h).trans (ek2 x q h).symm
  have hl : lv_has ls 7 [(5, .int (i32 (thr (peC S (zs xs (i + 1)) ∧ peC S (zs xs (i + 2))) ((zs xs (i + 1)) ≠ (zs xs (i + 2))) (dnC S (10 + (zs xs (i + 1)).toNat) ∧ dnC S (10 + (zs xs (i + 2)).toNat))))), (4, .int (i32 i)), (0, .ref b), (1, .ref (ad2 1 0)), (2, .ref (ad2 0 0)), (3, .ref (ad2 3 1))] := by
    have t9 := hl
    rw [ek 1 0 (by decide), ek 0 0 (by decide), ek 3 1 (by decide)] at t9
    exact t9
  refine lv_istore (lv' := [(6, .int (i32 b9)), (5, .int (i32 (thr (peC S (zs xs (i + 1)) ∧ peC S (zs xs (i + 2))) ((zs xs (i + 1)) ≠ (zs xs (i + 2))) (dnC S (10 + (zs xs (i + 1)).toNat) ∧ dnC S (10 + (zs xs (i + 2)).toNat))))), (4, .int (i32 i)), (0, .ref b), (1, .ref (ad2 1 0)), (2, .ref (ad2 0 0)), (3, .ref (ad2 3 1))]) hx hb dL_law_1182 hl (by decide) rfl (fun ls hl => ?_)
  refine lv_aload_n hx hb dL_law_1184 rfl (lv_at hl 5 rfl) ?_
  refine q_callV (k := 0) (As := []) (rest := []) hx hb hml hl.1 hown hK hZ hP hS hI2.m.al rfl rfl rfl (c_X4_thrown l g s.heap.size ad2 S2 hI2.m.al) t_784 t_785 (q_callB hK 783 36 786 t_783 t_36 t_786 f_yX4_thrown ⟨Nat.le_of_ble_eq_true rfl, Nat.le_of_ble_eq_true rfl⟩) rfl rfl (Nat.le_of_ble_eq_true rfl) dL_law_1185 ⟨by show cells + 4 + 0 + 0 ≤ 601024; omega, by show slots + 24 + 0 + 0 ≤ 7293034; omega⟩ (q_an (fun H locs hP hS => ?_))
  refine lv_iload hx hb dL_law_1188 (lv_at hl 1 rfl) ?_
  refine q_icmp_eq (tgt := 1195) hx hb (hP.rg 0 0 27) (thr_rng _ _ _) dL_law_1190 (by decide) (fun _ => ?_) (fun h => absurd hth h)
  refine lv_iload hx hb dL_law_1195 (lv_at hl 1 rfl) ?_
  refine q_if_ne (tgt := 1212) hx hb (thr_rng _ _ _) dL_law_1197 (by decide) (fun hk9 => ?_) (fun hk9 => ?_)
  · refine lv_goto (tgt := 1434) hx hb dL_law_1212 (by decide) ?_
    refine W.widen (k := cells + 20) (n := slots + 1000) (by show cells + 4 + 0 + 0 ≤ cells + 20; omega) (by show slots + 24 + 0 + 0 ≤ slots + 1000; omega) ?_
    exact kont ad2 _ H locs ls hI2 ek2 hP hS (lv_sub hl [2, 3, 4, 5, 6] rfl)
  · refine lv_aload_n hx hb dL_law_1200 rfl (lv_at hl 6 rfl) ?_
    refine lv_iconst (v := i32 0) hx hb dL_law_1201 rfl ?_
    refine p_lald (o := 3) (r := 1) (k := 3) (n := 1) (z := 0) hx hb hK hP hI2.a3 rfl rfl (by decide) (by decide) (by decide) (by decide) dL_law_1202 ?_
    refine lv_iload hx hb dL_law_1203 (lv_at hl 0 rfl) ?_
    refine lv_i2l hx hb dL_law_1205 (wr_64 _) ?_
    refine q_lcmp0 hx hb (hcmp hk9) dL_law_1206 ?_
    refine q_if_eq (a := 0) (tgt := 1212) hx hb rng_0 dL_law_1207 (by decide) (fun _ => ?_) (fun h => absurd rfl h)
    refine lv_goto (tgt := 1434) hx hb dL_law_1212 (by decide) ?_
    refine W.widen (k := cells + 20) (n := slots + 1000) (by show cells + 4 + 0 + 0 ≤ cells + 20; omega) (by show slots + 24 + 0 + 0 ≤ slots + 1000; omega) ?_
    exact kont ad2 _ H locs ls hI2 ek2 hP hS (lv_sub hl [2, 3, 4, 5, 6] rfl)

set_option maxHeartbeats 4000000 in
set_option maxRecDepth 100000 in
theorem lc_join {p : Program} {l : Launch} {e : Env} {s : State} {m : MethodId} {below : List Frame} {meth : Method} {c : Code} {args : Array Value} {Qm : State → Prop} {g : GT} {b L : Nat} {xs : Nat → Int32} (hfl : l.stackTraces = false) (hx : p.tables.exec = Jvm.exec) (hb : c.code = cL_law) (hml : c.maxLocals = 7) (hown : s.vm.findClass RL = some m.cls) (hK : KK g s) (hZ : ZZ s.heap.size s s.heap) (hX : va_X b L xs s s.heap) (hbl : b < s.heap.size) (hL : L ≤ 2560) {ad : Nat → Nat → Nat} {S : St} {H : Heap} {locs : List Loc} {ls : Array Slot} {i : Int} {cells slots : Nat} (hI : Inv S) (hi : 0 ≤ i ∧ i + 5 ≤ L) (hP : pic g s.heap.size ad S H) (hS : va_S (fun q => s.heap.size ≤ q) s.heap H locs) (hl : lv_has ls 7 [(4, .int (i32 i)), (0, .ref b), (1, .ref (ad 1 0)), (2, .ref (ad 0 0)), (3, .ref (ad 3 1))]) (hc : cells + 20 ≤ 601024 ∧ slots + 1000 ≤ 7293034)
    (kont : ∀ (ad' : Nat → Nat → Nat) (S' : St) (H : Heap) (locs : List Loc) (ls : Array Slot), Inv S' → (∀ x q, x < 4 → ad' x q = ad x q) → pic g s.heap.size ad' S' H → va_S (fun q => s.heap.size ≤ q) s.heap H locs → lv_has ls 7 [(4, .int (i32 i)), (0, .ref b), (1, .ref (ad' 1 0)), (2, .ref (ad' 0 0)), (3, .ref (ad' 3 1))] → W p l e room_1 s m args below meth c H locs (cells + 20) (slots + 1000) Qm (F0 m 1434 ls [])) :
    W p l e room_1 s m args below meth c H locs cells slots Qm (F0 m 1215 ls []) := by
  refine lv_aload_n hx hb dL_law_1215 rfl (lv_at hl 2 rfl) ?_
  refine lv_aload_n hx hb dL_law_1216 rfl (lv_at hl 1 rfl) ?_
  refine lv_iload hx hb dL_law_1217 (lv_at hl 0 rfl) ?_
  refine lv_iconst (v := i32 1) hx hb dL_law_1219 rfl ?_
  refine q_iadd hx hb dL_law_1220 ?_
  refine p_sld hx hb hX hbl hL hS (by omega) (by omega) dL_law_1221 ?_
  refine lv_aload_n hx hb dL_law_1222 rfl (lv_at hl 1 rfl) ?_
  refine lv_iload hx hb dL_law_1223 (lv_at hl 0 rfl) ?_
  refine lv_iconst (v := i32 2) hx hb dL_law_1225 rfl ?_
  refine q_iadd hx hb dL_law_1226 ?_
  refine p_sld hx hb hX hbl hL hS (by omega) (by omega) dL_law_1227 ?_
  refine lv_aload_n hx hb dL_law_1228 rfl (lv_at hl 4 rfl) ?_
  refine q_callH (As := [.ref (ad 1 0), .int (i32 (zs xs (i + 1))), .int (i32 (zs xs (i + 2))), .ref (ad 3 1)]) (rest := []) hx hb hml hl.1 hown hK hZ hP hS (c_L_join l g s.heap.size ad S (zs xs (i + 1)) (zs xs (i + 2)) hfl hI.wc (zs_r _ _) (zs_r _ _) hI.a3) t_651 t_33 t_653 t_652 f_yL_join ⟨Nat.le_of_ble_eq_true rfl, Nat.le_of_ble_eq_true rfl⟩ rfl rfl (Nat.le_of_ble_eq_true rfl) dL_law_1229 ⟨by show cells + 5 ≤ 601024; omega, by show slots + 30 ≤ 7293034; omega⟩ (fun r1 ad1 S1 H locs h1 hP hS => ?_)
  obtain ⟨hr1, ek1⟩ := lhP_k h1
  have e0 := lhP_0 h1 zk_join.1
  have a3 := (lhP_3 h1 zk_join.2).trans hI.a3
  subst hr1
  have hl : lv_has ls 7 [(4, .int (i32 i)), (0, .ref b), (1, .ref (ad1 1 0)), (2, .ref (ad1 0 0)), (3, .ref (ad1 3 1))] := by
    have t9 := hl
    rw [← ek1 1 0 (by decide), ← ek1 0 0 (by decide), ← ek1 3 1 (by decide)] at t9
    exact t9
  have al0 : S1 0 0 (-1) = 1 := by rw [e0]; exact hI.m.al
  refine lv_istore (lv' := [(5, .int (i32 (thr (peC S (zs xs (i + 1)) ∧ peC S (zs xs (i + 2))) ((zs xs (i + 1)) ≠ (zs xs (i + 2))) (dnC S (10 + (zs xs (i + 1)).toNat) ∧ dnC S (10 + (zs xs (i + 2)).toNat) ∧ S (10 + (zs xs (i + 1)).toNat) 0 1 = S (10 + (zs xs (i + 2)).toNat) 0 1 ∧ S (10 + (zs xs (i + 1)).toNat) 0 0 + S (10 + (zs xs (i + 2)).toNat) 0 0 ≤ 24)))), (4, .int (i32 i)), (0, .ref b), (1, .ref (ad1 1 0)), (2, .ref (ad1 0 0)), (3, .ref (ad1 3 1))]) hx hb dL_law_1232 hl (by decide) rfl (fun ls hl => ?_)
  refine lv_aload_n hx hb dL_law_1234 rfl (lv_at hl 4 rfl) ?_
  refine lv_aload_n hx hb dL_law_1235 rfl (lv_at hl 2 rfl) ?_
  refine lv_iload hx hb dL_law_1236 (lv_at hl 1 rfl) ?_
  refine lv_iconst (v := i32 1) hx hb dL_law_1238 rfl ?_
  refine q_iadd hx hb dL_law_1239 ?_
  refine p_sld hx hb hX hbl hL hS (by omega) (by omega) dL_law_1240 ?_
  refine lv_aload_n hx hb dL_law_1241 rfl (lv_at hl 2 rfl) ?_
  refine lv_iload hx hb dL_law_1242 (lv_at hl 1 rfl) ?_
  refine lv_iconst (v := i32 2) hx hb dL_law_1244 rfl ?_
  refine q_iadd hx hb dL_law_1245 ?_
  refine p_sld hx hb hX hbl hL hS (by omega) (by omega) dL_law_1246 ?_
  refine q_callV (k := 0) (As := [.int (i32 (zs xs (i + 1))), .int (i32 (zs xs (i + 2)))]) (rest := []) hx hb hml hl.1 hown hK hZ hP hS al0 rfl rfl rfl (c_X4_join l g s.heap.size ad1 S1 (zs xs (i + 1)) (zs xs (i + 2)) (wM_e e0 hI.m) (zs_r _ _) (zs_r _ _) (by unfold isP; rw [e0]; exact hI.hcl) (by rw [e0]; exact hI.hfc)) t_940 t_941 (q_callB hK 939 36 942 t_939 t_36 t_942 f_yX4_join ⟨Nat.le_of_ble_eq_true rfl, Nat.le_of_ble_eq_true rfl⟩) rfl rfl (Nat.le_of_ble_eq_true rfl) dL_law_1247 ⟨by show cells + 5 + 0 ≤ 601024; omega, by show slots + 30 + 0 ≤ 7293034; omega⟩ (fun r2 ad2 S2 H locs h2 hP hS => ?_)
  have hG := sim_join hI (zs_r _ _) (zs_r _ _) h1 h2
  obtain ⟨⟨φ9, hr2, hcmp⟩, hth, hI2, ek2⟩ := hG
  subst hr2
  have ek : ∀ x q, x < 4 → ad1 x q = ad2 x q := fun x q h => (ek1 x q h).trans (ek2 x q h).symm
  have hl : lv_has ls 7 [(5, .int (i32 (thr (peC S (zs xs (i + 1)) ∧ peC S (zs xs (i + 2))) ((zs xs (i + 1)) ≠ (zs xs (i + 2))) (dnC S (10 + (zs xs (i + 1)).toNat) ∧ dnC S (10 + (zs xs (i + 2)).toNat) ∧ S (10 + (zs xs (i + 1)).toNat) 0 1 = S (10 + (zs xs (i + 2)).toNat) 0 1 ∧ S (10 + (zs xs (i + 1)).toNat) 0 0 + S (10 + (zs xs (i + 2)).toNat) 0 0 ≤ 24)))), (4, .int (i32 i)), (0, .ref b), (1, .ref (ad2 1 0)), (2, .ref (ad2 0 0)), (3, .ref (ad2 3 1))] := by
    have t9 := hl
    rw [ek 1 0 (by decide), ek 0 0 (by decide), ek 3 1 (by decide)] at t9
    exact t9
  refine lv_istore (lv' := [(6, .int (i32 (b2 φ9))), (5, .int (i32 (thr (peC S (zs xs (i + 1)) ∧ peC S (zs xs (i + 2))) ((zs xs (i + 1)) ≠ (zs xs (i + 2))) (dnC S (10 + (zs xs (i + 1)).toNat) ∧ dnC S (10 + (zs xs (i + 2)).toNat) ∧ S (10 + (zs xs (i + 1)).toNat) 0 1 = S (10 + (zs xs (i + 2)).toNat) 0 1 ∧ S (10 + (zs xs (i + 1)).toNat) 0 0 + S (10 + (zs xs (i + 2)).toNat) 0 0 ≤ 24)))), (4, .int (i32 i)), (0, .ref b), (1, .ref (ad2 1 0)), (2, .ref (ad2 0 0)), (3, .ref (ad2 3 1))]) hx hb dL_law_1250 hl (by decide) rfl (fun ls hl => ?_)
  refine lv_aload_n hx hb dL_law_1252 rfl (lv_at hl 5 rfl) ?_
  refine q_callV (k := 0) (As := []) (rest := []) hx hb hml hl.1 hown hK hZ hP hS hI2.m.al rfl rfl rfl (c_X4_thrown l g s.heap.size ad2 S2 hI2.m.al) t_784 t_785 (q_callB hK 783 36 786 t_783 t_36 t_786 f_yX4_thrown ⟨Nat.le_of_ble_eq_true rfl, Nat.le_of_ble_eq_true rfl⟩) rfl rfl (Nat.le_of_ble_eq_true rfl) dL_law_1253 ⟨by show cells + 5 + 0 + 0 ≤ 601024; omega, by show slots + 30 + 0 + 0 ≤ 7293034; omega⟩ (q_an (fun H locs hP hS => ?_))
  refine lv_iload hx hb dL_law_1256 (lv_at hl 1 rfl) ?_
  refine q_icmp_eq (tgt := 1263) hx hb (hP.rg 0 0 27) (thr_rng _ _ _) dL_law_1258 (by decide) (fun _ => ?_) (fun h => absurd hth h)
  refine lv_iload hx hb dL_law_1263 (lv_at hl 1 rfl) ?_
  refine q_if_ne (tgt := 1287) hx hb (thr_rng _ _ _) dL_law_1265 (by decide) (fun hk9 => ?_) (fun hk9 => ?_)
  · refine lv_goto (tgt := 1434) hx hb dL_law_1287 (by decide) ?_
    refine W.widen (k := cells + 20) (n := slots + 1000) (by show cells + 5 + 0 + 0 ≤ cells + 20; omega) (by show slots + 30 + 0 + 0 ≤ slots + 1000; omega) ?_
    exact kont ad2 _ H locs ls hI2 ek2 hP hS (lv_sub hl [2, 3, 4, 5, 6] rfl)
  · refine lv_aload_n hx hb dL_law_1268 rfl (lv_at hl 6 rfl) ?_
    refine lv_iconst (v := i32 0) hx hb dL_law_1269 rfl ?_
    refine p_lald (o := 3) (r := 1) (k := 3) (n := 1) (z := 0) hx hb hK hP hI2.a3 rfl rfl (by decide) (by decide) (by decide) (by decide) dL_law_1270 ?_
    refine lv_iload hx hb dL_law_1271 (lv_at hl 0 rfl) ?_
    refine q_l01 hx hb (L1 := 1280) dL_law_1273 dL_law_1276 dL_law_1277 dL_law_1280 (by decide) (by decide) ?_
    refine q_lcmp0 hx hb (hcmp hk9) dL_law_1281 ?_
    refine q_if_eq (a := 0) (tgt := 1287) hx hb rng_0 dL_law_1282 (by decide) (fun _ => ?_) (fun h => absurd rfl h)
    refine lv_goto (tgt := 1434) hx hb dL_law_1287 (by decide) ?_
    refine W.widen (k := cells + 20) (n := slots + 1000) (by show cells + 5 + 0 + 0 ≤ cells + 20; omega) (by show slots + 30 + 0 + 0 ≤ slots + 1000; omega) ?_
    exact kont ad2 _ H locs ls hI2 ek2 hP hS (lv_sub hl [2, 3, 4, 5, 6] rfl)

set_option maxHeartbeats 4000000 in
set_option maxRecDepth 100000 in
theorem lc_isTrue {p : Program} {l : Launch} {e : Env} {s : State} {m : MethodId} {below : List Frame} {meth : Method} {c : Code} {args : Array Value} {Qm : State → Prop} {g : GT} {b L : Nat} {xs : Nat → Int32} (hfl : l.stackTraces = false) (hx : p.tables.exec = Jvm.exec) (hb : c.code = cL_law) (hml : c.maxLocals = 7) (hown : s.vm.findClass RL = some m.cls) (hK : KK g s) (hZ : ZZ s.heap.size s s.heap) (hX : va_X b L xs s s.heap) (hbl : b < s.heap.size) (hL : L ≤ 2560) {ad : Nat → Nat → Nat} {S : St} {H : Heap} {locs : List Loc} {ls : Array Slot} {i : Int} {cells slots : Nat} (hI : Inv S) (hi : 0 ≤ i ∧ i + 5 ≤ L) (hP : pic g s.heap.size ad S H) (hS : va_S (fun q => s.heap.size ≤ q) s.heap H locs) (hl : lv_has ls 7 [(4, .int (i32 i)), (0, .ref b), (1, .ref (ad 1 0)), (2, .ref (ad 0 0)), (3, .ref (ad 3 1))]) (hc : cells + 20 ≤ 601024 ∧ slots + 1000 ≤ 7293034)
    (kont : ∀ (ad' : Nat → Nat → Nat) (S' : St) (H : Heap) (locs : List Loc) (ls : Array Slot), Inv S' → (∀ x q, x < 4 → ad' x q = ad x q) → pic g s.heap.size ad' S' H → va_S (fun q => s.heap.size ≤ q) s.heap H locs → lv_has ls 7 [(4, .int (i32 i)), (0, .ref b), (1, .ref (ad' 1 0)), (2, .ref (ad' 0 0)), (3, .ref (ad' 3 1))] → W p l e room_1 s m args below meth c H locs (cells + 20) (slots + 1000) Qm (F0 m 1434 ls [])) :
    W p l e room_1 s m args below meth c H locs cells slots Qm (F0 m 1290 ls []) := by
  refine lv_aload_n hx hb dL_law_1290 rfl (lv_at hl 2 rfl) ?_
  refine lv_aload_n hx hb dL_law_1291 rfl (lv_at hl 1 rfl) ?_
  refine lv_iload hx hb dL_law_1292 (lv_at hl 0 rfl) ?_
  refine lv_iconst (v := i32 1) hx hb dL_law_1294 rfl ?_
  refine q_iadd hx hb dL_law_1295 ?_
  refine p_sld hx hb hX hbl hL hS (by omega) (by omega) dL_law_1296 ?_
  refine lv_aload_n hx hb dL_law_1297 rfl (lv_at hl 4 rfl) ?_
  refine q_callH (As := [.ref (ad 1 0), .int (i32 (zs xs (i + 1))), .ref (ad 3 1)]) (rest := []) hx hb hml hl.1 hown hK hZ hP hS (c_L_isTrue l g s.heap.size ad S (zs xs (i + 1)) hfl hI.wc (zs_r _ _) hI.a3) t_668 t_33 t_670 t_669 f_yL_isTrue ⟨Nat.le_of_ble_eq_true rfl, Nat.le_of_ble_eq_true rfl⟩ rfl rfl (Nat.le_of_ble_eq_true rfl) dL_law_1298 ⟨by show cells + 1 ≤ 601024; omega, by show slots + 6 ≤ 7293034; omega⟩ (fun r1 ad1 S1 H locs h1 hP hS => ?_)
  obtain ⟨hr1, ek1⟩ := lhP_k h1
  have e0 := lhP_0 h1 zk_isTrue.1
  have a3 := (lhP_3 h1 zk_isTrue.2).trans hI.a3
  subst hr1
  have hl : lv_has ls 7 [(4, .int (i32 i)), (0, .ref b), (1, .ref (ad1 1 0)), (2, .ref (ad1 0 0)), (3, .ref (ad1 3 1))] := by
    have t9 := hl
    rw [← ek1 1 0 (by decide), ← ek1 0 0 (by decide), ← ek1 3 1 (by decide)] at t9
    exact t9
  have al0 : S1 0 0 (-1) = 1 := by rw [e0]; exact hI.m.al
  refine lv_istore (lv' := [(5, .int (i32 (thr (peC S (zs xs (i + 1))) (True) (True)))), (4, .int (i32 i)), (0, .ref b), (1, .ref (ad1 1 0)), (2, .ref (ad1 0 0)), (3, .ref (ad1 3 1))]) hx hb dL_law_1301 hl (by decide) rfl (fun ls hl => ?_)
  refine lv_aload_n hx hb dL_law_1303 rfl (lv_at hl 4 rfl) ?_
  refine lv_aload_n hx hb dL_law_1304 rfl (lv_at hl 2 rfl) ?_
  refine lv_iload hx hb dL_law_1305 (lv_at hl 1 rfl) ?_
  refine lv_iconst (v := i32 1) hx hb dL_law_1307 rfl ?_
  refine q_iadd hx hb dL_law_1308 ?_
  refine p_sld hx hb hX hbl hL hS (by omega) (by omega) dL_law_1309 ?_
  refine q_callV (k := 0) (As := [.int (i32 (zs xs (i + 1)))]) (rest := []) hx hb hml hl.1 hown hK hZ hP hS al0 rfl rfl rfl (c_X4_isTrue l g s.heap.size ad1 S1 (zs xs (i + 1)) (wM_e e0 hI.m) (zs_r _ _) (by rw [e0]; exact hI.hfc)) t_948 t_949 (q_callB hK 947 36 950 t_947 t_36 t_950 f_yX4_isTrue ⟨Nat.le_of_ble_eq_true rfl, Nat.le_of_ble_eq_true rfl⟩) rfl rfl (Nat.le_of_ble_eq_true rfl) dL_law_1310 ⟨by show cells + 1 + 0 ≤ 601024; omega, by show slots + 6 + 0 ≤ 7293034; omega⟩ (fun r2 ad2 S2 H locs h2 hP hS => ?_)
  have hG := sim_isTrue hI (zs_r _ _) h1 h2
  obtain ⟨⟨φ9, hr2, hcmp⟩, hth, hI2, ek2⟩ := hG
  subst hr2
  have ek : ∀ x q, x < 4 → ad1 x q = ad2 x q := fun x q h => (ek1 x q h).trans (ek2 x q h).symm
  have hl : lv_has ls 7 [(5, .int (i32 (thr (peC S (zs xs (i + 1))) (True) (True)))), (4, .int (i32 i)), (0, .ref b), (1, .ref (ad2 1 0)), (2, .ref (ad2 0 0)), (3, .ref (ad2 3 1))] := by
    have t9 := hl
    rw [ek 1 0 (by decide), ek 0 0 (by decide), ek 3 1 (by decide)] at t9
    exact t9
  refine lv_istore (lv' := [(6, .int (i32 (b2 φ9))), (5, .int (i32 (thr (peC S (zs xs (i + 1))) (True) (True)))), (4, .int (i32 i)), (0, .ref b), (1, .ref (ad2 1 0)), (2, .ref (ad2 0 0)), (3, .ref (ad2 3 1))]) hx hb dL_law_1313 hl (by decide) rfl (fun ls hl => ?_)
  refine lv_aload_n hx hb dL_law_1315 rfl (lv_at hl 5 rfl) ?_
  refine q_callV (k := 0) (As := []) (rest := []) hx hb hml hl.1 hown hK hZ hP hS hI2.m.al rfl rfl rfl (c_X4_thrown l g s.heap.size ad2 S2 hI2.m.al) t_784 t_785 (q_callB hK 783 36 786 t_783 t_36 t_786 f_yX4_thrown ⟨Nat.le_of_ble_eq_true rfl, Nat.le_of_ble_eq_true rfl⟩) rfl rfl (Nat.le_of_ble_eq_true rfl) dL_law_1316 ⟨by show cells + 1 + 0 + 0 ≤ 601024; omega, by show slots + 6 + 0 + 0 ≤ 7293034; omega⟩ (q_an (fun H locs hP hS => ?_))
  refine lv_iload hx hb dL_law_1319 (lv_at hl 1 rfl) ?_
  refine q_icmp_eq (tgt := 1326) hx hb (hP.rg 0 0 27) (thr_rng _ _ _) dL_law_1321 (by decide) (fun _ => ?_) (fun h => absurd hth h)
  refine lv_iload hx hb dL_law_1326 (lv_at hl 1 rfl) ?_
  refine q_if_ne (tgt := 1350) hx hb (thr_rng _ _ _) dL_law_1328 (by decide) (fun hk9 => ?_) (fun hk9 => ?_)
  · refine lv_goto (tgt := 1434) hx hb dL_law_1350 (by decide) ?_
    refine W.widen (k := cells + 20) (n := slots + 1000) (by show cells + 1 + 0 + 0 ≤ cells + 20; omega) (by show slots + 6 + 0 + 0 ≤ slots + 1000; omega) ?_
    exact kont ad2 _ H locs ls hI2 ek2 hP hS (lv_sub hl [2, 3, 4, 5, 6] rfl)
  · refine lv_aload_n hx hb dL_law_1331 rfl (lv_at hl 6 rfl) ?_
    refine lv_iconst (v := i32 0) hx hb dL_law_1332 rfl ?_
    refine p_lald (o := 3) (r := 1) (k := 3) (n := 1) (z := 0) hx hb hK hP hI2.a3 rfl rfl (by decide) (by decide) (by decide) (by decide) dL_law_1333 ?_
    refine lv_iload hx hb dL_law_1334 (lv_at hl 0 rfl) ?_
    refine q_l01 hx hb (L1 := 1343) dL_law_1336 dL_law_1339 dL_law_1340 dL_law_1343 (by decide) (by decide) ?_
    refine q_lcmp0 hx hb (hcmp hk9) dL_law_1344 ?_
    refine q_if_eq (a := 0) (tgt := 1350) hx hb rng_0 dL_law_1345 (by decide) (fun _ => ?_) (fun h => absurd rfl h)
    refine lv_goto (tgt := 1434) hx hb dL_law_1350 (by decide) ?_
    refine W.widen (k := cells + 20) (n := slots + 1000) (by show cells + 1 + 0 + 0 ≤ cells + 20; omega) (by show slots + 6 + 0 + 0 ≤ slots + 1000; omega) ?_
    exact kont ad2 _ H locs ls hI2 ek2 hP hS (lv_sub hl [2, 3, 4, 5, 6] rfl)

set_option maxHeartbeats 4000000 in
set_option maxRecDepth 100000 in
theorem lc_likeness {p : Program} {l : Launch} {e : Env} {s : State} {m : MethodId} {below : List Frame} {meth : Method} {c : Code} {args : Array Value} {Qm : State → Prop} {g : GT} {b L : Nat} {xs : Nat → Int32} (hfl : l.stackTraces = false) (hx : p.tables.exec = Jvm.exec) (hb : c.code = cL_law) (hml : c.maxLocals = 7) (hown : s.vm.findClass RL = some m.cls) (hK : KK g s) (hZ : ZZ s.heap.size s s.heap) (hX : va_X b L xs s s.heap) (hbl : b < s.heap.size) (hL : L ≤ 2560) {ad : Nat → Nat → Nat} {S : St} {H : Heap} {locs : List Loc} {ls : Array Slot} {i : Int} {cells slots : Nat} (hI : Inv S) (hi : 0 ≤ i ∧ i + 5 ≤ L) (hP : pic g s.heap.size ad S H) (hS : va_S (fun q => s.heap.size ≤ q) s.heap H locs) (hl : lv_has ls 7 [(4, .int (i32 i)), (0, .ref b), (1, .ref (ad 1 0)), (2, .ref (ad 0 0)), (3, .ref (ad 3 1))]) (hc : cells + 20 ≤ 601024 ∧ slots + 1000 ≤ 7293034)
    (kont : ∀ (ad' : Nat → Nat → Nat) (S' : St) (H : Heap) (locs : List Loc) (ls : Array Slot), Inv S' → (∀ x q, x < 4 → ad' x q = ad x q) → pic g s.heap.size ad' S' H → va_S (fun q => s.heap.size ≤ q) s.heap H locs → lv_has ls 7 [(4, .int (i32 i)), (0, .ref b), (1, .ref (ad' 1 0)), (2, .ref (ad' 0 0)), (3, .ref (ad' 3 1))] → W p l e room_1 s m args below meth c H locs (cells + 20) (slots + 1000) Qm (F0 m 1434 ls [])) :
    W p l e room_1 s m args below meth c H locs cells slots Qm (F0 m 1353 ls []) := by
  refine lv_aload_n hx hb dL_law_1353 rfl (lv_at hl 2 rfl) ?_
  refine lv_aload_n hx hb dL_law_1354 rfl (lv_at hl 1 rfl) ?_
  refine lv_iload hx hb dL_law_1355 (lv_at hl 0 rfl) ?_
  refine lv_iconst (v := i32 1) hx hb dL_law_1357 rfl ?_
  refine q_iadd hx hb dL_law_1358 ?_
  refine p_sld hx hb hX hbl hL hS (by omega) (by omega) dL_law_1359 ?_
  refine lv_aload_n hx hb dL_law_1360 rfl (lv_at hl 1 rfl) ?_
  refine lv_iload hx hb dL_law_1361 (lv_at hl 0 rfl) ?_
  refine lv_iconst (v := i32 2) hx hb dL_law_1363 rfl ?_
  refine q_iadd hx hb dL_law_1364 ?_
  refine p_sld hx hb hX hbl hL hS (by omega) (by omega) dL_law_1365 ?_
  refine lv_aload_n hx hb dL_law_1366 rfl (lv_at hl 4 rfl) ?_
  refine q_callH (As := [.ref (ad 1 0), .int (i32 (zs xs (i + 1))), .int (i32 (zs xs (i + 2))), .ref (ad 3 1)]) (rest := []) hx hb hml hl.1 hown hK hZ hP hS (c_L_likeness l g s.heap.size ad S (zs xs (i + 1)) (zs xs (i + 2)) hfl hI.wc (zs_r _ _) (zs_r _ _) hI.a3) t_680 t_33 t_682 t_681 f_yL_likeness ⟨Nat.le_of_ble_eq_true rfl, Nat.le_of_ble_eq_true rfl⟩ rfl rfl (Nat.le_of_ble_eq_true rfl) dL_law_1367 ⟨by show cells + 2 ≤ 601024; omega, by show slots + 12 ≤ 7293034; omega⟩ (fun r1 ad1 S1 H locs h1 hP hS => ?_)
  obtain ⟨hr1, ek1⟩ := lhP_k h1
  have e0 := lhP_0 h1 zk_likeness.1
  have a3 := (lhP_3 h1 zk_likeness.2).trans hI.a3
  subst hr1
  have hl : lv_has ls 7 [(4, .int (i32 i)), (0, .ref b), (1, .ref (ad1 1 0)), (2, .ref (ad1 0 0)), (3, .ref (ad1 3 1))] := by
    have t9 := hl
    rw [← ek1 1 0 (by decide), ← ek1 0 0 (by decide), ← ek1 3 1 (by decide)] at t9
    exact t9
  have al0 : S1 0 0 (-1) = 1 := by rw [e0]; exact hI.m.al
  refine lv_istore (lv' := [(5, .int (i32 (thr (peC S (zs xs (i + 1)) ∧ ceC S (zs xs (i + 2))) (True) (True)))), (4, .int (i32 i)), (0, .ref b), (1, .ref (ad1 1 0)), (2, .ref (ad1 0 0)), (3, .ref (ad1 3 1))]) hx hb dL_law_1370 hl (by decide) rfl (fun ls hl => ?_)
  refine lv_aload_n hx hb dL_law_1372 rfl (lv_at hl 4 rfl) ?_
  refine lv_aload_n hx hb dL_law_1373 rfl (lv_at hl 2 rfl) ?_
  refine lv_iload hx hb dL_law_1374 (lv_at hl 1 rfl) ?_
  refine lv_iconst (v := i32 1) hx hb dL_law_1376 rfl ?_
  refine q_iadd hx hb dL_law_1377 ?_
  refine p_sld hx hb hX hbl hL hS (by omega) (by omega) dL_law_1378 ?_
  refine lv_aload_n hx hb dL_law_1379 rfl (lv_at hl 2 rfl) ?_
  refine lv_iload hx hb dL_law_1380 (lv_at hl 1 rfl) ?_
  refine lv_iconst (v := i32 2) hx hb dL_law_1382 rfl ?_
  refine q_iadd hx hb dL_law_1383 ?_
  refine p_sld hx hb hX hbl hL hS (by omega) (by omega) dL_law_1384 ?_
  refine q_callV (k := 0) (As := [.int (i32 (zs xs (i + 1))), .int (i32 (zs xs (i + 2)))]) (rest := []) hx hb hml hl.1 hown hK hZ hP hS al0 rfl rfl rfl (c_X4_likeness l g s.heap.size ad1 S1 (zs xs (i + 1)) (zs xs (i + 2)) (wM_e e0 hI.m) (zs_r _ _) (zs_r _ _)) t_952 t_953 (q_callB hK 951 36 954 t_951 t_36 t_954 f_yX4_likeness ⟨Nat.le_of_ble_eq_true rfl, Nat.le_of_ble_eq_true rfl⟩) rfl rfl (Nat.le_of_ble_eq_true rfl) dL_law_1385 ⟨by show cells + 2 + 0 ≤ 601024; omega, by show slots + 12 + 0 ≤ 7293034; omega⟩ (fun r2 ad2 S2 H locs h2 hP hS => ?_)
  have hG := sim_likeness hI (zs_r _ _) (zs_r _ _) h1 h2
  obtain ⟨⟨b9, hr2, hcmp⟩, hth, hI2, ek2⟩ := hG
  subst hr2
  have ek : ∀ x q, x < 4 → ad1 x q = ad2 x q := fun x q h => (ek1 x q h).trans (ek2 x q h).symm
  have hl : lv_has ls 7 [(5, .int (i32 (thr (peC S (zs xs (i + 1)) ∧ ceC S (zs xs (i + 2))) (True) (True)))), (4, .int (i32 i)), (0, .ref b), (1, .ref (ad2 1 0)), (2, .ref (ad2 0 0)), (3, .ref (ad2 3 1))] := by
    have t9 := hl
    rw [ek 1 0 (by decide), ek 0 0 (by decide), ek 3 1 (by decide)] at t9
    exact t9
  refine lv_istore (lv' := [(6, .int (i32 b9)), (5, .int (i32 (thr (peC S (zs xs (i + 1)) ∧ ceC S (zs xs (i + 2))) (True) (True)))), (4, .int (i32 i)), (0, .ref b), (1, .ref (ad2 1 0)), (2, .ref (ad2 0 0)), (3, .ref (ad2 3 1))]) hx hb dL_law_1388 hl (by decide) rfl (fun ls hl => ?_)
  refine lv_aload_n hx hb dL_law_1390 rfl (lv_at hl 5 rfl) ?_
  refine q_callV (k := 0) (As := []) (rest := []) hx hb hml hl.1 hown hK hZ hP hS hI2.m.al rfl rfl rfl (c_X4_thrown l g s.heap.size ad2 S2 hI2.m.al) t_784 t_785 (q_callB hK 783 36 786 t_783 t_36 t_786 f_yX4_thrown ⟨Nat.le_of_ble_eq_true rfl, Nat.le_of_ble_eq_true rfl⟩) rfl rfl (Nat.le_of_ble_eq_true rfl) dL_law_1391 ⟨by show cells + 2 + 0 + 0 ≤ 601024; omega, by show slots + 12 + 0 + 0 ≤ 7293034; omega⟩ (q_an (fun H locs hP hS => ?_))
  refine lv_iload hx hb dL_law_1394 (lv_at hl 1 rfl) ?_
  refine q_icmp_eq (tgt := 1401) hx hb (hP.rg 0 0 27) (thr_rng _ _ _) dL_law_1396 (by decide) (fun _ => ?_) (fun h => absurd hth h)
  refine lv_iload hx hb dL_law_1401 (lv_at hl 1 rfl) ?_
  refine q_if_ne (tgt := 1418) hx hb (thr_rng _ _ _) dL_law_1403 (by decide) (fun hk9 => ?_) (fun hk9 => ?_)
  · refine lv_goto (tgt := 1434) hx hb dL_law_1418 (by decide) ?_
    refine W.widen (k := cells + 20) (n := slots + 1000) (by show cells + 2 + 0 + 0 ≤ cells + 20; omega) (by show slots + 12 + 0 + 0 ≤ slots + 1000; omega) ?_
    exact kont ad2 _ H locs ls hI2 ek2 hP hS (lv_sub hl [2, 3, 4, 5, 6] rfl)
  · refine lv_aload_n hx hb dL_law_1406 rfl (lv_at hl 6 rfl) ?_
    refine lv_iconst (v := i32 0) hx hb dL_law_1407 rfl ?_
    refine p_lald (o := 3) (r := 1) (k := 3) (n := 1) (z := 0) hx hb hK hP hI2.a3 rfl rfl (by decide) (by decide) (by decide) (by decide) dL_law_1408 ?_
    refine lv_iload hx hb dL_law_1409 (lv_at hl 0 rfl) ?_
    refine lv_i2l hx hb dL_law_1411 (wr_64 _) ?_
    refine q_lcmp0 hx hb (hcmp hk9) dL_law_1412 ?_
    refine q_if_eq (a := 0) (tgt := 1418) hx hb rng_0 dL_law_1413 (by decide) (fun _ => ?_) (fun h => absurd rfl h)
    refine lv_goto (tgt := 1434) hx hb dL_law_1418 (by decide) ?_
    refine W.widen (k := cells + 20) (n := slots + 1000) (by show cells + 2 + 0 + 0 ≤ cells + 20; omega) (by show slots + 12 + 0 + 0 ≤ slots + 1000; omega) ?_
    exact kont ad2 _ H locs ls hI2 ek2 hP hS (lv_sub hl [2, 3, 4, 5, 6] rfl)

set_option maxHeartbeats 4000000 in
set_option maxRecDepth 100000 in
theorem lc_balances {p : Program} {l : Launch} {e : Env} {s : State} {m : MethodId} {below : List Frame} {meth : Method} {c : Code} {args : Array Value} {Qm : State → Prop} {g : GT} {b L : Nat} {xs : Nat → Int32} (hfl : l.stackTraces = false) (hx : p.tables.exec = Jvm.exec) (hb : c.code = cL_law) (hml : c.maxLocals = 7) (hown : s.vm.findClass RL = some m.cls) (hK : KK g s) (hZ : ZZ s.heap.size s s.heap) (hX : va_X b L xs s s.heap) (hbl : b < s.heap.size) (hL : L ≤ 2560) {ad : Nat → Nat → Nat} {S : St} {H : Heap} {locs : List Loc} {ls : Array Slot} {i : Int} {cells slots : Nat} (hI : Inv S) (hi : 0 ≤ i ∧ i + 5 ≤ L) (hP : pic g s.heap.size ad S H) (hS : va_S (fun q => s.heap.size ≤ q) s.heap H locs) (hl : lv_has ls 7 [(4, .int (i32 i)), (0, .ref b), (1, .ref (ad 1 0)), (2, .ref (ad 0 0)), (3, .ref (ad 3 1))]) (hc : cells + 20 ≤ 601024 ∧ slots + 1000 ≤ 7293034)
    (kont : ∀ (ad' : Nat → Nat → Nat) (S' : St) (H : Heap) (locs : List Loc) (ls : Array Slot), Inv S' → (∀ x q, x < 4 → ad' x q = ad x q) → pic g s.heap.size ad' S' H → va_S (fun q => s.heap.size ≤ q) s.heap H locs → lv_has ls 7 [(4, .int (i32 i)), (0, .ref b), (1, .ref (ad' 1 0)), (2, .ref (ad' 0 0)), (3, .ref (ad' 3 1))] → W p l e room_1 s m args below meth c H locs (cells + 20) (slots + 1000) Qm (F0 m 1434 ls [])) :
    W p l e room_1 s m args below meth c H locs cells slots Qm (F0 m 1421 ls []) := by
  refine lv_aload_n hx hb dL_law_1421 rfl (lv_at hl 2 rfl) ?_
  refine q_callV (k := 1) (As := []) (rest := []) hx hb hml hl.1 hown hK hZ hP hS hI.a1 rfl rfl rfl (c_X3_balances l g s.heap.size ad S hI.wc) t_137 t_138 (q_callB hK 136 34 139 t_136 t_34 t_139 f_yX3_balances ⟨Nat.le_of_ble_eq_true rfl, Nat.le_of_ble_eq_true rfl⟩) rfl rfl (Nat.le_of_ble_eq_true rfl) dL_law_1422 ⟨by show cells + 0 ≤ 601024; omega, by show slots + 0 ≤ 7293034; omega⟩ (q_an (fun H locs hP hS => ?_))
  have e0 : (blS S 20) 0 = S 0 := by funext b i; exact blS_o (by omega)
  refine lv_aload_n hx hb dL_law_1425 rfl (lv_at hl 3 rfl) ?_
  refine q_callV (k := 0) (As := []) (rest := [.int (i32 (b2 (∀ j, 0 ≤ j → j < 20 → tbC S 20 j = S 2 3 j - S 2 4 j)))]) hx hb hml hl.1 hown hK hZ hP hS (by rw [e0]; exact hI.m.al) rfl rfl rfl (c_X4_balances l g s.heap.size ad (blS S 20) (wM_e e0 hI.m) (by rw [e0]; exact hI.hla2)) t_956 t_957 (q_callB hK 955 36 958 t_955 t_36 t_958 f_yX4_balances ⟨Nat.le_of_ble_eq_true rfl, Nat.le_of_ble_eq_true rfl⟩) rfl rfl (Nat.le_of_ble_eq_true rfl) dL_law_1426 ⟨by show cells + 0 + 0 ≤ 601024; omega, by show slots + 0 + 0 ≤ 7293034; omega⟩ (q_an (fun H locs hP hS => ?_))
  have hq := b2_c (sim_balances hI)
  have hI2 : Inv (st (blS S 20) 0 0 27 0) := hI.keep (fun a b i q => by rw [st_at, if_neg (by omega), blS_o (by omega)])
  rw [hq]
  refine q_icmp_eq (tgt := 1434) hx hb (b2_rng _) (b2_rng _) dL_law_1429 (by decide) (fun _ => ?_) (fun h => absurd rfl h)
  refine W.widen (k := cells + 20) (n := slots + 1000) (by show cells + 0 + 0 ≤ cells + 20; omega) (by show slots + 0 + 0 ≤ slots + 1000; omega) ?_
  exact kont ad _ H locs ls hI2 (fun _ _ _ => rfl) hP hS (lv_sub hl [0, 1, 2, 3, 4] rfl)
