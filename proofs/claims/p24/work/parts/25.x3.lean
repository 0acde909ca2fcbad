set_option maxHeartbeats 4000000 in
set_option maxRecDepth 100000 in
theorem c_X3_cartoonNumbered (l : Launch) (g : GT) (base : Nat) (ad : Nat → Nat → Nat) (S : St) (z : Int) (hfl : l.stackTraces = false) (hala : S 1 0 (-1) = 1) (hrn : rng z) : vx_Met l yX3_cartoonNumbered [Cond.code yX3_cartoonNumbered cX3_cartoonNumbered 3 (some (FieldType.object "WeftHouse$Cartoon"))] ({ frames := 6, cells := 1, slots := 6, locals := 90 }) (va_Pc [.ref (ad 1 0), .int (i32 (z))] (PK g base ad S)) (gQ g base (fun rr9 ad9 S9 => (ceC S z) ∧ an (some (.ref (ad (4 + z.toNat) 0))) ad S rr9 ad9 S9)) (xQ g base ad S (fun E => E = eB ∧ ¬ ceC S z)) 1 6 (fun q => base ≤ q) := by
  refine mk_mx (own := RX3) (lv0 := [(0, .ref (ad 1 0)), (1, .int (i32 (z)))]) (by decide) rfl (Nat.le_of_ble_eq_true rfl) rfl ?_
  intro p e s m below meth cz av Qm hx hb hr hml hown hlocks hout hK hZ hP hQm ls hl
  have hS : va_S (fun q => base ≤ q) s.heap s.heap [] := va_S.rf
  have rS : ∀ (a1 b1 : Nat) (i1 : Int), rng (S a1 b1 i1) := fun a1 b1 i1 => hP.rg a1 b1 i1
  refine lv_iload_n hx hb dX3_cartoonNumbered_0 rfl (lv_at hl 1 rfl) ?_
  refine q_if_lt (tgt := 13) hx hb hrn dX3_cartoonNumbered_1 (by decide) (fun c_1 => ?_) (fun c_1 => ?_)
  · -- z < 0
    refine lv_null hx hb dX3_cartoonNumbered_13 ?_
    refine lv_goto (tgt := 23) hx hb dX3_cartoonNumbered_14 (by decide) ?_
    refine lv_astore_nN (lv' := [(2, .null), (0, .ref (ad 1 0)), (1, .int (i32 (z)))]) hx hb dX3_cartoonNumbered_23 rfl hl (by decide) rfl (fun ls hl => ?_)
    refine lv_aload_nN hx hb dX3_cartoonNumbered_24 rfl (lv_at hl 0 rfl) ?_
    refine lv_ifnonnullN hx hb dX3_cartoonNumbered_25 ?_
    subst hQm
    exact q_throwW hx hb hfl hml hl.1 hown hK hZ (by decide) t_138 t_23 t_411 (at_B hK) ao_B hP hS dX3_cartoonNumbered_28 dX3_cartoonNumbered_31 dX3_cartoonNumbered_32 dX3_cartoonNumbered_35 dX3_cartoonNumbered_38 hout (by decide) (by decide) (by decide) (by decide) hlocks (by exact ⟨rfl, by unfold ceC; omega⟩) (by decide) (by decide)
  · -- 0 ≤ z
    refine lv_iload_n hx hb dX3_cartoonNumbered_4 rfl (lv_at hl 1 rfl) ?_
    refine lv_aload_n hx hb dX3_cartoonNumbered_5 rfl (lv_at hl 0 rfl) ?_
    refine p_get (k := 1) hx hb hown hK hP hala rfl rfl rfl (lay_X3 hK) 2 67 (by decide) t_67 rfl rfl dX3_cartoonNumbered_6 ?_
    refine p_alen (k := 1) (r := 3) (q := 3) (n := 5) hx hb hK hP hala rfl rfl (by decide) (by decide) dX3_cartoonNumbered_9 ?_
    refine q_icmp_lt (tgt := 17) hx hb hrn ⟨by decide, by decide⟩ dX3_cartoonNumbered_10 (by decide) (fun c_2 => ?_) (fun c_2 => ?_)
    · -- z < 5
      refine lv_aload_n hx hb dX3_cartoonNumbered_17 rfl (lv_at hl 0 rfl) ?_
      refine p_get (k := 1) hx hb hown hK hP hala rfl rfl rfl (lay_X3 hK) 2 67 (by decide) t_67 rfl rfl dX3_cartoonNumbered_18 ?_
      refine lv_iload_n hx hb dX3_cartoonNumbered_21 rfl (lv_at hl 1 rfl) ?_
      refine p_aldC (k := 1) (r := 3) (n := 5) hx hb hK hP hala rfl rfl (by decide) (by decide) (by omega) (by omega) dX3_cartoonNumbered_22 ?_
      by_cases f_3 : S 1 3 z = 1
      · rw [if_pos f_3]
        refine lv_astore_n (lv' := [(2, .ref (ad (4 + z.toNat) 0)), (0, .ref (ad 1 0)), (1, .int (i32 (z)))]) hx hb dX3_cartoonNumbered_23 rfl hl (by decide) rfl (fun ls hl => ?_)
        refine lv_aload_n hx hb dX3_cartoonNumbered_24 rfl (lv_at hl 0 rfl) ?_
        refine lv_ifnonnull (tgt := 39) hx hb dX3_cartoonNumbered_25 (by decide) ?_
        refine lv_aload_n hx hb dX3_cartoonNumbered_39 rfl (lv_at hl 0 rfl) ?_
        subst hQm
        refine vx_ret ?_
        exact q_aret hx hb hr hlocks hP hS ⟨(by unfold ceC; omega), ⟨rfl, rfl, rfl⟩⟩ (by decide) (by decide) dX3_cartoonNumbered_40
      · rw [if_neg f_3]
        refine lv_astore_nN (lv' := [(2, .null), (0, .ref (ad 1 0)), (1, .int (i32 (z)))]) hx hb dX3_cartoonNumbered_23 rfl hl (by decide) rfl (fun ls hl => ?_)
        refine lv_aload_nN hx hb dX3_cartoonNumbered_24 rfl (lv_at hl 0 rfl) ?_
        refine lv_ifnonnullN hx hb dX3_cartoonNumbered_25 ?_
        subst hQm
        exact q_throwW hx hb hfl hml hl.1 hown hK hZ (by decide) t_138 t_23 t_411 (at_B hK) ao_B hP hS dX3_cartoonNumbered_28 dX3_cartoonNumbered_31 dX3_cartoonNumbered_32 dX3_cartoonNumbered_35 dX3_cartoonNumbered_38 hout (by decide) (by decide) (by decide) (by decide) hlocks (by exact ⟨rfl, by unfold ceC; omega⟩) (by decide) (by decide)
    · -- 5 ≤ z
      refine lv_null hx hb dX3_cartoonNumbered_13 ?_
      refine lv_goto (tgt := 23) hx hb dX3_cartoonNumbered_14 (by decide) ?_
      refine lv_astore_nN (lv' := [(2, .null), (0, .ref (ad 1 0)), (1, .int (i32 (z)))]) hx hb dX3_cartoonNumbered_23 rfl hl (by decide) rfl (fun ls hl => ?_)
      refine lv_aload_nN hx hb dX3_cartoonNumbered_24 rfl (lv_at hl 0 rfl) ?_
      refine lv_ifnonnullN hx hb dX3_cartoonNumbered_25 ?_
      subst hQm
      exact q_throwW hx hb hfl hml hl.1 hown hK hZ (by decide) t_138 t_23 t_411 (at_B hK) ao_B hP hS dX3_cartoonNumbered_28 dX3_cartoonNumbered_31 dX3_cartoonNumbered_32 dX3_cartoonNumbered_35 dX3_cartoonNumbered_38 hout (by decide) (by decide) (by decide) (by decide) hlocks (by exact ⟨rfl, by unfold ceC; omega⟩) (by decide) (by decide)

set_option maxHeartbeats 4000000 in
set_option maxRecDepth 100000 in
theorem c_X3_pieceNumbered (l : Launch) (g : GT) (base : Nat) (ad : Nat → Nat → Nat) (S : St) (z : Int) (hfl : l.stackTraces = false) (hala : S 1 0 (-1) = 1) (hrn : rng z) : vx_Met l yX3_pieceNumbered [Cond.code yX3_pieceNumbered cX3_pieceNumbered 3 (some (FieldType.object "WeftHouse$Piece"))] ({ frames := 6, cells := 1, slots := 6, locals := 90 }) (va_Pc [.ref (ad 1 0), .int (i32 (z))] (PK g base ad S)) (gQ g base (fun rr9 ad9 S9 => (peC S z) ∧ an (some (.ref (ad (10 + z.toNat) 0))) ad S rr9 ad9 S9)) (xQ g base ad S (fun E => E = eB ∧ ¬ peC S z)) 1 6 (fun q => base ≤ q) := by
  refine mk_mx (own := RX3) (lv0 := [(0, .ref (ad 1 0)), (1, .int (i32 (z)))]) (by decide) rfl (Nat.le_of_ble_eq_true rfl) rfl ?_
  intro p e s m below meth cz av Qm hx hb hr hml hown hlocks hout hK hZ hP hQm ls hl
  have hS : va_S (fun q => base ≤ q) s.heap s.heap [] := va_S.rf
  have rS : ∀ (a1 b1 : Nat) (i1 : Int), rng (S a1 b1 i1) := fun a1 b1 i1 => hP.rg a1 b1 i1
  refine lv_iload_n hx hb dX3_pieceNumbered_0 rfl (lv_at hl 1 rfl) ?_
  refine q_if_lt (tgt := 13) hx hb hrn dX3_pieceNumbered_1 (by decide) (fun c_1 => ?_) (fun c_1 => ?_)
  · -- z < 0
    refine lv_null hx hb dX3_pieceNumbered_13 ?_
    refine lv_goto (tgt := 23) hx hb dX3_pieceNumbered_14 (by decide) ?_
    refine lv_astore_nN (lv' := [(2, .null), (0, .ref (ad 1 0)), (1, .int (i32 (z)))]) hx hb dX3_pieceNumbered_23 rfl hl (by decide) rfl (fun ls hl => ?_)
    refine lv_aload_nN hx hb dX3_pieceNumbered_24 rfl (lv_at hl 0 rfl) ?_
    refine lv_ifnonnullN hx hb dX3_pieceNumbered_25 ?_
    subst hQm
    exact q_throwW hx hb hfl hml hl.1 hown hK hZ (by decide) t_138 t_23 t_277 (at_B hK) ao_B hP hS dX3_pieceNumbered_28 dX3_pieceNumbered_31 dX3_pieceNumbered_32 dX3_pieceNumbered_35 dX3_pieceNumbered_38 hout (by decide) (by decide) (by decide) (by decide) hlocks (by exact ⟨rfl, by unfold peC; omega⟩) (by decide) (by decide)
  · -- 0 ≤ z
    refine lv_iload_n hx hb dX3_pieceNumbered_4 rfl (lv_at hl 1 rfl) ?_
    refine lv_aload_n hx hb dX3_pieceNumbered_5 rfl (lv_at hl 0 rfl) ?_
    refine p_get (k := 1) hx hb hown hK hP hala rfl rfl rfl (lay_X3 hK) 5 70 (by decide) t_70 rfl rfl dX3_pieceNumbered_6 ?_
    refine p_alen (k := 1) (r := 6) (q := 4) (n := 20) hx hb hK hP hala rfl rfl (by decide) (by decide) dX3_pieceNumbered_9 ?_
    refine q_icmp_lt (tgt := 17) hx hb hrn ⟨by decide, by decide⟩ dX3_pieceNumbered_10 (by decide) (fun c_2 => ?_) (fun c_2 => ?_)
    · -- z < 20
      refine lv_aload_n hx hb dX3_pieceNumbered_17 rfl (lv_at hl 0 rfl) ?_
      refine p_get (k := 1) hx hb hown hK hP hala rfl rfl rfl (lay_X3 hK) 5 70 (by decide) t_70 rfl rfl dX3_pieceNumbered_18 ?_
      refine lv_iload_n hx hb dX3_pieceNumbered_21 rfl (lv_at hl 1 rfl) ?_
      refine p_aldP (k := 1) (r := 6) (n := 20) hx hb hK hP hala rfl rfl (by decide) (by decide) (by omega) (by omega) dX3_pieceNumbered_22 ?_
      by_cases f_3 : S 1 6 z = 1
      · rw [if_pos f_3]
        refine lv_astore_n (lv' := [(2, .ref (ad (10 + z.toNat) 0)), (0, .ref (ad 1 0)), (1, .int (i32 (z)))]) hx hb dX3_pieceNumbered_23 rfl hl (by decide) rfl (fun ls hl => ?_)
        refine lv_aload_n hx hb dX3_pieceNumbered_24 rfl (lv_at hl 0 rfl) ?_
        refine lv_ifnonnull (tgt := 39) hx hb dX3_pieceNumbered_25 (by decide) ?_
        refine lv_aload_n hx hb dX3_pieceNumbered_39 rfl (lv_at hl 0 rfl) ?_
        subst hQm
        refine vx_ret ?_
        exact q_aret hx hb hr hlocks hP hS ⟨(by unfold peC; omega), ⟨rfl, rfl, rfl⟩⟩ (by decide) (by decide) dX3_pieceNumbered_40
      · rw [if_neg f_3]
        refine lv_astore_nN (lv' := [(2, .null), (0, .ref (ad 1 0)), (1, .int (i32 (z)))]) hx hb dX3_pieceNumbered_23 rfl hl (by decide) rfl (fun ls hl => ?_)
        refine lv_aload_nN hx hb dX3_pieceNumbered_24 rfl (lv_at hl 0 rfl) ?_
        refine lv_ifnonnullN hx hb dX3_pieceNumbered_25 ?_
        subst hQm
        exact q_throwW hx hb hfl hml hl.1 hown hK hZ (by decide) t_138 t_23 t_277 (at_B hK) ao_B hP hS dX3_pieceNumbered_28 dX3_pieceNumbered_31 dX3_pieceNumbered_32 dX3_pieceNumbered_35 dX3_pieceNumbered_38 hout (by decide) (by decide) (by decide) (by decide) hlocks (by exact ⟨rfl, by unfold peC; omega⟩) (by decide) (by decide)
    · -- 20 ≤ z
      refine lv_null hx hb dX3_pieceNumbered_13 ?_
      refine lv_goto (tgt := 23) hx hb dX3_pieceNumbered_14 (by decide) ?_
      refine lv_astore_nN (lv' := [(2, .null), (0, .ref (ad 1 0)), (1, .int (i32 (z)))]) hx hb dX3_pieceNumbered_23 rfl hl (by decide) rfl (fun ls hl => ?_)
      refine lv_aload_nN hx hb dX3_pieceNumbered_24 rfl (lv_at hl 0 rfl) ?_
      refine lv_ifnonnullN hx hb dX3_pieceNumbered_25 ?_
      subst hQm
      exact q_throwW hx hb hfl hml hl.1 hown hK hZ (by decide) t_138 t_23 t_277 (at_B hK) ao_B hP hS dX3_pieceNumbered_28 dX3_pieceNumbered_31 dX3_pieceNumbered_32 dX3_pieceNumbered_35 dX3_pieceNumbered_38 hout (by decide) (by decide) (by decide) (by decide) hlocks (by exact ⟨rfl, by unfold peC; omega⟩) (by decide) (by decide)

set_option maxHeartbeats 4000000 in
set_option maxRecDepth 100000 in
theorem c_X3_requireColour (l : Launch) (g : GT) (base : Nat) (ad : Nat → Nat → Nat) (S : St) (u : Int) (hfl : l.stackTraces = false) (hrn : rng u) : vx_Met l yX3_requireColour [Cond.code yX3_requireColour cX3_requireColour 1 (none : Option FieldType)] ({ frames := 6, cells := 1, slots := 6, locals := 90 }) (va_Pc [.int (i32 (u))] (PK g base ad S)) (gQ g base (fun rr9 ad9 S9 => (0 ≤ u ∧ u < 6) ∧ an (none) ad S rr9 ad9 S9)) (xQ g base ad S (fun E => E = eB ∧ ¬ (0 ≤ u ∧ u < 6))) 1 6 (fun q => base ≤ q) := by
  refine mk_mx (own := RX3) (lv0 := [(0, .int (i32 (u)))]) (by decide) rfl (Nat.le_of_ble_eq_true rfl) rfl ?_
  intro p e s m below meth cz av Qm hx hb hr hml hown hlocks hout hK hZ hP hQm ls hl
  have hS : va_S (fun q => base ≤ q) s.heap s.heap [] := va_S.rf
  have rS : ∀ (a1 b1 : Nat) (i1 : Int), rng (S a1 b1 i1) := fun a1 b1 i1 => hP.rg a1 b1 i1
  refine lv_iload_n hx hb dX3_requireColour_0 rfl (lv_at hl 0 rfl) ?_
  refine q_if_lt (tgt := 10) hx hb hrn dX3_requireColour_1 (by decide) (fun c_1 => ?_) (fun c_1 => ?_)
  · -- u < 0
    subst hQm
    exact q_throwW hx hb hfl hml hl.1 hown hK hZ (by decide) t_138 t_23 t_179 (at_B hK) ao_B hP hS dX3_requireColour_10 dX3_requireColour_13 dX3_requireColour_14 dX3_requireColour_17 dX3_requireColour_20 hout (by decide) (by decide) (by decide) (by decide) hlocks (by exact ⟨rfl, by omega⟩) (by decide) (by decide)
  · -- 0 ≤ u
    refine lv_iload_n hx hb dX3_requireColour_4 rfl (lv_at hl 0 rfl) ?_
    refine lv_bipush (v := i32 (6)) hx hb dX3_requireColour_5 (by decide) ?_
    refine q_icmp_lt (tgt := 21) hx hb hrn ⟨by decide, by decide⟩ dX3_requireColour_7 (by decide) (fun c_2 => ?_) (fun c_2 => ?_)
    · -- u < 6
      subst hQm
      refine vx_ret ?_
      exact q_vret hx hb hr hlocks hP hS ⟨(by first | omega | (simp only [*]; done) | simp_all), ⟨rfl, rfl, rfl⟩⟩ (by decide) (by decide) dX3_requireColour_21
    · -- 6 ≤ u
      subst hQm
      exact q_throwW hx hb hfl hml hl.1 hown hK hZ (by decide) t_138 t_23 t_179 (at_B hK) ao_B hP hS dX3_requireColour_10 dX3_requireColour_13 dX3_requireColour_14 dX3_requireColour_17 dX3_requireColour_20 hout (by decide) (by decide) (by decide) (by decide) hlocks (by exact ⟨rfl, by omega⟩) (by decide) (by decide)

set_option maxHeartbeats 4000000 in
set_option maxRecDepth 100000 in
theorem c_X3_requireSecondColumn (l : Launch) (g : GT) (base : Nat) (ad : Nat → Nat → Nat) (S : St) (o : Nat) (q : Int) (hfl : l.stackTraces = false) (hal : S o 0 (-1) = 1) (hkd : kd o = 5) (hrn : rng q) : vx_Met l yX3_requireSecondColumn [Cond.code yX3_requireSecondColumn cX3_requireSecondColumn 2 (none : Option FieldType)] ({ frames := 6, cells := 1, slots := 6, locals := 90 }) (va_Pc [.ref (ad o 0), .int (i32 (q))] (PK g base ad S)) (gQ g base (fun rr9 ad9 S9 => (1 ≤ q ∧ q < S o 0 0) ∧ an (none) ad S rr9 ad9 S9)) (xQ g base ad S (fun E => E = eB ∧ ¬ (1 ≤ q ∧ q < S o 0 0))) 1 6 (fun q => base ≤ q) := by
  refine mk_mx (own := RX3) (lv0 := [(0, .ref (ad o 0)), (1, .int (i32 (q)))]) (by decide) rfl (Nat.le_of_ble_eq_true rfl) rfl ?_
  intro p e s m below meth cz av Qm hx hb hr hml hown hlocks hout hK hZ hP hQm ls hl
  have hS : va_S (fun q => base ≤ q) s.heap s.heap [] := va_S.rf
  have rS : ∀ (a1 b1 : Nat) (i1 : Int), rng (S a1 b1 i1) := fun a1 b1 i1 => hP.rg a1 b1 i1
  refine lv_iload_n hx hb dX3_requireSecondColumn_0 rfl (lv_at hl 1 rfl) ?_
  refine lv_iconst (v := i32 (1)) hx hb dX3_requireSecondColumn_1 rfl ?_
  refine q_icmp_lt (tgt := 13) hx hb hrn ⟨by decide, by decide⟩ dX3_requireSecondColumn_2 (by decide) (fun c_1 => ?_) (fun c_1 => ?_)
  · -- q < 1
    subst hQm
    exact q_throwW hx hb hfl hml hl.1 hown hK hZ (by decide) t_138 t_23 t_667 (at_B hK) ao_B hP hS dX3_requireSecondColumn_13 dX3_requireSecondColumn_16 dX3_requireSecondColumn_17 dX3_requireSecondColumn_20 dX3_requireSecondColumn_23 hout (by decide) (by decide) (by decide) (by decide) hlocks (by exact ⟨rfl, by omega⟩) (by decide) (by decide)
  · -- 1 ≤ q
    refine lv_iload_n hx hb dX3_requireSecondColumn_5 rfl (lv_at hl 1 rfl) ?_
    refine lv_aload_n hx hb dX3_requireSecondColumn_6 rfl (lv_at hl 0 rfl) ?_
    refine q_callV (k := 5) hx hb hml hl.1 hown hK hZ hP hS hal hkd rfl rfl (c_X2_width l g base ad S o hal hkd) t_279 t_280 (q_callB hK 278 24 281 t_278 t_24 t_281 f_yX2_width ⟨by decide, by decide⟩) rfl rfl (Nat.le_of_ble_eq_true rfl) dX3_requireSecondColumn_7 ⟨by decide, by decide⟩  (q_an (fun H locs hP hS => ?_))
    refine q_icmp_lt (tgt := 24) hx hb hrn (hP.rg _ _ _) dX3_requireSecondColumn_10 (by decide) (fun c_2 => ?_) (fun c_2 => ?_)
    · -- q < (S o 0 0)
      subst hQm
      refine vx_ret ?_
      exact q_vret hx hb hr hlocks hP hS ⟨(by first | omega | (simp only [*]; done) | simp_all), ⟨rfl, rfl, rfl⟩⟩ (by decide) (by decide) dX3_requireSecondColumn_24
    · -- (S o 0 0) ≤ q
      subst hQm
      exact q_throwW hx hb hfl hml hl.1 hown hK hZ (by decide) t_138 t_23 t_667 (at_B hK) ao_B hP hS dX3_requireSecondColumn_13 dX3_requireSecondColumn_16 dX3_requireSecondColumn_17 dX3_requireSecondColumn_20 dX3_requireSecondColumn_23 hout (by decide) (by decide) (by decide) (by decide) hlocks (by exact ⟨rfl, by omega⟩) (by decide) (by decide)

set_option maxHeartbeats 4000000 in
set_option maxRecDepth 100000 in
theorem c_X3_requireDone (l : Launch) (g : GT) (base : Nat) (ad : Nat → Nat → Nat) (S : St) (o : Nat) (hfl : l.stackTraces = false) (hal : S o 0 (-1) = 1) (hkd : kd o = 5) (hwd : 0 ≤ S o 0 0 ∧ S o 0 0 ≤ 24) (hht : 0 ≤ S o 0 1 ∧ S o 0 1 ≤ 10) : vx_Met l yX3_requireDone [Cond.code yX3_requireDone cX3_requireDone 1 (none : Option FieldType)] ({ frames := 6, cells := 1, slots := 6, locals := 90 }) (va_Pc [.ref (ad o 0)] (PK g base ad S)) (gQ g base (fun rr9 ad9 S9 => (dnC S o) ∧ an (none) ad S rr9 ad9 S9)) (xQ g base ad S (fun E => E = eS ∧ ¬ dnC S o)) 1 6 (fun q => base ≤ q) := by
  refine mk_mx (own := RX3) (lv0 := [(0, .ref (ad o 0))]) (by decide) rfl (Nat.le_of_ble_eq_true rfl) rfl ?_
  intro p e s m below meth cz av Qm hx hb hr hml hown hlocks hout hK hZ hP hQm ls hl
  have hS : va_S (fun q => base ≤ q) s.heap s.heap [] := va_S.rf
  have rS : ∀ (a1 b1 : Nat) (i1 : Int), rng (S a1 b1 i1) := fun a1 b1 i1 => hP.rg a1 b1 i1
  refine lv_aload_n hx hb dX3_requireDone_0 rfl (lv_at hl 0 rfl) ?_
  refine q_callV (k := 5) hx hb hml hl.1 hown hK hZ hP hS hal hkd rfl rfl (c_X2_isDone l g base ad S o hal hkd (by omega) (by omega)) t_291 t_292 (q_callB hK 290 24 293 t_290 t_24 t_293 f_yX2_isDone ⟨by decide, by decide⟩) rfl rfl (Nat.le_of_ble_eq_true rfl) dX3_requireDone_1 ⟨by decide, by decide⟩  (q_an (fun H locs hP hS => ?_))
  refine q_if_neb (tgt := 18) hx hb dX3_requireDone_4 (by decide) (fun c_1 => ?_) (fun c_1 => ?_)
  · -- wnC S o = S o 0 0 * S o 0 1
    subst hQm
    refine vx_ret ?_
    exact q_vret hx hb hr hlocks hP hS ⟨(by unfold dnC; assumption), ⟨rfl, rfl, rfl⟩⟩ (by decide) (by decide) dX3_requireDone_18
  · -- ¬ (wnC S o = S o 0 0 * S o 0 1)
    subst hQm
    exact q_throwW hx hb hfl hml hl.1 hown hK hZ (by decide) t_227 t_21 t_599 (at_S hK) ao_S hP hS dX3_requireDone_7 dX3_requireDone_10 dX3_requireDone_11 dX3_requireDone_14 dX3_requireDone_17 hout (by decide) (by decide) (by decide) (by decide) hlocks (by exact ⟨rfl, by unfold dnC; assumption⟩) (by decide) (by decide)

set_option maxHeartbeats 4000000 in
set_option maxRecDepth 100000 in
theorem c_X3_requireTwoDone (l : Launch) (g : GT) (base : Nat) (ad : Nat → Nat → Nat) (S : St) (x z : Int) (o q : Nat) (hfl : l.stackTraces = false) (hrn : rng x) (hrn2 : rng z) (hal : S o 0 (-1) = 1) (hkd : kd o = 5) (hwd : 0 ≤ S o 0 0 ∧ S o 0 0 ≤ 24) (hht : 0 ≤ S o 0 1 ∧ S o 0 1 ≤ 10) (halx : S q 0 (-1) = 1) (hkd2 : kd q = 5) (hqw : 0 ≤ S q 0 0 ∧ S q 0 0 ≤ 24) (hqh : 0 ≤ S q 0 1 ∧ S q 0 1 ≤ 10) : vx_Met l yX3_requireTwoDone [Cond.code yX3_requireTwoDone cX3_requireTwoDone 4 (none : Option FieldType)] ({ frames := 7, cells := 2, slots := 12, locals := 110 }) (va_Pc [.int (i32 (x)), .int (i32 (z)), .ref (ad o 0), .ref (ad q 0)] (PK g base ad S)) (gQ g base (fun rr9 ad9 S9 => (x ≠ z ∧ dnC S o ∧ dnC S q) ∧ an (none) ad S rr9 ad9 S9)) (xQ g base ad S (fun E => (E = eA ∧ x = z) ∨ (E = eS ∧ x ≠ z ∧ ¬ (dnC S o ∧ dnC S q)))) 2 12 (fun q => base ≤ q) := by
  refine mk_mx (own := RX3) (lv0 := [(0, .int (i32 (x))), (1, .int (i32 (z))), (2, .ref (ad o 0)), (3, .ref (ad q 0))]) (by decide) rfl (Nat.le_of_ble_eq_true rfl) rfl ?_
  intro p e s m below meth cz av Qm hx hb hr hml hown hlocks hout hK hZ hP hQm ls hl
  have hS : va_S (fun q => base ≤ q) s.heap s.heap [] := va_S.rf
  have rS : ∀ (a1 b1 : Nat) (i1 : Int), rng (S a1 b1 i1) := fun a1 b1 i1 => hP.rg a1 b1 i1
  refine lv_iload_n hx hb dX3_requireTwoDone_0 rfl (lv_at hl 0 rfl) ?_
  refine lv_iload_n hx hb dX3_requireTwoDone_1 rfl (lv_at hl 1 rfl) ?_
  refine q_icmp_ne (tgt := 16) hx hb hrn hrn2 dX3_requireTwoDone_2 (by decide) (fun c_1 => ?_) (fun c_1 => ?_)
  · -- x ≠ z
    refine lv_aload_n hx hb dX3_requireTwoDone_16 rfl (lv_at hl 2 rfl) ?_
    refine q_callSx hx hb hml hl.1 hown hK hZ hP hS (c_X3_requireDone l g base ad S o hfl hal hkd (by omega) (by omega)) t_597 (q_callB hK 596 15 598 t_596 t_15 t_598 f_yX3_requireDone ⟨by decide, by decide⟩) rfl rfl (Nat.le_of_ble_eq_true rfl) dX3_requireTwoDone_17 ⟨by decide, by decide⟩ (fun E ce q9 H locs hE hq9 hv9 hc9 hP hS => by subst hQm; exact q_out hout hlocks hq9 hv9 hc9 hP hS (by exact Or.inr ⟨hE.1, by omega, fun y => hE.2 y.1⟩) (by decide) (by decide)) (q_anc (fun hq2 H locs hP hS => ?_))
    refine lv_aload_n hx hb dX3_requireTwoDone_20 rfl (lv_at hl 3 rfl) ?_
    refine q_callSx hx hb hml hl.1 hown hK hZ hP hS (c_X3_requireDone l g base ad S q hfl halx hkd2 (by omega) (by omega)) t_597 (q_callB hK 596 15 598 t_596 t_15 t_598 f_yX3_requireDone ⟨by decide, by decide⟩) rfl rfl (Nat.le_of_ble_eq_true rfl) dX3_requireTwoDone_21 ⟨by decide, by decide⟩ (fun E ce q9 H locs hE hq9 hv9 hc9 hP hS => by subst hQm; exact q_out hout hlocks hq9 hv9 hc9 hP hS (by first | exact hE | exact Or.inl hE | exact Or.inr hE | exact Or.inr (Or.inl hE) | simp_all) (by decide) (by decide)) (q_anc (fun hq3 H locs hP hS => ?_))
    subst hQm
    refine vx_ret ?_
    exact q_vret hx hb hr hlocks hP hS ⟨(by exact ⟨by omega, hq2, hq3⟩), ⟨rfl, rfl, rfl⟩⟩ (by decide) (by decide) dX3_requireTwoDone_24
  · -- x = z
    subst hQm
    exact q_throwW hx hb hfl hml hl.1 hown hK hZ (by decide) t_206 t_20 t_595 (at_A hK) ao_A hP hS dX3_requireTwoDone_5 dX3_requireTwoDone_8 dX3_requireTwoDone_9 dX3_requireTwoDone_12 dX3_requireTwoDone_15 hout (by decide) (by decide) (by decide) (by decide) hlocks (by exact Or.inl ⟨rfl, by omega⟩) (by decide) (by decide)

set_option maxHeartbeats 4000000 in
set_option maxRecDepth 100000 in
theorem c_X3_requireRoomForPiece (l : Launch) (g : GT) (base : Nat) (ad : Nat → Nat → Nat) (S : St)  (hfl : l.stackTraces = false) (hala : S 1 0 (-1) = 1) : vx_Met l yX3_requireRoomForPiece [Cond.code yX3_requireRoomForPiece cX3_requireRoomForPiece 1 (none : Option FieldType)] ({ frames := 6, cells := 1, slots := 6, locals := 90 }) (va_Pc [.ref (ad 1 0)] (PK g base ad S)) (gQ g base (fun rr9 ad9 S9 => (S 1 0 6 < 20) ∧ an (none) ad S rr9 ad9 S9)) (xQ g base ad S (fun E => E = eS ∧ ¬ (S 1 0 6 < 20))) 1 6 (fun q => base ≤ q) := by
  refine mk_mx (own := RX3) (lv0 := [(0, .ref (ad 1 0))]) (by decide) rfl (Nat.le_of_ble_eq_true rfl) rfl ?_
  intro p e s m below meth cz av Qm hx hb hr hml hown hlocks hout hK hZ hP hQm ls hl
  have hS : va_S (fun q => base ≤ q) s.heap s.heap [] := va_S.rf
  have rS : ∀ (a1 b1 : Nat) (i1 : Int), rng (S a1 b1 i1) := fun a1 b1 i1 => hP.rg a1 b1 i1
  refine lv_aload_n hx hb dX3_requireRoomForPiece_0 rfl (lv_at hl 0 rfl) ?_
  refine p_get (k := 1) hx hb hown hK hP hala rfl rfl rfl (lay_X3 hK) 6 71 (by decide) t_71 rfl rfl dX3_requireRoomForPiece_1 ?_
  refine lv_bipush (v := i32 (20)) hx hb dX3_requireRoomForPiece_4 (by decide) ?_
  refine q_icmp_lt (tgt := 20) hx hb (hP.rg _ _ _) ⟨by decide, by decide⟩ dX3_requireRoomForPiece_6 (by decide) (fun c_1 => ?_) (fun c_1 => ?_)
  · -- (S 1 0 6) < 20
    subst hQm
    refine vx_ret ?_
    exact q_vret hx hb hr hlocks hP hS ⟨(by first | omega | (simp only [*]; done) | simp_all), ⟨rfl, rfl, rfl⟩⟩ (by decide) (by decide) dX3_requireRoomForPiece_20
  · -- 20 ≤ (S 1 0 6)
    subst hQm
    exact q_throwW hx hb hfl hml hl.1 hown hK hZ (by decide) t_227 t_21 t_455 (at_S hK) ao_S hP hS dX3_requireRoomForPiece_9 dX3_requireRoomForPiece_12 dX3_requireRoomForPiece_13 dX3_requireRoomForPiece_16 dX3_requireRoomForPiece_19 hout (by decide) (by decide) (by decide) (by decide) hlocks (by exact ⟨rfl, by omega⟩) (by decide) (by decide)
