set_option maxHeartbeats 4000000 in
set_option maxRecDepth 100000 in
theorem c_X3_valueAt (l : Launch) (g : GT) (base : Nat) (ad : Nat → Nat → Nat) (S : St) (o r k n : Nat) (z : Int) (hal : S o 0 (-1) = 1) (hkd : kd o = k) (har : arK k r = some (0, n)) (hr0 : r ≠ 0) (hnn : n < 2147483648) (hrn : rng z) : Met l yX3_valueAt [Cond.code yX3_valueAt cX3_valueAt 2 (some FieldType.int)] ({ frames := 0, cells := 0, slots := 0, locals := 0 }) (va_Pc [.ref (ad o r), .int (i32 (z))] (PK g base ad S)) (gQ g base (an (some (.int (i32 (vA S o r n z)))) ad S)) 0 0 (fun q => base ≤ q) := by
  refine mk_m (own := RX3) (lv0 := [(0, .ref (ad o r)), (1, .int (i32 (z)))]) (by decide) rfl (Nat.le_of_ble_eq_true rfl) rfl ?_
  intro p e s m below meth cz av Qm hx hb hr hml hown hlocks hK hZ hP hQm ls hl
  have hS : va_S (fun q => base ≤ q) s.heap s.heap [] := va_S.rf
  have rS : ∀ (a1 b1 : Nat) (i1 : Int), rng (S a1 b1 i1) := fun a1 b1 i1 => hP.rg a1 b1 i1
  obtain ⟨hz1, hz2⟩ := id hrn
  refine lv_iload_n hx hb dX3_valueAt_0 rfl (lv_at hl 1 rfl) ?_
  have J17 : ∀ (b17 : Int) (H : Heap) (locs : List Loc), (((z < 0) ∧ b17 = -1) ∨ ((0 ≤ z) ∧ (z < n) ∧ b17 = S o r z) ∨ ((0 ≤ z) ∧ (n ≤ z) ∧ b17 = -1)) → pic g base ad S H → va_S (fun q => base ≤ q) s.heap H locs → W p l e ({ frames := 0, cells := 0, slots := 0, locals := 0 } : Room) s m av below meth cz H locs 0 0 Qm (F0 m 17 ls (Value.int (i32 b17) :: [])) := by
    intro b17 H locs hb17 hP hS
    refine q_nm (show (b17 : Int) = vA S o r n z from by unfold vA; split <;> omega) ?_
    subst hQm
    exact q_iret hx hb hr hlocks hP hS ⟨rfl, rfl, rfl⟩ (by decide) (by decide) dX3_valueAt_17
  refine q_if_lt (tgt := 10) hx hb hrn dX3_valueAt_1 (by decide) (fun c_1 => ?_) (fun c_1 => ?_)
  · -- z < 0
    refine lv_iconst (v := i32 (-1)) hx hb dX3_valueAt_10 rfl ?_
    refine lv_goto (tgt := 17) hx hb dX3_valueAt_11 (by decide) ?_
    exact J17 _ _ _ (by first | omega | (simp only [*]; done) | simp_all) hP hS
  · -- 0 ≤ z
    refine lv_iload_n hx hb dX3_valueAt_4 rfl (lv_at hl 1 rfl) ?_
    refine lv_aload_n hx hb dX3_valueAt_5 rfl (lv_at hl 0 rfl) ?_
    refine p_alen (k := k) (r := r) (q := 0) (n := n) hx hb hK hP hal hkd har hr0 (by decide) dX3_valueAt_6 ?_
    refine q_icmp_lt (tgt := 14) hx hb hrn ⟨by omega, by omega⟩ dX3_valueAt_7 (by decide) (fun c_2 => ?_) (fun c_2 => ?_)
    · -- z < n
      refine lv_aload_n hx hb dX3_valueAt_14 rfl (lv_at hl 0 rfl) ?_
      refine lv_iload_n hx hb dX3_valueAt_15 rfl (lv_at hl 1 rfl) ?_
      refine p_iald (k := k) (r := r) (n := n) hx hb hK hP hal hkd har hr0 hnn (by omega) (by omega) dX3_valueAt_16 ?_
      exact J17 _ _ _ (by first | omega | (simp only [*]; done) | simp_all) hP hS
    · -- n ≤ z
      refine lv_iconst (v := i32 (-1)) hx hb dX3_valueAt_10 rfl ?_
      refine lv_goto (tgt := 17) hx hb dX3_valueAt_11 (by decide) ?_
      exact J17 _ _ _ (by first | omega | (simp only [*]; done) | simp_all) hP hS

set_option maxHeartbeats 4000000 in
set_option maxRecDepth 100000 in
theorem c_X3_setAt (l : Launch) (g : GT) (base : Nat) (ad : Nat → Nat → Nat) (S : St) (o r k n : Nat) (z v : Int) (hal : S o 0 (-1) = 1) (hkd : kd o = k) (har : arK k r = some (0, n)) (hr0 : r ≠ 0) (hnn : n < 2147483648) (hrn : rng z) (hrv : rng v) : Met l yX3_setAt [Cond.code yX3_setAt cX3_setAt 3 (none : Option FieldType)] ({ frames := 0, cells := 0, slots := 0, locals := 0 }) (va_Pc [.ref (ad o r), .int (i32 (z)), .int (i32 (v))] (PK g base ad S)) (gQ g base (an (none) ad (sA S o r n z v))) 0 0 (fun q => base ≤ q) := by
  refine mk_m (own := RX3) (lv0 := [(0, .ref (ad o r)), (1, .int (i32 (z))), (2, .int (i32 (v)))]) (by decide) rfl (Nat.le_of_ble_eq_true rfl) rfl ?_
  intro p e s m below meth cz av Qm hx hb hr hml hown hlocks hK hZ hP hQm ls hl
  have hS : va_S (fun q => base ≤ q) s.heap s.heap [] := va_S.rf
  have rS : ∀ (a1 b1 : Nat) (i1 : Int), rng (S a1 b1 i1) := fun a1 b1 i1 => hP.rg a1 b1 i1
  obtain ⟨hz1, hz2⟩ := id hrn
  refine lv_iload_n hx hb dX3_setAt_0 rfl (lv_at hl 1 rfl) ?_
  refine q_if_lt (tgt := 14) hx hb hrn dX3_setAt_1 (by decide) (fun c_1 => ?_) (fun c_1 => ?_)
  · -- z < 0
    subst hQm
    exact q_vret hx hb hr hlocks hP hS ⟨rfl, rfl, (by unfold sA; rw [if_neg (by omega)])⟩ (by decide) (by decide) dX3_setAt_14
  · -- 0 ≤ z
    refine lv_iload_n hx hb dX3_setAt_4 rfl (lv_at hl 1 rfl) ?_
    refine lv_aload_n hx hb dX3_setAt_5 rfl (lv_at hl 0 rfl) ?_
    refine p_alen (k := k) (r := r) (q := 0) (n := n) hx hb hK hP hal hkd har hr0 (by decide) dX3_setAt_6 ?_
    refine q_icmp_ge (tgt := 14) hx hb hrn ⟨by omega, by omega⟩ dX3_setAt_7 (by decide) (fun c_2 => ?_) (fun c_2 => ?_)
    · -- n ≤ z
      subst hQm
      exact q_vret hx hb hr hlocks hP hS ⟨rfl, rfl, (by unfold sA; rw [if_neg (by omega)])⟩ (by decide) (by decide) dX3_setAt_14
    · -- z < n
      refine lv_aload_n hx hb dX3_setAt_10 rfl (lv_at hl 0 rfl) ?_
      refine lv_iload_n hx hb dX3_setAt_11 rfl (lv_at hl 1 rfl) ?_
      refine lv_iload_n hx hb dX3_setAt_12 rfl (lv_at hl 2 rfl) ?_
      refine p_iast (k := k) (r := r) (n := n) hx hb hK hP hS hal hkd har hr0 hnn (by omega) (by omega) hrv dX3_setAt_13 (fun H locs hP hS => ?_)
      generalize eS3 : st S o r z v = S3 at hP
      have qS3 : ∀ (a1 b1 : Nat) (i1 : Int), S3 a1 b1 i1 = if a1 = o ∧ b1 = r ∧ i1 = z then v else S a1 b1 i1 := fun a1 b1 i1 => by rw [← eS3]; exact st_at _ _ _ _ _ _ _ _
      have rS3 : ∀ (a1 b1 : Nat) (i1 : Int), rng (S3 a1 b1 i1) := fun a1 b1 i1 => hP.rg a1 b1 i1
      have aS3_o : S3 o 0 (-1) = 1 := by rw [qS3, if_neg (by omega)]; exact hal
      subst hQm
      exact q_vret hx hb hr hlocks hP hS ⟨rfl, rfl, (by unfold sA; rw [if_pos ⟨by omega, by omega⟩, ← eS3])⟩ (by decide) (by decide) dX3_setAt_14

set_option maxHeartbeats 4000000 in
set_option maxRecDepth 100000 in
theorem c_X0_width (l : Launch) (g : GT) (base : Nat) (ad : Nat → Nat → Nat) (S : St) (o : Nat) (hal : S o 0 (-1) = 1) (hkd : kd o = 4) : Met l yX0_width [Cond.code yX0_width cX0_width 1 (some FieldType.int)] ({ frames := 0, cells := 0, slots := 0, locals := 0 }) (va_Pc [.ref (ad o 0)] (PK g base ad S)) (gQ g base (an (some (.int (i32 (S o 0 0)))) ad S)) 0 0 (fun q => base ≤ q) := by
  refine mk_m (own := RX0) (lv0 := [(0, .ref (ad o 0))]) (by decide) rfl (Nat.le_of_ble_eq_true rfl) rfl ?_
  intro p e s m below meth cz av Qm hx hb hr hml hown hlocks hK hZ hP hQm ls hl
  have hS : va_S (fun q => base ≤ q) s.heap s.heap [] := va_S.rf
  have rS : ∀ (a1 b1 : Nat) (i1 : Int), rng (S a1 b1 i1) := fun a1 b1 i1 => hP.rg a1 b1 i1
  refine lv_aload_n hx hb dX0_width_0 rfl (lv_at hl 0 rfl) ?_
  refine p_get (k := 4) hx hb hown hK hP hal hkd rfl rfl (lay_X0 hK) 0 364 (by decide) t_364 rfl rfl dX0_width_1 ?_
  subst hQm
  exact q_iret hx hb hr hlocks hP hS ⟨rfl, rfl, rfl⟩ (by decide) (by decide) dX0_width_4

set_option maxHeartbeats 4000000 in
set_option maxRecDepth 100000 in
theorem c_X0_height (l : Launch) (g : GT) (base : Nat) (ad : Nat → Nat → Nat) (S : St) (o : Nat) (hal : S o 0 (-1) = 1) (hkd : kd o = 4) : Met l yX0_height [Cond.code yX0_height cX0_height 1 (some FieldType.int)] ({ frames := 0, cells := 0, slots := 0, locals := 0 }) (va_Pc [.ref (ad o 0)] (PK g base ad S)) (gQ g base (an (some (.int (i32 (S o 0 1)))) ad S)) 0 0 (fun q => base ≤ q) := by
  refine mk_m (own := RX0) (lv0 := [(0, .ref (ad o 0))]) (by decide) rfl (Nat.le_of_ble_eq_true rfl) rfl ?_
  intro p e s m below meth cz av Qm hx hb hr hml hown hlocks hK hZ hP hQm ls hl
  have hS : va_S (fun q => base ≤ q) s.heap s.heap [] := va_S.rf
  have rS : ∀ (a1 b1 : Nat) (i1 : Int), rng (S a1 b1 i1) := fun a1 b1 i1 => hP.rg a1 b1 i1
  refine lv_aload_n hx hb dX0_height_0 rfl (lv_at hl 0 rfl) ?_
  refine p_get (k := 4) hx hb hown hK hP hal hkd rfl rfl (lay_X0 hK) 1 365 (by decide) t_365 rfl rfl dX0_height_1 ?_
  subst hQm
  exact q_iret hx hb hr hlocks hP hS ⟨rfl, rfl, rfl⟩ (by decide) (by decide) dX0_height_4

set_option maxHeartbeats 4000000 in
set_option maxRecDepth 100000 in
theorem c_X1_count (l : Launch) (g : GT) (base : Nat) (ad : Nat → Nat → Nat) (S : St) (o : Nat) (hal : S o 0 (-1) = 1) (hkd : kd o = 2) : Met l yX1_count [Cond.code yX1_count cX1_count 1 (some FieldType.int)] ({ frames := 0, cells := 0, slots := 0, locals := 0 }) (va_Pc [.ref (ad o 0)] (PK g base ad S)) (gQ g base (an (some (.int (i32 (S o 0 0)))) ad S)) 0 0 (fun q => base ≤ q) := by
  refine mk_m (own := RX1) (lv0 := [(0, .ref (ad o 0))]) (by decide) rfl (Nat.le_of_ble_eq_true rfl) rfl ?_
  intro p e s m below meth cz av Qm hx hb hr hml hown hlocks hK hZ hP hQm ls hl
  have hS : va_S (fun q => base ≤ q) s.heap s.heap [] := va_S.rf
  have rS : ∀ (a1 b1 : Nat) (i1 : Int), rng (S a1 b1 i1) := fun a1 b1 i1 => hP.rg a1 b1 i1
  refine lv_aload_n hx hb dX1_count_0 rfl (lv_at hl 0 rfl) ?_
  refine p_get (k := 2) hx hb hown hK hP hal hkd rfl rfl (lay_X1 hK) 0 42 (by decide) t_42 rfl rfl dX1_count_1 ?_
  subst hQm
  exact q_iret hx hb hr hlocks hP hS ⟨rfl, rfl, rfl⟩ (by decide) (by decide) dX1_count_4

set_option maxHeartbeats 4000000 in
set_option maxRecDepth 100000 in
theorem c_X2_width (l : Launch) (g : GT) (base : Nat) (ad : Nat → Nat → Nat) (S : St) (o : Nat) (hal : S o 0 (-1) = 1) (hkd : kd o = 5) : Met l yX2_width [Cond.code yX2_width cX2_width 1 (some FieldType.int)] ({ frames := 0, cells := 0, slots := 0, locals := 0 }) (va_Pc [.ref (ad o 0)] (PK g base ad S)) (gQ g base (an (some (.int (i32 (S o 0 0)))) ad S)) 0 0 (fun q => base ≤ q) := by
  refine mk_m (own := RX2) (lv0 := [(0, .ref (ad o 0))]) (by decide) rfl (Nat.le_of_ble_eq_true rfl) rfl ?_
  intro p e s m below meth cz av Qm hx hb hr hml hown hlocks hK hZ hP hQm ls hl
  have hS : va_S (fun q => base ≤ q) s.heap s.heap [] := va_S.rf
  have rS : ∀ (a1 b1 : Nat) (i1 : Int), rng (S a1 b1 i1) := fun a1 b1 i1 => hP.rg a1 b1 i1
  refine lv_aload_n hx hb dX2_width_0 rfl (lv_at hl 0 rfl) ?_
  refine p_get (k := 5) hx hb hown hK hP hal hkd rfl rfl (lay_X2 hK) 0 460 (by decide) t_460 rfl rfl dX2_width_1 ?_
  subst hQm
  exact q_iret hx hb hr hlocks hP hS ⟨rfl, rfl, rfl⟩ (by decide) (by decide) dX2_width_4

set_option maxHeartbeats 4000000 in
set_option maxRecDepth 100000 in
theorem c_X2_height (l : Launch) (g : GT) (base : Nat) (ad : Nat → Nat → Nat) (S : St) (o : Nat) (hal : S o 0 (-1) = 1) (hkd : kd o = 5) : Met l yX2_height [Cond.code yX2_height cX2_height 1 (some FieldType.int)] ({ frames := 0, cells := 0, slots := 0, locals := 0 }) (va_Pc [.ref (ad o 0)] (PK g base ad S)) (gQ g base (an (some (.int (i32 (S o 0 1)))) ad S)) 0 0 (fun q => base ≤ q) := by
  refine mk_m (own := RX2) (lv0 := [(0, .ref (ad o 0))]) (by decide) rfl (Nat.le_of_ble_eq_true rfl) rfl ?_
  intro p e s m below meth cz av Qm hx hb hr hml hown hlocks hK hZ hP hQm ls hl
  have hS : va_S (fun q => base ≤ q) s.heap s.heap [] := va_S.rf
  have rS : ∀ (a1 b1 : Nat) (i1 : Int), rng (S a1 b1 i1) := fun a1 b1 i1 => hP.rg a1 b1 i1
  refine lv_aload_n hx hb dX2_height_0 rfl (lv_at hl 0 rfl) ?_
  refine p_get (k := 5) hx hb hown hK hP hal hkd rfl rfl (lay_X2 hK) 1 461 (by decide) t_461 rfl rfl dX2_height_1 ?_
  subst hQm
  exact q_iret hx hb hr hlocks hP hS ⟨rfl, rfl, rfl⟩ (by decide) (by decide) dX2_height_4

set_option maxHeartbeats 4000000 in
set_option maxRecDepth 100000 in
theorem c_X2_weavers (l : Launch) (g : GT) (base : Nat) (ad : Nat → Nat → Nat) (S : St) (o : Nat) (hal : S o 0 (-1) = 1) (hkd : kd o = 5) : Met l yX2_weavers [Cond.code yX2_weavers cX2_weavers 1 (some FieldType.int)] ({ frames := 0, cells := 0, slots := 0, locals := 0 }) (va_Pc [.ref (ad o 0)] (PK g base ad S)) (gQ g base (an (some (.int (i32 (S o 0 2)))) ad S)) 0 0 (fun q => base ≤ q) := by
  refine mk_m (own := RX2) (lv0 := [(0, .ref (ad o 0))]) (by decide) rfl (Nat.le_of_ble_eq_true rfl) rfl ?_
  intro p e s m below meth cz av Qm hx hb hr hml hown hlocks hK hZ hP hQm ls hl
  have hS : va_S (fun q => base ≤ q) s.heap s.heap [] := va_S.rf
  have rS : ∀ (a1 b1 : Nat) (i1 : Int), rng (S a1 b1 i1) := fun a1 b1 i1 => hP.rg a1 b1 i1
  refine lv_aload_n hx hb dX2_weavers_0 rfl (lv_at hl 0 rfl) ?_
  refine p_get (k := 5) hx hb hown hK hP hal hkd rfl rfl (lay_X2 hK) 2 462 (by decide) t_462 rfl rfl dX2_weavers_1 ?_
  subst hQm
  exact q_iret hx hb hr hlocks hP hS ⟨rfl, rfl, rfl⟩ (by decide) (by decide) dX2_weavers_4

set_option maxHeartbeats 4000000 in
set_option maxRecDepth 100000 in
theorem c_X2_placeOf (l : Launch) (g : GT) (base : Nat) (ad : Nat → Nat → Nat) (S : St) (r c : Int)  : Met l yX2_placeOf [Cond.code yX2_placeOf cX2_placeOf 2 (some FieldType.int)] ({ frames := 0, cells := 0, slots := 0, locals := 0 }) (va_Pc [.int (i32 (r)), .int (i32 (c))] (PK g base ad S)) (gQ g base (an (some (.int (i32 (r * 24 + c)))) ad S)) 0 0 (fun q => base ≤ q) := by
  refine mk_m (own := RX2) (lv0 := [(0, .int (i32 (r))), (1, .int (i32 (c)))]) (by decide) rfl (Nat.le_of_ble_eq_true rfl) rfl ?_
  intro p e s m below meth cz av Qm hx hb hr hml hown hlocks hK hZ hP hQm ls hl
  have hS : va_S (fun q => base ≤ q) s.heap s.heap [] := va_S.rf
  have rS : ∀ (a1 b1 : Nat) (i1 : Int), rng (S a1 b1 i1) := fun a1 b1 i1 => hP.rg a1 b1 i1
  refine lv_iload_n hx hb dX2_placeOf_0 rfl (lv_at hl 0 rfl) ?_
  refine lv_bipush (v := i32 (24)) hx hb dX2_placeOf_1 (by decide) ?_
  refine q_imul hx hb dX2_placeOf_3 ?_
  refine lv_iload_n hx hb dX2_placeOf_4 rfl (lv_at hl 1 rfl) ?_
  refine q_iadd hx hb dX2_placeOf_5 ?_
  refine q_nm (show ((r * 24) + c : Int) = r * 24 + c from by omega) ?_
  subst hQm
  exact q_iret hx hb hr hlocks hP hS ⟨rfl, rfl, rfl⟩ (by decide) (by decide) dX2_placeOf_6

set_option maxHeartbeats 4000000 in
set_option maxRecDepth 100000 in
theorem c_X2_originOf (l : Launch) (g : GT) (base : Nat) (ad : Nat → Nat → Nat) (S : St) (r c : Int)  : Met l yX2_originOf [Cond.code yX2_originOf cX2_originOf 2 (some FieldType.int)] ({ frames := 0, cells := 0, slots := 0, locals := 0 }) (va_Pc [.int (i32 (r)), .int (i32 (c))] (PK g base ad S)) (gQ g base (an (some (.int (i32 (r * 24 + c)))) ad S)) 0 0 (fun q => base ≤ q) := by
  refine mk_m (own := RX2) (lv0 := [(0, .int (i32 (r))), (1, .int (i32 (c)))]) (by decide) rfl (Nat.le_of_ble_eq_true rfl) rfl ?_
  intro p e s m below meth cz av Qm hx hb hr hml hown hlocks hK hZ hP hQm ls hl
  have hS : va_S (fun q => base ≤ q) s.heap s.heap [] := va_S.rf
  have rS : ∀ (a1 b1 : Nat) (i1 : Int), rng (S a1 b1 i1) := fun a1 b1 i1 => hP.rg a1 b1 i1
  refine lv_iload_n hx hb dX2_originOf_0 rfl (lv_at hl 0 rfl) ?_
  refine lv_bipush (v := i32 (24)) hx hb dX2_originOf_1 (by decide) ?_
  refine q_imul hx hb dX2_originOf_3 ?_
  refine lv_iload_n hx hb dX2_originOf_4 rfl (lv_at hl 1 rfl) ?_
  refine q_iadd hx hb dX2_originOf_5 ?_
  refine q_nm (show ((r * 24) + c : Int) = r * 24 + c from by omega) ?_
  subst hQm
  exact q_iret hx hb hr hlocks hP hS ⟨rfl, rfl, rfl⟩ (by decide) (by decide) dX2_originOf_6

set_option maxHeartbeats 4000000 in
set_option maxRecDepth 100000 in
theorem c_X3_signOf (l : Launch) (g : GT) (base : Nat) (ad : Nat → Nat → Nat) (S : St) (z : Int) (hrn : rng z) : Met l yX3_signOf [Cond.code yX3_signOf cX3_signOf 1 (some FieldType.int)] ({ frames := 0, cells := 0, slots := 0, locals := 0 }) (va_Pc [.int (i32 (z))] (PK g base ad S)) (gQ g base (an (some (.int (i32 (sg z)))) ad S)) 0 0 (fun q => base ≤ q) := by
  refine mk_m (own := RX3) (lv0 := [(0, .int (i32 (z)))]) (by decide) rfl (Nat.le_of_ble_eq_true rfl) rfl ?_
  intro p e s m below meth cz av Qm hx hb hr hml hown hlocks hK hZ hP hQm ls hl
  have hS : va_S (fun q => base ≤ q) s.heap s.heap [] := va_S.rf
  have rS : ∀ (a1 b1 : Nat) (i1 : Int), rng (S a1 b1 i1) := fun a1 b1 i1 => hP.rg a1 b1 i1
  refine lv_iload_n hx hb dX3_signOf_0 rfl (lv_at hl 0 rfl) ?_
  by_cases w_1_66 : z = 66
  · have hw : (i32 z).toInt = 66 := by rw [i32_toInt hrn]; exact w_1_66
    refine lv_tableIn (off := 117) (tgt := 118) hx hb dX3_signOf_1 (by rw [hw]; decide) (by rw [hw]; decide) (by rw [hw]; rfl) (by decide) ?_
    refine lv_iconst (v := i32 (1)) hx hb dX3_signOf_118 rfl ?_
    refine q_nm (show (1 : Int) = sg z from by rw [w_1_66]; decide) ?_
    subst hQm
    exact q_iret hx hb hr hlocks hP hS ⟨rfl, rfl, rfl⟩ (by decide) (by decide) dX3_signOf_119
  by_cases w_1_71 : z = 71
  · have hw : (i32 z).toInt = 71 := by rw [i32_toInt hrn]; exact w_1_71
    refine lv_tableIn (off := 121) (tgt := 122) hx hb dX3_signOf_1 (by rw [hw]; decide) (by rw [hw]; decide) (by rw [hw]; rfl) (by decide) ?_
    refine lv_iconst (v := i32 (3)) hx hb dX3_signOf_122 rfl ?_
    refine q_nm (show (3 : Int) = sg z from by rw [w_1_71]; decide) ?_
    subst hQm
    exact q_iret hx hb hr hlocks hP hS ⟨rfl, rfl, rfl⟩ (by decide) (by decide) dX3_signOf_123
  by_cases w_1_82 : z = 82
  · have hw : (i32 z).toInt = 82 := by rw [i32_toInt hrn]; exact w_1_82
    refine lv_tableIn (off := 115) (tgt := 116) hx hb dX3_signOf_1 (by rw [hw]; decide) (by rw [hw]; decide) (by rw [hw]; rfl) (by decide) ?_
    refine lv_iconst (v := i32 (0)) hx hb dX3_signOf_116 rfl ?_
    refine q_nm (show (0 : Int) = sg z from by rw [w_1_82]; decide) ?_
    subst hQm
    exact q_iret hx hb hr hlocks hP hS ⟨rfl, rfl, rfl⟩ (by decide) (by decide) dX3_signOf_117
  by_cases w_1_87 : z = 87
  · have hw : (i32 z).toInt = 87 := by rw [i32_toInt hrn]; exact w_1_87
    refine lv_tableIn (off := 123) (tgt := 124) hx hb dX3_signOf_1 (by rw [hw]; decide) (by rw [hw]; decide) (by rw [hw]; rfl) (by decide) ?_
    refine lv_iconst (v := i32 (4)) hx hb dX3_signOf_124 rfl ?_
    refine q_nm (show (4 : Int) = sg z from by rw [w_1_87]; decide) ?_
    subst hQm
    exact q_iret hx hb hr hlocks hP hS ⟨rfl, rfl, rfl⟩ (by decide) (by decide) dX3_signOf_125
  by_cases w_1_88 : z = 88
  · have hw : (i32 z).toInt = 88 := by rw [i32_toInt hrn]; exact w_1_88
    refine lv_tableIn (off := 127) (tgt := 128) hx hb dX3_signOf_1 (by rw [hw]; decide) (by rw [hw]; decide) (by rw [hw]; rfl) (by decide) ?_
    refine lv_bipush (v := i32 (6)) hx hb dX3_signOf_128 (by decide) ?_
    refine q_nm (show (6 : Int) = sg z from by rw [w_1_88]; decide) ?_
    subst hQm
    exact q_iret hx hb hr hlocks hP hS ⟨rfl, rfl, rfl⟩ (by decide) (by decide) dX3_signOf_130
  by_cases w_1_89 : z = 89
  · have hw : (i32 z).toInt = 89 := by rw [i32_toInt hrn]; exact w_1_89
    refine lv_tableIn (off := 119) (tgt := 120) hx hb dX3_signOf_1 (by rw [hw]; decide) (by rw [hw]; decide) (by rw [hw]; rfl) (by decide) ?_
    refine lv_iconst (v := i32 (2)) hx hb dX3_signOf_120 rfl ?_
    refine q_nm (show (2 : Int) = sg z from by rw [w_1_89]; decide) ?_
    subst hQm
    exact q_iret hx hb hr hlocks hP hS ⟨rfl, rfl, rfl⟩ (by decide) (by decide) dX3_signOf_121
  by_cases w_1_90 : z = 90
  · have hw : (i32 z).toInt = 90 := by rw [i32_toInt hrn]; exact w_1_90
    refine lv_tableIn (off := 125) (tgt := 126) hx hb dX3_signOf_1 (by rw [hw]; decide) (by rw [hw]; decide) (by rw [hw]; rfl) (by decide) ?_
    refine lv_iconst (v := i32 (5)) hx hb dX3_signOf_126 rfl ?_
    refine q_nm (show (5 : Int) = sg z from by rw [w_1_90]; decide) ?_
    subst hQm
    exact q_iret hx hb hr hlocks hP hS ⟨rfl, rfl, rfl⟩ (by decide) (by decide) dX3_signOf_127
  have hdf : ∀ (H : Heap) (locs : List Loc), pic g base ad S H → va_S (fun q => base ≤ q) s.heap H locs → W p l e ({ frames := 0, cells := 0, slots := 0, locals := 0 } : Room) s m av below meth cz H locs 0 0 Qm (F0 m 131 ls ([])) := by
    intro H locs hP hS
    refine lv_iconst (v := i32 (-1)) hx hb dX3_signOf_131 rfl ?_
    refine q_nm (show (-1 : Int) = sg z from by unfold sg; rw [if_neg (by omega), if_neg (by omega), if_neg (by omega), if_neg (by omega), if_neg (by omega), if_neg (by omega), if_neg (by omega)]) ?_
    subst hQm
    exact q_iret hx hb hr hlocks hP hS ⟨rfl, rfl, rfl⟩ (by decide) (by decide) dX3_signOf_132
  by_cases w_1_67 : z = 67
  · have hw : (i32 z).toInt = 67 := by rw [i32_toInt hrn]; exact w_1_67
    exact lv_tableIn (off := 130) (tgt := 131) hx hb dX3_signOf_1 (by rw [hw]; decide) (by rw [hw]; decide) (by rw [hw]; rfl) (by decide) (hdf _ _ hP hS)
  by_cases w_1_68 : z = 68
  · have hw : (i32 z).toInt = 68 := by rw [i32_toInt hrn]; exact w_1_68
    exact lv_tableIn (off := 130) (tgt := 131) hx hb dX3_signOf_1 (by rw [hw]; decide) (by rw [hw]; decide) (by rw [hw]; rfl) (by decide) (hdf _ _ hP hS)
  by_cases w_1_69 : z = 69
  · have hw : (i32 z).toInt = 69 := by rw [i32_toInt hrn]; exact w_1_69
    exact lv_tableIn (off := 130) (tgt := 131) hx hb dX3_signOf_1 (by rw [hw]; decide) (by rw [hw]; decide) (by rw [hw]; rfl) (by decide) (hdf _ _ hP hS)
  by_cases w_1_70 : z = 70
  · have hw : (i32 z).toInt = 70 := by rw [i32_toInt hrn]; exact w_1_70
    exact lv_tableIn (off := 130) (tgt := 131) hx hb dX3_signOf_1 (by rw [hw]; decide) (by rw [hw]; decide) (by rw [hw]; rfl) (by decide) (hdf _ _ hP hS)
  by_cases w_1_72 : z = 72
  · have hw : (i32 z).toInt = 72 := by rw [i32_toInt hrn]; exact w_1_72
    exact lv_tableIn (off := 130) (tgt := 131) hx hb dX3_signOf_1 (by rw [hw]; decide) (by rw [hw]; decide) (by rw [hw]; rfl) (by decide) (hdf _ _ hP hS)
  by_cases w_1_73 : z = 73
  · have hw : (i32 z).toInt = 73 := by rw [i32_toInt hrn]; exact w_1_73
    exact lv_tableIn (off := 130) (tgt := 131) hx hb dX3_signOf_1 (by rw [hw]; decide) (by rw [hw]; decide) (by rw [hw]; rfl) (by decide) (hdf _ _ hP hS)
  by_cases w_1_74 : z = 74
  · have hw : (i32 z).toInt = 74 := by rw [i32_toInt hrn]; exact w_1_74
    exact lv_tableIn (off := 130) (tgt := 131) hx hb dX3_signOf_1 (by rw [hw]; decide) (by rw [hw]; decide) (by rw [hw]; rfl) (by decide) (hdf _ _ hP hS)
  by_cases w_1_75 : z = 75
  · have hw : (i32 z).toInt = 75 := by rw [i32_toInt hrn]; exact w_1_75
    exact lv_tableIn (off := 130) (tgt := 131) hx hb dX3_signOf_1 (by rw [hw]; decide) (by rw [hw]; decide) (by rw [hw]; rfl) (by decide) (hdf _ _ hP hS)
  by_cases w_1_76 : z = 76
  · have hw : (i32 z).toInt = 76 := by rw [i32_toInt hrn]; exact w_1_76
    exact lv_tableIn (off := 130) (tgt := 131) hx hb dX3_signOf_1 (by rw [hw]; decide) (by rw [hw]; decide) (by rw [hw]; rfl) (by decide) (hdf _ _ hP hS)
  by_cases w_1_77 : z = 77
  · have hw : (i32 z).toInt = 77 := by rw [i32_toInt hrn]; exact w_1_77
    exact lv_tableIn (off := 130) (tgt := 131) hx hb dX3_signOf_1 (by rw [hw]; decide) (by rw [hw]; decide) (by rw [hw]; rfl) (by decide) (hdf _ _ hP hS)
  by_cases w_1_78 : z = 78
  · have hw : (i32 z).toInt = 78 := by rw [i32_toInt hrn]; exact w_1_78
    exact lv_tableIn (off := 130) (tgt := 131) hx hb dX3_signOf_1 (by rw [hw]; decide) (by rw [hw]; decide) (by rw [hw]; rfl) (by decide) (hdf _ _ hP hS)
  by_cases w_1_79 : z = 79
  · have hw : (i32 z).toInt = 79 := by rw [i32_toInt hrn]; exact w_1_79
    exact lv_tableIn (off := 130) (tgt := 131) hx hb dX3_signOf_1 (by rw [hw]; decide) (by rw [hw]; decide) (by rw [hw]; rfl) (by decide) (hdf _ _ hP hS)
  by_cases w_1_80 : z = 80
  · have hw : (i32 z).toInt = 80 := by rw [i32_toInt hrn]; exact w_1_80
    exact lv_tableIn (off := 130) (tgt := 131) hx hb dX3_signOf_1 (by rw [hw]; decide) (by rw [hw]; decide) (by rw [hw]; rfl) (by decide) (hdf _ _ hP hS)
  by_cases w_1_81 : z = 81
  · have hw : (i32 z).toInt = 81 := by rw [i32_toInt hrn]; exact w_1_81
    exact lv_tableIn (off := 130) (tgt := 131) hx hb dX3_signOf_1 (by rw [hw]; decide) (by rw [hw]; decide) (by rw [hw]; rfl) (by decide) (hdf _ _ hP hS)
  by_cases w_1_83 : z = 83
  · have hw : (i32 z).toInt = 83 := by rw [i32_toInt hrn]; exact w_1_83
    exact lv_tableIn (off := 130) (tgt := 131) hx hb dX3_signOf_1 (by rw [hw]; decide) (by rw [hw]; decide) (by rw [hw]; rfl) (by decide) (hdf _ _ hP hS)
  by_cases w_1_84 : z = 84
  · have hw : (i32 z).toInt = 84 := by rw [i32_toInt hrn]; exact w_1_84
    exact lv_tableIn (off := 130) (tgt := 131) hx hb dX3_signOf_1 (by rw [hw]; decide) (by rw [hw]; decide) (by rw [hw]; rfl) (by decide) (hdf _ _ hP hS)
  by_cases w_1_85 : z = 85
  · have hw : (i32 z).toInt = 85 := by rw [i32_toInt hrn]; exact w_1_85
    exact lv_tableIn (off := 130) (tgt := 131) hx hb dX3_signOf_1 (by rw [hw]; decide) (by rw [hw]; decide) (by rw [hw]; rfl) (by decide) (hdf _ _ hP hS)
  by_cases w_1_86 : z = 86
  · have hw : (i32 z).toInt = 86 := by rw [i32_toInt hrn]; exact w_1_86
    exact lv_tableIn (off := 130) (tgt := 131) hx hb dX3_signOf_1 (by rw [hw]; decide) (by rw [hw]; decide) (by rw [hw]; rfl) (by decide) (hdf _ _ hP hS)
  exact lv_tableOut (tgt := 131) hx hb dX3_signOf_1 (by rw [i32_toInt hrn]; omega) (by decide) (hdf _ _ hP hS)
