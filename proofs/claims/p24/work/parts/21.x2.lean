set_option maxHeartbeats 4000000 in
set_option maxRecDepth 100000 in
theorem c_X2_colourAt (l : Launch) (g : GT) (base : Nat) (ad : Nat → Nat → Nat) (S : St) (o : Nat) (r c : Int) (hal : S o 0 (-1) = 1) (hkd : kd o = 5) (hrr : 0 ≤ r ∧ r < 10) (hcc : 0 ≤ c ∧ c < 24) : Met l yX2_colourAt [Cond.code yX2_colourAt cX2_colourAt 3 (some FieldType.int)] ({ frames := 1, cells := 0, slots := 0, locals := 21 }) (va_Pc [.ref (ad o 0), .int (i32 (r)), .int (i32 (c))] (PK g base ad S)) (gQ g base (an (some (.int (i32 (S o 5 (r * 24 + c))))) ad S)) 0 0 (fun q => base ≤ q) := by
  refine mk_m (own := RX2) (lv0 := [(0, .ref (ad o 0)), (1, .int (i32 (r))), (2, .int (i32 (c)))]) (by decide) rfl (Nat.le_of_ble_eq_true rfl) rfl ?_
  intro p e s m below meth cz av Qm hx hb hr hml hown hlocks hK hZ hP hQm ls hl
  have hS : va_S (fun q => base ≤ q) s.heap s.heap [] := va_S.rf
  have rS : ∀ (a1 b1 : Nat) (i1 : Int), rng (S a1 b1 i1) := fun a1 b1 i1 => hP.rg a1 b1 i1
  refine lv_aload_n hx hb dX2_colourAt_0 rfl (lv_at hl 0 rfl) ?_
  refine p_get (k := 5) hx hb hown hK hP hal hkd rfl rfl (lay_X2 hK) 4 464 (by decide) t_464 rfl rfl dX2_colourAt_1 ?_
  refine lv_iload_n hx hb dX2_colourAt_4 rfl (lv_at hl 1 rfl) ?_
  refine lv_iload_n hx hb dX2_colourAt_5 rfl (lv_at hl 2 rfl) ?_
  refine q_callS hx hb hml hl.1 hown hK hZ hP hS (c_X2_placeOf l g base ad S r c ) t_103 (q_callB hK 102 24 104 t_102 t_24 t_104 f_yX2_placeOf ⟨by decide, by decide⟩) rfl rfl (Nat.le_of_ble_eq_true rfl) dX2_colourAt_6 ⟨by decide, by decide⟩  (q_an (fun H locs hP hS => ?_))
  refine q_callN hx hb hml hl.1 hown hK hZ hP hS (c_X3_valueAt l g base ad S o 5 5 240 (r * 24 + c) hal hkd rfl (by omega) (by omega) ⟨by omega, by omega⟩) t_105 t_15 t_107 t_106 f_yX3_valueAt ⟨by decide, by decide⟩ rfl rfl (Nat.le_of_ble_eq_true rfl) dX2_colourAt_9 ⟨by decide, by decide⟩ (q_an (fun H locs hP hS => ?_))
  refine q_nm (vA_in (by omega) (by omega)) ?_
  subst hQm
  exact q_iret hx hb hr hlocks hP hS ⟨rfl, rfl, rfl⟩ (by decide) (by decide) dX2_colourAt_12

set_option maxHeartbeats 4000000 in
set_option maxRecDepth 100000 in
theorem c_X2_lotAt (l : Launch) (g : GT) (base : Nat) (ad : Nat → Nat → Nat) (S : St) (o : Nat) (r c : Int) (hal : S o 0 (-1) = 1) (hkd : kd o = 5) (hrr : 0 ≤ r ∧ r < 10) (hcc : 0 ≤ c ∧ c < 24) : Met l yX2_lotAt [Cond.code yX2_lotAt cX2_lotAt 3 (some FieldType.int)] ({ frames := 1, cells := 0, slots := 0, locals := 21 }) (va_Pc [.ref (ad o 0), .int (i32 (r)), .int (i32 (c))] (PK g base ad S)) (gQ g base (an (some (.int (i32 (S o 6 (r * 24 + c))))) ad S)) 0 0 (fun q => base ≤ q) := by
  refine mk_m (own := RX2) (lv0 := [(0, .ref (ad o 0)), (1, .int (i32 (r))), (2, .int (i32 (c)))]) (by decide) rfl (Nat.le_of_ble_eq_true rfl) rfl ?_
  intro p e s m below meth cz av Qm hx hb hr hml hown hlocks hK hZ hP hQm ls hl
  have hS : va_S (fun q => base ≤ q) s.heap s.heap [] := va_S.rf
  have rS : ∀ (a1 b1 : Nat) (i1 : Int), rng (S a1 b1 i1) := fun a1 b1 i1 => hP.rg a1 b1 i1
  refine lv_aload_n hx hb dX2_lotAt_0 rfl (lv_at hl 0 rfl) ?_
  refine p_get (k := 5) hx hb hown hK hP hal hkd rfl rfl (lay_X2 hK) 5 465 (by decide) t_465 rfl rfl dX2_lotAt_1 ?_
  refine lv_iload_n hx hb dX2_lotAt_4 rfl (lv_at hl 1 rfl) ?_
  refine lv_iload_n hx hb dX2_lotAt_5 rfl (lv_at hl 2 rfl) ?_
  refine q_callS hx hb hml hl.1 hown hK hZ hP hS (c_X2_placeOf l g base ad S r c ) t_103 (q_callB hK 102 24 104 t_102 t_24 t_104 f_yX2_placeOf ⟨by decide, by decide⟩) rfl rfl (Nat.le_of_ble_eq_true rfl) dX2_lotAt_6 ⟨by decide, by decide⟩  (q_an (fun H locs hP hS => ?_))
  refine q_callN hx hb hml hl.1 hown hK hZ hP hS (c_X3_valueAt l g base ad S o 6 5 240 (r * 24 + c) hal hkd rfl (by omega) (by omega) ⟨by omega, by omega⟩) t_105 t_15 t_107 t_106 f_yX3_valueAt ⟨by decide, by decide⟩ rfl rfl (Nat.le_of_ble_eq_true rfl) dX2_lotAt_9 ⟨by decide, by decide⟩ (q_an (fun H locs hP hS => ?_))
  refine q_nm (vA_in (by omega) (by omega)) ?_
  subst hQm
  exact q_iret hx hb hr hlocks hP hS ⟨rfl, rfl, rfl⟩ (by decide) (by decide) dX2_lotAt_12

set_option maxHeartbeats 4000000 in
set_option maxRecDepth 100000 in
theorem c_X2_shadeAt (l : Launch) (g : GT) (base : Nat) (ad : Nat → Nat → Nat) (S : St) (o : Nat) (r c : Int) (hal : S o 0 (-1) = 1) (hkd : kd o = 5) (hrr : 0 ≤ r ∧ r < 10) (hcc : 0 ≤ c ∧ c < 24) : Met l yX2_shadeAt [Cond.code yX2_shadeAt cX2_shadeAt 3 (some FieldType.int)] ({ frames := 1, cells := 0, slots := 0, locals := 21 }) (va_Pc [.ref (ad o 0), .int (i32 (r)), .int (i32 (c))] (PK g base ad S)) (gQ g base (an (some (.int (i32 (S o 7 (r * 24 + c))))) ad S)) 0 0 (fun q => base ≤ q) := by
  refine mk_m (own := RX2) (lv0 := [(0, .ref (ad o 0)), (1, .int (i32 (r))), (2, .int (i32 (c)))]) (by decide) rfl (Nat.le_of_ble_eq_true rfl) rfl ?_
  intro p e s m below meth cz av Qm hx hb hr hml hown hlocks hK hZ hP hQm ls hl
  have hS : va_S (fun q => base ≤ q) s.heap s.heap [] := va_S.rf
  have rS : ∀ (a1 b1 : Nat) (i1 : Int), rng (S a1 b1 i1) := fun a1 b1 i1 => hP.rg a1 b1 i1
  refine lv_aload_n hx hb dX2_shadeAt_0 rfl (lv_at hl 0 rfl) ?_
  refine p_get (k := 5) hx hb hown hK hP hal hkd rfl rfl (lay_X2 hK) 6 466 (by decide) t_466 rfl rfl dX2_shadeAt_1 ?_
  refine lv_iload_n hx hb dX2_shadeAt_4 rfl (lv_at hl 1 rfl) ?_
  refine lv_iload_n hx hb dX2_shadeAt_5 rfl (lv_at hl 2 rfl) ?_
  refine q_callS hx hb hml hl.1 hown hK hZ hP hS (c_X2_placeOf l g base ad S r c ) t_103 (q_callB hK 102 24 104 t_102 t_24 t_104 f_yX2_placeOf ⟨by decide, by decide⟩) rfl rfl (Nat.le_of_ble_eq_true rfl) dX2_shadeAt_6 ⟨by decide, by decide⟩  (q_an (fun H locs hP hS => ?_))
  refine q_callN hx hb hml hl.1 hown hK hZ hP hS (c_X3_valueAt l g base ad S o 7 5 240 (r * 24 + c) hal hkd rfl (by omega) (by omega) ⟨by omega, by omega⟩) t_105 t_15 t_107 t_106 f_yX3_valueAt ⟨by decide, by decide⟩ rfl rfl (Nat.le_of_ble_eq_true rfl) dX2_shadeAt_9 ⟨by decide, by decide⟩ (q_an (fun H locs hP hS => ?_))
  refine q_nm (vA_in (by omega) (by omega)) ?_
  subst hQm
  exact q_iret hx hb hr hlocks hP hS ⟨rfl, rfl, rfl⟩ (by decide) (by decide) dX2_shadeAt_12

set_option maxHeartbeats 4000000 in
set_option maxRecDepth 100000 in
theorem c_X2_holds (l : Launch) (g : GT) (base : Nat) (ad : Nat → Nat → Nat) (S : St) (o : Nat) (r c : Int) (hal : S o 0 (-1) = 1) (hkd : kd o = 5) (hrn : rng r) (hrn2 : rng c) : Met l yX2_holds [Cond.code yX2_holds cX2_holds 3 (some FieldType.boolean)] ({ frames := 0, cells := 0, slots := 0, locals := 0 }) (va_Pc [.ref (ad o 0), .int (i32 (r)), .int (i32 (c))] (PK g base ad S)) (gQ g base (an (some (.int (i32 (b2 (0 ≤ r ∧ r < S o 0 1 ∧ 0 ≤ c ∧ c < S o 0 0))))) ad S)) 0 0 (fun q => base ≤ q) := by
  refine mk_m (own := RX2) (lv0 := [(0, .ref (ad o 0)), (1, .int (i32 (r))), (2, .int (i32 (c)))]) (by decide) rfl (Nat.le_of_ble_eq_true rfl) rfl ?_
  intro p e s m below meth cz av Qm hx hb hr hml hown hlocks hK hZ hP hQm ls hl
  have hS : va_S (fun q => base ≤ q) s.heap s.heap [] := va_S.rf
  have rS : ∀ (a1 b1 : Nat) (i1 : Int), rng (S a1 b1 i1) := fun a1 b1 i1 => hP.rg a1 b1 i1
  refine lv_iload_n hx hb dX2_holds_0 rfl (lv_at hl 1 rfl) ?_
  have J29 : ∀ (H : Heap) (locs : List Loc), pic g base ad S H → va_S (fun q => base ≤ q) s.heap H locs → W p l e ({ frames := 0, cells := 0, slots := 0, locals := 0 } : Room) s m av below meth cz H locs 0 0 Qm (F0 m 29 ls (Value.int (i32 (b2 ((0 ≤ r) ∧ (r < (S o 0 1)) ∧ (0 ≤ c) ∧ (c < (S o 0 0))))) :: [])) := by
    intro H locs hP hS
    refine q_nm (b2_c (show ((0 ≤ r) ∧ (r < (S o 0 1)) ∧ (0 ≤ c) ∧ (c < (S o 0 0))) ↔ (0 ≤ r ∧ r < S o 0 1 ∧ 0 ≤ c ∧ c < S o 0 0) from by first | omega | (simp only [*]; done) | simp_all)) ?_
    subst hQm
    exact q_zret hx hb hr hlocks hP hS (b2_01 _) ⟨rfl, rfl, rfl⟩ (by decide) (by decide) dX2_holds_29
  refine q_if_lt (tgt := 28) hx hb hrn dX2_holds_1 (by decide) (fun c_1 => ?_) (fun c_1 => ?_)
  · -- r < 0
    refine lv_iconst (v := i32 (0)) hx hb dX2_holds_28 rfl ?_
    refine q_nm (b2_f (show ¬ ((0 ≤ r) ∧ (r < (S o 0 1)) ∧ (0 ≤ c) ∧ (c < (S o 0 0))) from by first | omega | (simp only [*]; done) | simp_all)).symm ?_
    exact J29 _ _ hP hS
  · -- 0 ≤ r
    refine lv_iload_n hx hb dX2_holds_4 rfl (lv_at hl 1 rfl) ?_
    refine lv_aload_n hx hb dX2_holds_5 rfl (lv_at hl 0 rfl) ?_
    refine p_get (k := 5) hx hb hown hK hP hal hkd rfl rfl (lay_X2 hK) 1 461 (by decide) t_461 rfl rfl dX2_holds_6 ?_
    refine q_icmp_ge (tgt := 28) hx hb hrn (hP.rg _ _ _) dX2_holds_9 (by decide) (fun c_2 => ?_) (fun c_2 => ?_)
    · -- (S o 0 1) ≤ r
      refine lv_iconst (v := i32 (0)) hx hb dX2_holds_28 rfl ?_
      refine q_nm (b2_f (show ¬ ((0 ≤ r) ∧ (r < (S o 0 1)) ∧ (0 ≤ c) ∧ (c < (S o 0 0))) from by first | omega | (simp only [*]; done) | simp_all)).symm ?_
      exact J29 _ _ hP hS
    · -- r < (S o 0 1)
      refine lv_iload_n hx hb dX2_holds_12 rfl (lv_at hl 2 rfl) ?_
      refine q_if_lt (tgt := 28) hx hb hrn2 dX2_holds_13 (by decide) (fun c_3 => ?_) (fun c_3 => ?_)
      · -- c < 0
        refine lv_iconst (v := i32 (0)) hx hb dX2_holds_28 rfl ?_
        refine q_nm (b2_f (show ¬ ((0 ≤ r) ∧ (r < (S o 0 1)) ∧ (0 ≤ c) ∧ (c < (S o 0 0))) from by first | omega | (simp only [*]; done) | simp_all)).symm ?_
        exact J29 _ _ hP hS
      · -- 0 ≤ c
        refine lv_iload_n hx hb dX2_holds_16 rfl (lv_at hl 2 rfl) ?_
        refine lv_aload_n hx hb dX2_holds_17 rfl (lv_at hl 0 rfl) ?_
        refine p_get (k := 5) hx hb hown hK hP hal hkd rfl rfl (lay_X2 hK) 0 460 (by decide) t_460 rfl rfl dX2_holds_18 ?_
        refine q_icmp_ge (tgt := 28) hx hb hrn2 (hP.rg _ _ _) dX2_holds_21 (by decide) (fun c_4 => ?_) (fun c_4 => ?_)
        · -- (S o 0 0) ≤ c
          refine lv_iconst (v := i32 (0)) hx hb dX2_holds_28 rfl ?_
          refine q_nm (b2_f (show ¬ ((0 ≤ r) ∧ (r < (S o 0 1)) ∧ (0 ≤ c) ∧ (c < (S o 0 0))) from by first | omega | (simp only [*]; done) | simp_all)).symm ?_
          exact J29 _ _ hP hS
        · -- c < (S o 0 0)
          refine lv_iconst (v := i32 (1)) hx hb dX2_holds_24 rfl ?_
          refine lv_goto (tgt := 29) hx hb dX2_holds_25 (by decide) ?_
          refine q_nm (b2_t (show (0 ≤ r) ∧ (r < (S o 0 1)) ∧ (0 ≤ c) ∧ (c < (S o 0 0)) from by first | omega | (simp only [*]; done) | simp_all)).symm ?_
          exact J29 _ _ hP hS

set_option maxHeartbeats 4000000 in
set_option maxRecDepth 100000 in
theorem c_X2_hasWovenAll (l : Launch) (g : GT) (base : Nat) (ad : Nat → Nat → Nat) (S : St) (o : Nat) (w : Int) (hal : S o 0 (-1) = 1) (hkd : kd o = 5) (hjj : 0 ≤ w ∧ w < 4) : Met l yX2_hasWovenAll [Cond.code yX2_hasWovenAll cX2_hasWovenAll 2 (some FieldType.boolean)] ({ frames := 1, cells := 0, slots := 0, locals := 21 }) (va_Pc [.ref (ad o 0), .int (i32 (w))] (PK g base ad S)) (gQ g base (an (some (.int (i32 (b2 (S o 0 1 ≤ S o 4 w))))) ad S)) 0 0 (fun q => base ≤ q) := by
  refine mk_m (own := RX2) (lv0 := [(0, .ref (ad o 0)), (1, .int (i32 (w)))]) (by decide) rfl (Nat.le_of_ble_eq_true rfl) rfl ?_
  intro p e s m below meth cz av Qm hx hb hr hml hown hlocks hK hZ hP hQm ls hl
  have hS : va_S (fun q => base ≤ q) s.heap s.heap [] := va_S.rf
  have rS : ∀ (a1 b1 : Nat) (i1 : Int), rng (S a1 b1 i1) := fun a1 b1 i1 => hP.rg a1 b1 i1
  refine lv_aload_n hx hb dX2_hasWovenAll_0 rfl (lv_at hl 0 rfl) ?_
  refine p_get (k := 5) hx hb hown hK hP hal hkd rfl rfl (lay_X2 hK) 3 463 (by decide) t_463 rfl rfl dX2_hasWovenAll_1 ?_
  refine lv_iload_n hx hb dX2_hasWovenAll_4 rfl (lv_at hl 1 rfl) ?_
  refine q_callN hx hb hml hl.1 hown hK hZ hP hS (c_X3_valueAt l g base ad S o 4 5 4 w hal hkd rfl (by omega) (by omega) ⟨by omega, by omega⟩) t_105 t_15 t_107 t_106 f_yX3_valueAt ⟨by decide, by decide⟩ rfl rfl (Nat.le_of_ble_eq_true rfl) dX2_hasWovenAll_5 ⟨by decide, by decide⟩ (q_an (fun H locs hP hS => ?_))
  refine q_nm (vA_in (by omega) (by omega)) ?_
  refine lv_aload_n hx hb dX2_hasWovenAll_8 rfl (lv_at hl 0 rfl) ?_
  refine p_get (k := 5) hx hb hown hK hP hal hkd rfl rfl (lay_X2 hK) 1 461 (by decide) t_461 rfl rfl dX2_hasWovenAll_9 ?_
  have J20 : ∀ (H : Heap) (locs : List Loc), pic g base ad S H → va_S (fun q => base ≤ q) s.heap H locs → W p l e ({ frames := 1, cells := 0, slots := 0, locals := 21 } : Room) s m av below meth cz H locs 0 0 Qm (F0 m 20 ls (Value.int (i32 (b2 (((S o 0 1) ≤ (S o 4 w))))) :: [])) := by
    intro H locs hP hS
    refine q_nm (b2_c (show (((S o 0 1) ≤ (S o 4 w))) ↔ (S o 0 1 ≤ S o 4 w) from by first | omega | (simp only [*]; done) | simp_all)) ?_
    subst hQm
    exact q_zret hx hb hr hlocks hP hS (b2_01 _) ⟨rfl, rfl, rfl⟩ (by decide) (by decide) dX2_hasWovenAll_20
  refine q_icmp_lt (tgt := 19) hx hb (hP.rg _ _ _) (hP.rg _ _ _) dX2_hasWovenAll_12 (by decide) (fun c_1 => ?_) (fun c_1 => ?_)
  · -- (S o 4 w) < (S o 0 1)
    refine lv_iconst (v := i32 (0)) hx hb dX2_hasWovenAll_19 rfl ?_
    refine q_nm (b2_f (show ¬ (((S o 0 1) ≤ (S o 4 w))) from by first | omega | (simp only [*]; done) | simp_all)).symm ?_
    exact J20 _ _ hP hS
  · -- (S o 0 1) ≤ (S o 4 w)
    refine lv_iconst (v := i32 (1)) hx hb dX2_hasWovenAll_15 rfl ?_
    refine lv_goto (tgt := 20) hx hb dX2_hasWovenAll_16 (by decide) ?_
    refine q_nm (b2_t (show ((S o 0 1) ≤ (S o 4 w)) from by first | omega | (simp only [*]; done) | simp_all)).symm ?_
    exact J20 _ _ hP hS

set_option maxHeartbeats 4000000 in
set_option maxRecDepth 100000 in
theorem c_X2_isAboveNeighbour (l : Launch) (g : GT) (base : Nat) (ad : Nat → Nat → Nat) (S : St) (o : Nat) (w : Int) (hal : S o 0 (-1) = 1) (hkd : kd o = 5) (hjj : 0 ≤ w ∧ w < S o 0 2) (hwv : S o 0 2 ≤ 4) : Met l yX2_isAboveNeighbour [Cond.code yX2_isAboveNeighbour cX2_isAboveNeighbour 5 (some FieldType.boolean)] ({ frames := 1, cells := 0, slots := 0, locals := 21 }) (va_Pc [.ref (ad o 0), .int (i32 (w))] (PK g base ad S)) (gQ g base (an (some (.int (i32 (b2 ((0 < w ∧ S o 4 (w - 1) < S o 4 w) ∨ (w < S o 0 2 - 1 ∧ S o 4 (w + 1) < S o 4 w)))))) ad S)) 0 0 (fun q => base ≤ q) := by
  refine mk_m (own := RX2) (lv0 := [(0, .ref (ad o 0)), (1, .int (i32 (w)))]) (by decide) rfl (Nat.le_of_ble_eq_true rfl) rfl ?_
  intro p e s m below meth cz av Qm hx hb hr hml hown hlocks hK hZ hP hQm ls hl
  have hS : va_S (fun q => base ≤ q) s.heap s.heap [] := va_S.rf
  have rS : ∀ (a1 b1 : Nat) (i1 : Int), rng (S a1 b1 i1) := fun a1 b1 i1 => hP.rg a1 b1 i1
  refine lv_aload_n hx hb dX2_isAboveNeighbour_0 rfl (lv_at hl 0 rfl) ?_
  refine p_get (k := 5) hx hb hown hK hP hal hkd rfl rfl (lay_X2 hK) 3 463 (by decide) t_463 rfl rfl dX2_isAboveNeighbour_1 ?_
  refine lv_iload_n hx hb dX2_isAboveNeighbour_4 rfl (lv_at hl 1 rfl) ?_
  refine q_callN hx hb hml hl.1 hown hK hZ hP hS (c_X3_valueAt l g base ad S o 4 5 4 w hal hkd rfl (by omega) (by omega) ⟨by omega, by omega⟩) t_105 t_15 t_107 t_106 f_yX3_valueAt ⟨by decide, by decide⟩ rfl rfl (Nat.le_of_ble_eq_true rfl) dX2_isAboveNeighbour_5 ⟨by decide, by decide⟩ (q_an (fun H locs hP hS => ?_))
  refine q_nm (vA_in (by omega) (by omega)) ?_
  refine lv_istore_n (lv' := [(2, .int (i32 (S o 4 w))), (0, .ref (ad o 0)), (1, .int (i32 (w)))]) hx hb dX2_isAboveNeighbour_8 rfl hl (by decide) rfl (fun ls hl => ?_)
  refine lv_iload_n hx hb dX2_isAboveNeighbour_9 rfl (lv_at hl 2 rfl) ?_
  have J32 : ∀ (H : Heap) (locs : List Loc), pic g base ad S H → va_S (fun q => base ≤ q) s.heap H locs → W p l e ({ frames := 1, cells := 0, slots := 0, locals := 21 } : Room) s m av below meth cz H locs 0 0 Qm (F0 m 32 ls (Value.int (i32 (b2 ((0 < w) ∧ ((S o 4 (w - 1)) < (S o 4 w))))) :: [])) := by
    intro H locs hP hS
    refine lv_istore_n (lv' := [(3, .int (i32 (b2 ((0 < w) ∧ ((S o 4 (w - 1)) < (S o 4 w)))))), (2, .int (i32 (S o 4 w))), (0, .ref (ad o 0)), (1, .int (i32 (w)))]) hx hb dX2_isAboveNeighbour_32 rfl hl (by decide) rfl (fun ls hl => ?_)
    refine lv_iload_n hx hb dX2_isAboveNeighbour_33 rfl (lv_at hl 3 rfl) ?_
    refine lv_aload_n hx hb dX2_isAboveNeighbour_34 rfl (lv_at hl 2 rfl) ?_
    refine p_get (k := 5) hx hb hown hK hP hal hkd rfl rfl (lay_X2 hK) 2 462 (by decide) t_462 rfl rfl dX2_isAboveNeighbour_35 ?_
    refine lv_iconst (v := i32 (1)) hx hb dX2_isAboveNeighbour_38 rfl ?_
    refine q_isub hx hb dX2_isAboveNeighbour_39 ?_
    have J62 : ∀ (H : Heap) (locs : List Loc), pic g base ad S H → va_S (fun q => base ≤ q) s.heap H locs → W p l e ({ frames := 1, cells := 0, slots := 0, locals := 21 } : Room) s m av below meth cz H locs 0 0 Qm (F0 m 62 ls (Value.int (i32 (b2 ((w < ((S o 0 2) - 1)) ∧ ((S o 4 (w + 1)) < (S o 4 w))))) :: [])) := by
      intro H locs hP hS
      refine lv_istore (lv' := [(4, .int (i32 (b2 ((w < ((S o 0 2) - 1)) ∧ ((S o 4 (w + 1)) < (S o 4 w)))))), (3, .int (i32 (b2 ((0 < w) ∧ ((S o 4 (w - 1)) < (S o 4 w)))))), (2, .int (i32 (S o 4 w))), (0, .ref (ad o 0)), (1, .int (i32 (w)))]) hx hb dX2_isAboveNeighbour_62 hl (by decide) rfl (fun ls hl => ?_)
      refine lv_iload_n hx hb dX2_isAboveNeighbour_64 rfl (lv_at hl 1 rfl) ?_
      have J78 : ∀ (H : Heap) (locs : List Loc), pic g base ad S H → va_S (fun q => base ≤ q) s.heap H locs → W p l e ({ frames := 1, cells := 0, slots := 0, locals := 21 } : Room) s m av below meth cz H locs 0 0 Qm (F0 m 78 ls (Value.int (i32 (b2 ((((0 < w) ∧ ((S o 4 (w - 1)) < (S o 4 w)))) ∨ ((¬ ((0 < w) ∧ ((S o 4 (w - 1)) < (S o 4 w)))) ∧ ((w < ((S o 0 2) - 1)) ∧ ((S o 4 (w + 1)) < (S o 4 w))))))) :: [])) := by
        intro H locs hP hS
        refine q_nm (b2_c (show ((((0 < w) ∧ ((S o 4 (w - 1)) < (S o 4 w)))) ∨ ((¬ ((0 < w) ∧ ((S o 4 (w - 1)) < (S o 4 w)))) ∧ ((w < ((S o 0 2) - 1)) ∧ ((S o 4 (w + 1)) < (S o 4 w))))) ↔ ((0 < w ∧ S o 4 (w - 1) < S o 4 w) ∨ (w < S o 0 2 - 1 ∧ S o 4 (w + 1) < S o 4 w)) from by first | omega | (simp only [*]; done) | simp_all)) ?_
        subst hQm
        exact q_zret hx hb hr hlocks hP hS (b2_01 _) ⟨rfl, rfl, rfl⟩ (by decide) (by decide) dX2_isAboveNeighbour_78
      refine q_if_neb (tgt := 73) hx hb dX2_isAboveNeighbour_65 (by decide) (fun c_1 => ?_) (fun c_1 => ?_)
      · -- (0 < w) ∧ ((S o 4 (w - 1)) < (S o 4 w))
        refine lv_iconst (v := i32 (1)) hx hb dX2_isAboveNeighbour_73 rfl ?_
        refine lv_goto (tgt := 78) hx hb dX2_isAboveNeighbour_74 (by decide) ?_
        refine q_nm (b2_t (show (((0 < w) ∧ ((S o 4 (w - 1)) < (S o 4 w)))) ∨ ((¬ ((0 < w) ∧ ((S o 4 (w - 1)) < (S o 4 w)))) ∧ ((w < ((S o 0 2) - 1)) ∧ ((S o 4 (w + 1)) < (S o 4 w)))) from by first | omega | (simp only [*]; done) | simp_all)).symm ?_
        exact J78 _ _ hP hS
      · -- ¬ ((0 < w) ∧ ((S o 4 (w - 1)) < (S o 4 w)))
        refine lv_iload hx hb dX2_isAboveNeighbour_68 (lv_at hl 0 rfl) ?_
        refine q_if_eqb (tgt := 77) hx hb dX2_isAboveNeighbour_70 (by decide) (fun c_2 => ?_) (fun c_2 => ?_)
        · -- ¬ ((w < ((S o 0 2) - 1)) ∧ ((S o 4 (w + 1)) < (S o 4 w)))
          refine lv_iconst (v := i32 (0)) hx hb dX2_isAboveNeighbour_77 rfl ?_
          refine q_nm (b2_f (show ¬ ((((0 < w) ∧ ((S o 4 (w - 1)) < (S o 4 w)))) ∨ ((¬ ((0 < w) ∧ ((S o 4 (w - 1)) < (S o 4 w)))) ∧ ((w < ((S o 0 2) - 1)) ∧ ((S o 4 (w + 1)) < (S o 4 w))))) from by first | omega | (simp only [*]; done) | simp_all)).symm ?_
          exact J78 _ _ hP hS
        · -- (w < ((S o 0 2) - 1)) ∧ ((S o 4 (w + 1)) < (S o 4 w))
          refine lv_iconst (v := i32 (1)) hx hb dX2_isAboveNeighbour_73 rfl ?_
          refine lv_goto (tgt := 78) hx hb dX2_isAboveNeighbour_74 (by decide) ?_
          refine q_nm (b2_t (show (((0 < w) ∧ ((S o 4 (w - 1)) < (S o 4 w)))) ∨ ((¬ ((0 < w) ∧ ((S o 4 (w - 1)) < (S o 4 w)))) ∧ ((w < ((S o 0 2) - 1)) ∧ ((S o 4 (w + 1)) < (S o 4 w)))) from by first | omega | (simp only [*]; done) | simp_all)).symm ?_
          exact J78 _ _ hP hS
    refine q_icmp_ge (tgt := 61) hx hb ⟨by omega, by omega⟩ ⟨by omega, by omega⟩ dX2_isAboveNeighbour_40 (by decide) (fun c_3 => ?_) (fun c_3 => ?_)
    · -- ((S o 0 2) - 1) ≤ w
      refine lv_iconst (v := i32 (0)) hx hb dX2_isAboveNeighbour_61 rfl ?_
      refine q_nm (b2_f (show ¬ ((w < ((S o 0 2) - 1)) ∧ ((S o 4 (w + 1)) < (S o 4 w))) from by first | omega | (simp only [*]; done) | simp_all)).symm ?_
      exact J62 _ _ hP hS
    · -- w < ((S o 0 2) - 1)
      refine lv_aload_n hx hb dX2_isAboveNeighbour_43 rfl (lv_at hl 2 rfl) ?_
      refine p_get (k := 5) hx hb hown hK hP hal hkd rfl rfl (lay_X2 hK) 3 463 (by decide) t_463 rfl rfl dX2_isAboveNeighbour_44 ?_
      refine lv_iload_n hx hb dX2_isAboveNeighbour_47 rfl (lv_at hl 3 rfl) ?_
      refine lv_iconst (v := i32 (1)) hx hb dX2_isAboveNeighbour_48 rfl ?_
      refine q_iadd hx hb dX2_isAboveNeighbour_49 ?_
      refine q_callN hx hb hml hl.1 hown hK hZ hP hS (c_X3_valueAt l g base ad S o 4 5 4 (w + 1) hal hkd rfl (by omega) (by omega) ⟨by omega, by omega⟩) t_105 t_15 t_107 t_106 f_yX3_valueAt ⟨by decide, by decide⟩ rfl rfl (Nat.le_of_ble_eq_true rfl) dX2_isAboveNeighbour_50 ⟨by decide, by decide⟩ (q_an (fun H locs hP hS => ?_))
      refine q_nm (vA_in (by omega) (by omega)) ?_
      refine lv_iload_n hx hb dX2_isAboveNeighbour_53 rfl (lv_at hl 1 rfl) ?_
      refine q_icmp_ge (tgt := 61) hx hb (hP.rg _ _ _) (hP.rg _ _ _) dX2_isAboveNeighbour_54 (by decide) (fun c_4 => ?_) (fun c_4 => ?_)
      · -- (S o 4 w) ≤ (S o 4 (w + 1))
        refine lv_iconst (v := i32 (0)) hx hb dX2_isAboveNeighbour_61 rfl ?_
        refine q_nm (b2_f (show ¬ ((w < ((S o 0 2) - 1)) ∧ ((S o 4 (w + 1)) < (S o 4 w))) from by first | omega | (simp only [*]; done) | simp_all)).symm ?_
        exact J62 _ _ hP hS
      · -- (S o 4 (w + 1)) < (S o 4 w)
        refine lv_iconst (v := i32 (1)) hx hb dX2_isAboveNeighbour_57 rfl ?_
        refine lv_goto (tgt := 62) hx hb dX2_isAboveNeighbour_58 (by decide) ?_
        refine q_nm (b2_t (show (w < ((S o 0 2) - 1)) ∧ ((S o 4 (w + 1)) < (S o 4 w)) from by first | omega | (simp only [*]; done) | simp_all)).symm ?_
        exact J62 _ _ hP hS
  refine q_if_le (tgt := 31) hx hb ⟨by omega, by omega⟩ dX2_isAboveNeighbour_10 (by decide) (fun c_5 => ?_) (fun c_5 => ?_)
  · -- w ≤ 0
    refine lv_iconst (v := i32 (0)) hx hb dX2_isAboveNeighbour_31 rfl ?_
    refine q_nm (b2_f (show ¬ ((0 < w) ∧ ((S o 4 (w - 1)) < (S o 4 w))) from by first | omega | (simp only [*]; done) | simp_all)).symm ?_
    exact J32 _ _ hP hS
  · -- 0 < w
    refine lv_aload_n hx hb dX2_isAboveNeighbour_13 rfl (lv_at hl 1 rfl) ?_
    refine p_get (k := 5) hx hb hown hK hP hal hkd rfl rfl (lay_X2 hK) 3 463 (by decide) t_463 rfl rfl dX2_isAboveNeighbour_14 ?_
    refine lv_iload_n hx hb dX2_isAboveNeighbour_17 rfl (lv_at hl 2 rfl) ?_
    refine lv_iconst (v := i32 (1)) hx hb dX2_isAboveNeighbour_18 rfl ?_
    refine q_isub hx hb dX2_isAboveNeighbour_19 ?_
    refine q_callN hx hb hml hl.1 hown hK hZ hP hS (c_X3_valueAt l g base ad S o 4 5 4 (w - 1) hal hkd rfl (by omega) (by omega) ⟨by omega, by omega⟩) t_105 t_15 t_107 t_106 f_yX3_valueAt ⟨by decide, by decide⟩ rfl rfl (Nat.le_of_ble_eq_true rfl) dX2_isAboveNeighbour_20 ⟨by decide, by decide⟩ (q_an (fun H locs hP hS => ?_))
    refine q_nm (vA_in (by omega) (by omega)) ?_
    refine lv_iload_n hx hb dX2_isAboveNeighbour_23 rfl (lv_at hl 0 rfl) ?_
    refine q_icmp_ge (tgt := 31) hx hb (hP.rg _ _ _) (hP.rg _ _ _) dX2_isAboveNeighbour_24 (by decide) (fun c_6 => ?_) (fun c_6 => ?_)
    · -- (S o 4 w) ≤ (S o 4 (w - 1))
      refine lv_iconst (v := i32 (0)) hx hb dX2_isAboveNeighbour_31 rfl ?_
      refine q_nm (b2_f (show ¬ ((0 < w) ∧ ((S o 4 (w - 1)) < (S o 4 w))) from by first | omega | (simp only [*]; done) | simp_all)).symm ?_
      exact J32 _ _ hP hS
    · -- (S o 4 (w - 1)) < (S o 4 w)
      refine lv_iconst (v := i32 (1)) hx hb dX2_isAboveNeighbour_27 rfl ?_
      refine lv_goto (tgt := 32) hx hb dX2_isAboveNeighbour_28 (by decide) ?_
      refine q_nm (b2_t (show (0 < w) ∧ ((S o 4 (w - 1)) < (S o 4 w)) from by first | omega | (simp only [*]; done) | simp_all)).symm ?_
      exact J32 _ _ hP hS

set_option maxHeartbeats 4000000 in
set_option maxRecDepth 100000 in
theorem c_X2_firstColumnOf (l : Launch) (g : GT) (base : Nat) (ad : Nat → Nat → Nat) (S : St) (o : Nat) (w : Int) (hal : S o 0 (-1) = 1) (hkd : kd o = 5) (hjj : 0 ≤ w ∧ w ≤ S o 0 2) (hwv : 1 ≤ S o 0 2 ∧ S o 0 2 ≤ 4) (hwd : 0 ≤ S o 0 0 ∧ S o 0 0 ≤ 12) : Met l yX2_firstColumnOf [Cond.code yX2_firstColumnOf cX2_firstColumnOf 2 (some FieldType.int)] ({ frames := 0, cells := 0, slots := 0, locals := 0 }) (va_Pc [.ref (ad o 0), .int (i32 (w))] (PK g base ad S)) (gQ g base (an (some (.int (i32 (fcC S o w)))) ad S)) 0 0 (fun q => base ≤ q) := by
  refine mk_m (own := RX2) (lv0 := [(0, .ref (ad o 0)), (1, .int (i32 (w)))]) (by decide) rfl (Nat.le_of_ble_eq_true rfl) rfl ?_
  intro p e s m below meth cz av Qm hx hb hr hml hown hlocks hK hZ hP hQm ls hl
  have hS : va_S (fun q => base ≤ q) s.heap s.heap [] := va_S.rf
  have rS : ∀ (a1 b1 : Nat) (i1 : Int), rng (S a1 b1 i1) := fun a1 b1 i1 => hP.rg a1 b1 i1
  obtain ⟨hb1, hb2⟩ := fc_p (w := w) (d := S o 0 0) (by omega) (by omega) (by omega) (by omega)
  refine lv_aload_n hx hb dX2_firstColumnOf_0 rfl (lv_at hl 0 rfl) ?_
  refine p_get (k := 5) hx hb hown hK hP hal hkd rfl rfl (lay_X2 hK) 2 462 (by decide) t_462 rfl rfl dX2_firstColumnOf_1 ?_
  refine lv_iconst (v := i32 (1)) hx hb dX2_firstColumnOf_4 rfl ?_
  have J23 : ∀ (b23 : Int) (H : Heap) (locs : List Loc), (((1 ≤ (S o 0 2)) ∧ b23 = (w * (S o 0 0)) / (S o 0 2)) ∨ (((S o 0 2) < 1) ∧ b23 = 0)) → pic g base ad S H → va_S (fun q => base ≤ q) s.heap H locs → W p l e ({ frames := 0, cells := 0, slots := 0, locals := 0 } : Room) s m av below meth cz H locs 0 0 Qm (F0 m 23 ls (Value.int (i32 b23) :: [])) := by
    intro b23 H locs hb23 hP hS
    refine q_nm (show (b23 : Int) = fcC S o w from by unfold fcC; rcases hb23 with ⟨h1, h2⟩ | ⟨h1, h2⟩ <;> first | (rw [h2]; done) | (exfalso; omega)) ?_
    subst hQm
    exact q_iret hx hb hr hlocks hP hS ⟨rfl, rfl, rfl⟩ (by decide) (by decide) dX2_firstColumnOf_23
  refine q_icmp_ge (tgt := 12) hx hb (hP.rg _ _ _) ⟨by decide, by decide⟩ dX2_firstColumnOf_5 (by decide) (fun c_1 => ?_) (fun c_1 => ?_)
  · -- 1 ≤ (S o 0 2)
    refine lv_iload_n hx hb dX2_firstColumnOf_12 rfl (lv_at hl 1 rfl) ?_
    refine lv_aload_n hx hb dX2_firstColumnOf_13 rfl (lv_at hl 0 rfl) ?_
    refine p_get (k := 5) hx hb hown hK hP hal hkd rfl rfl (lay_X2 hK) 0 460 (by decide) t_460 rfl rfl dX2_firstColumnOf_14 ?_
    refine q_imul hx hb dX2_firstColumnOf_17 ?_
    refine lv_aload_n hx hb dX2_firstColumnOf_18 rfl (lv_at hl 0 rfl) ?_
    refine p_get (k := 5) hx hb hown hK hP hal hkd rfl rfl (lay_X2 hK) 2 462 (by decide) t_462 rfl rfl dX2_firstColumnOf_19 ?_
    refine q_idiv hx hb (by omega) (by omega) (by omega) (by omega) dX2_firstColumnOf_22 ?_
    exact J23 _ _ _ (by first | omega | (simp only [*]; done) | simp_all) hP hS
  · -- (S o 0 2) < 1
    refine lv_iconst (v := i32 (0)) hx hb dX2_firstColumnOf_8 rfl ?_
    refine lv_goto (tgt := 23) hx hb dX2_firstColumnOf_9 (by decide) ?_
    exact J23 _ _ _ (by first | omega | (simp only [*]; done) | simp_all) hP hS

set_option maxHeartbeats 4000000 in
set_option maxRecDepth 100000 in
theorem c_X2_countInNextRow (l : Launch) (g : GT) (base : Nat) (ad : Nat → Nat → Nat) (S : St) (o : Nat) (w u : Int) (hal : S o 0 (-1) = 1) (hkd : kd o = 5) (hjj : 0 ≤ w ∧ w < S o 0 2) (hwv : 1 ≤ S o 0 2 ∧ S o 0 2 ≤ 4) (hwd : 0 ≤ S o 0 0 ∧ S o 0 0 ≤ 12) (hro : 0 ≤ S o 4 w ∧ S o 4 w < 10) (hrn : rng u) : Met l yX2_countInNextRow [Cond.code yX2_countInNextRow cX2_countInNextRow 7 (some FieldType.int)] ({ frames := 2, cells := 0, slots := 0, locals := 43 }) (va_Pc [.ref (ad o 0), .int (i32 (w)), .int (i32 (u))] (PK g base ad S)) (gQ g base (an (some (.int (i32 (niC S o w u)))) ad S)) 0 0 (fun q => base ≤ q) := by
  refine mk_m (own := RX2) (lv0 := [(0, .ref (ad o 0)), (1, .int (i32 (w))), (2, .int (i32 (u)))]) (by decide) rfl (Nat.le_of_ble_eq_true rfl) rfl ?_
  intro p e s m below meth cz av Qm hx hb hr hml hown hlocks hK hZ hP hQm ls hl
  have hS : va_S (fun q => base ≤ q) s.heap s.heap [] := va_S.rf
  have rS : ∀ (a1 b1 : Nat) (i1 : Int), rng (S a1 b1 i1) := fun a1 b1 i1 => hP.rg a1 b1 i1
  obtain ⟨hf1, hf2, hf3⟩ := fc_b (S := S) (o := o) (w := w) (by omega) (by omega) (by omega) (by omega) (by omega)
  refine lv_aload_n hx hb dX2_countInNextRow_0 rfl (lv_at hl 0 rfl) ?_
  refine p_get (k := 5) hx hb hown hK hP hal hkd rfl rfl (lay_X2 hK) 3 463 (by decide) t_463 rfl rfl dX2_countInNextRow_1 ?_
  refine lv_iload_n hx hb dX2_countInNextRow_4 rfl (lv_at hl 1 rfl) ?_
  refine q_callN hx hb hml hl.1 hown hK hZ hP hS (c_X3_valueAt l g base ad S o 4 5 4 w hal hkd rfl (by omega) (by omega) ⟨by omega, by omega⟩) t_105 t_15 t_107 t_106 f_yX3_valueAt ⟨by decide, by decide⟩ rfl rfl (Nat.le_of_ble_eq_true rfl) dX2_countInNextRow_5 ⟨by decide, by decide⟩ (q_an (fun H locs hP hS => ?_))
  refine q_nm (vA_in (by omega) (by omega)) ?_
  refine lv_istore_n (lv' := [(3, .int (i32 (S o 4 w))), (0, .ref (ad o 0)), (1, .int (i32 (w))), (2, .int (i32 (u)))]) hx hb dX2_countInNextRow_8 rfl hl (by decide) rfl (fun ls hl => ?_)
  refine lv_aload_n hx hb dX2_countInNextRow_9 rfl (lv_at hl 1 rfl) ?_
  refine lv_iload_n hx hb dX2_countInNextRow_10 rfl (lv_at hl 2 rfl) ?_
  refine lv_iconst (v := i32 (1)) hx hb dX2_countInNextRow_11 rfl ?_
  refine q_iadd hx hb dX2_countInNextRow_12 ?_
  refine q_callV (k := 5) hx hb hml hl.1 hown hK hZ hP hS hal hkd rfl rfl (c_X2_firstColumnOf l g base ad S o (w + 1) hal hkd (by omega) (by omega) (by omega)) t_566 t_8 (q_callB hK 564 24 567 t_564 t_24 t_567 f_yX2_firstColumnOf ⟨by decide, by decide⟩) rfl rfl (Nat.le_of_ble_eq_true rfl) dX2_countInNextRow_13 ⟨by decide, by decide⟩  (q_an (fun H locs hP hS => ?_))
  refine lv_istore (lv' := [(4, .int (i32 (fcC S o (w + 1)))), (3, .int (i32 (S o 4 w))), (0, .ref (ad o 0)), (1, .int (i32 (w))), (2, .int (i32 (u)))]) hx hb dX2_countInNextRow_16 hl (by decide) rfl (fun ls hl => ?_)
  refine lv_iconst (v := i32 (0)) hx hb dX2_countInNextRow_18 rfl ?_
  refine lv_istore (lv' := [(5, .int (i32 (0))), (4, .int (i32 (fcC S o (w + 1)))), (3, .int (i32 (S o 4 w))), (0, .ref (ad o 0)), (1, .int (i32 (w))), (2, .int (i32 (u)))]) hx hb dX2_countInNextRow_19 hl (by decide) rfl (fun ls hl => ?_)
  refine lv_aload_n hx hb dX2_countInNextRow_21 rfl (lv_at hl 3 rfl) ?_
  refine lv_iload_n hx hb dX2_countInNextRow_22 rfl (lv_at hl 4 rfl) ?_
  refine q_callV (k := 5) hx hb hml hl.1 hown hK hZ hP hS hal hkd rfl rfl (c_X2_firstColumnOf l g base ad S o w hal hkd (by omega) (by omega) (by omega)) t_566 t_8 (q_callB hK 564 24 567 t_564 t_24 t_567 f_yX2_firstColumnOf ⟨by decide, by decide⟩) rfl rfl (Nat.le_of_ble_eq_true rfl) dX2_countInNextRow_23 ⟨by decide, by decide⟩  (q_an (fun H locs hP hS => ?_))
  refine lv_istore (lv' := [(6, .int (i32 (fcC S o w))), (5, .int (i32 (0))), (4, .int (i32 (fcC S o (w + 1)))), (3, .int (i32 (S o 4 w))), (0, .ref (ad o 0)), (1, .int (i32 (w))), (2, .int (i32 (u)))]) hx hb dX2_countInNextRow_26 hl (by decide) rfl (fun ls hl => ?_)
  have L28 : ∀ (k : Nat) (n q : Int) (H : Heap) (locs : List Loc) (ls : Array Slot), (fcC S o w ≤ q ∧ q ≤ fcC S o (w + 1)) → (n = sm (fun i => b2 (S o 5 (S o 4 w * 24 + (fcC S o w + i)) = u)) (q - fcC S o w).toNat) → fcC S o (w + 1) - q < (k : Int) → pic g base ad S H → va_S (fun q => base ≤ q) s.heap H locs → lv_has ls 7 [(6, .int (i32 (q))), (5, .int (i32 (n))), (4, .int (i32 (fcC S o (w + 1)))), (3, .int (i32 (S o 4 w))), (0, .ref (ad o 0)), (1, .int (i32 (w))), (2, .int (i32 (u)))] → W p l e ({ frames := 2, cells := 0, slots := 0, locals := 43 } : Room) s m av below meth cz H locs 0 0 Qm (F0 m 28 ls []) := by
    intro k
    induction k with
    | zero => intro n q H locs ls zq zn hmu _ _ _; exact absurd hmu (by omega)
    | succ k ih28 =>
      intro n q H locs ls zq zn hmu hP hS hl
      refine lv_iload hx hb dX2_countInNextRow_28 (lv_at hl 0 rfl) ?_
      refine lv_iload hx hb dX2_countInNextRow_30 (lv_at hl 2 rfl) ?_
      refine q_icmp_ge (tgt := 55) hx hb ⟨by omega, by omega⟩ ⟨by omega, by omega⟩ dX2_countInNextRow_32 (by decide) (fun c_1 => ?_) (fun c_1 => ?_)
      · -- (fcC S o (w + 1)) ≤ q
        refine lv_iload hx hb dX2_countInNextRow_55 (lv_at hl 1 rfl) ?_
        refine q_nm (show (n : Int) = niC S o w u from by rw [zn, show q = fcC S o (w + 1) from by omega]; rfl) ?_
        subst hQm
        exact q_iret hx hb hr hlocks hP hS ⟨rfl, rfl, rfl⟩ (by decide) (by decide) dX2_countInNextRow_57
      · -- q < (fcC S o (w + 1))
        refine lv_aload_n hx hb dX2_countInNextRow_35 rfl (lv_at hl 4 rfl) ?_
        refine lv_iload_n hx hb dX2_countInNextRow_36 rfl (lv_at hl 3 rfl) ?_
        refine lv_iload hx hb dX2_countInNextRow_37 (lv_at hl 0 rfl) ?_
        refine q_callV (k := 5) hx hb hml hl.1 hown hK hZ hP hS hal hkd rfl rfl (c_X2_colourAt l g base ad S o (S o 4 w) q hal hkd (by omega) (by omega)) t_313 t_314 (q_callB hK 312 24 315 t_312 t_24 t_315 f_yX2_colourAt ⟨by decide, by decide⟩) rfl rfl (Nat.le_of_ble_eq_true rfl) dX2_countInNextRow_39 ⟨by decide, by decide⟩  (q_an (fun H locs hP hS => ?_))
        refine lv_iload_n hx hb dX2_countInNextRow_42 rfl (lv_at hl 6 rfl) ?_
        refine q_icmp_ne (tgt := 49) hx hb (hP.rg _ _ _) hrn dX2_countInNextRow_43 (by decide) (fun c_2 => ?_) (fun c_2 => ?_)
        · -- (S o 5 ((S o 4 w) * 24 + q)) ≠ u
          refine lv_iinc (v := i32 (q + 1)) (lv' := [(6, .int (i32 (q + 1))), (5, .int (i32 (n))), (4, .int (i32 (fcC S o (w + 1)))), (3, .int (i32 (S o 4 w))), (0, .ref (ad o 0)), (1, .int (i32 (w))), (2, .int (i32 (u)))]) hx hb dX2_countInNextRow_49 hl (k := 0) rfl (i32_add _ _) (by decide) rfl (fun ls hl => ?_)
          refine lv_goto (tgt := 28) hx hb dX2_countInNextRow_52 (by decide) ?_
          exact ih28 n (q + 1) _ _ _ (by omega) (by rw [smo (F := fun i => b2 (S o 5 (S o 4 w * 24 + i) = u)) zq.1, ← zn]; rw [b2_f c_2]; omega) (by omega) hP hS (lv_sub hl [0, 1, 2, 3, 4, 5, 6] rfl)
        · -- (S o 5 ((S o 4 w) * 24 + q)) = u
          refine lv_iinc (v := i32 (n + 1)) (lv' := [(5, .int (i32 (n + 1))), (6, .int (i32 (q))), (4, .int (i32 (fcC S o (w + 1)))), (3, .int (i32 (S o 4 w))), (0, .ref (ad o 0)), (1, .int (i32 (w))), (2, .int (i32 (u)))]) hx hb dX2_countInNextRow_46 hl (k := 1) rfl (i32_add _ _) (by decide) rfl (fun ls hl => ?_)
          refine lv_iinc (v := i32 (q + 1)) (lv' := [(6, .int (i32 (q + 1))), (5, .int (i32 (n + 1))), (4, .int (i32 (fcC S o (w + 1)))), (3, .int (i32 (S o 4 w))), (0, .ref (ad o 0)), (1, .int (i32 (w))), (2, .int (i32 (u)))]) hx hb dX2_countInNextRow_49 hl (k := 1) rfl (i32_add _ _) (by decide) rfl (fun ls hl => ?_)
          refine lv_goto (tgt := 28) hx hb dX2_countInNextRow_52 (by decide) ?_
          exact ih28 (n + 1) (q + 1) _ _ _ (by omega) (by rw [smo (F := fun i => b2 (S o 5 (S o 4 w * 24 + i) = u)) zq.1, ← zn]; rw [b2_t c_2]) (by omega) hP hS (lv_sub hl [0, 1, 2, 3, 4, 5, 6] rfl)
  exact L28 ((fcC S o (w + 1) - (fcC S o w)) + 1).toNat 0 (fcC S o w) _ _ _ (by omega) (by rw [show (fcC S o w - fcC S o w).toNat = 0 from by omega]; rfl) (by omega) hP hS (lv_sub hl [0, 1, 2, 3, 4, 5, 6] rfl)

set_option maxHeartbeats 4000000 in
set_option maxRecDepth 100000 in
theorem c_X2_threadsSuffice (l : Launch) (g : GT) (base : Nat) (ad : Nat → Nat → Nat) (S : St) (o : Nat) (w : Int) (hal : S o 0 (-1) = 1) (hkd : kd o = 5) (halb : S 2 0 (-1) = 1) (hjj : 0 ≤ w ∧ w < S o 0 2) (hwv : 1 ≤ S o 0 2 ∧ S o 0 2 ≤ 4) (hwd : 0 ≤ S o 0 0 ∧ S o 0 0 ≤ 12) (hro : 0 ≤ S o 4 w ∧ S o 4 w < 10) (hct : 0 ≤ S 2 0 0 ∧ S 2 0 0 ≤ 20) (hla : ∀ j, 0 ≤ j → j < 20 → 0 ≤ S 2 4 j ∧ S 2 4 j ≤ 999) : Met l yX2_threadsSuffice [Cond.code yX2_threadsSuffice cX2_threadsSuffice 4 (some FieldType.boolean)] ({ frames := 3, cells := 0, slots := 0, locals := 69 }) (va_Pc [.ref (ad o 0), .int (i32 (w)), .ref (ad 2 0)] (PK g base ad S)) (gQ g base (an (some (.int (i32 (b2 (∀ j, 0 ≤ j → j < 6 → niC S o w j ≤ thC S j))))) ad S)) 0 0 (fun q => base ≤ q) := by
  refine mk_m (own := RX2) (lv0 := [(0, .ref (ad o 0)), (1, .int (i32 (w))), (2, .ref (ad 2 0))]) (by decide) rfl (Nat.le_of_ble_eq_true rfl) rfl ?_
  intro p e s m below meth cz av Qm hx hb hr hml hown hlocks hK hZ hP hQm ls hl
  have hS : va_S (fun q => base ≤ q) s.heap s.heap [] := va_S.rf
  have rS : ∀ (a1 b1 : Nat) (i1 : Int), rng (S a1 b1 i1) := fun a1 b1 i1 => hP.rg a1 b1 i1
  obtain ⟨hf1, hf2, hf3⟩ := fc_b (S := S) (o := o) (w := w) (by omega) (by omega) (by omega) (by omega) (by omega)
  refine lv_iconst (v := i32 (0)) hx hb dX2_threadsSuffice_0 rfl ?_
  refine lv_istore_n (lv' := [(3, .int (i32 (0))), (0, .ref (ad o 0)), (1, .int (i32 (w))), (2, .ref (ad 2 0))]) hx hb dX2_threadsSuffice_1 rfl hl (by decide) rfl (fun ls hl => ?_)
  have L2 : ∀ (k : Nat) (u : Int) (H : Heap) (locs : List Loc) (ls : Array Slot), (0 ≤ u ∧ u ≤ 6) → (∀ j, 0 ≤ j → j < u → niC S o w j ≤ thC S j) → (6 : Int) - u < (k : Int) → pic g base ad S H → va_S (fun q => base ≤ q) s.heap H locs → lv_has ls 4 [(3, .int (i32 (u))), (0, .ref (ad o 0)), (1, .int (i32 (w))), (2, .ref (ad 2 0))] → W p l e ({ frames := 3, cells := 0, slots := 0, locals := 69 } : Room) s m av below meth cz H locs 0 0 Qm (F0 m 2 ls []) := by
    intro k
    induction k with
    | zero => intro u H locs ls zu za hmu _ _ _; exact absurd hmu (by omega)
    | succ k ih2 =>
      intro u H locs ls zu za hmu hP hS hl
      refine lv_iload_n hx hb dX2_threadsSuffice_2 rfl (lv_at hl 0 rfl) ?_
      refine lv_bipush (v := i32 (6)) hx hb dX2_threadsSuffice_3 (by decide) ?_
      refine q_icmp_ge (tgt := 30) hx hb ⟨by omega, by omega⟩ ⟨by decide, by decide⟩ dX2_threadsSuffice_5 (by decide) (fun c_1 => ?_) (fun c_1 => ?_)
      · -- 6 ≤ u
        refine lv_iconst (v := i32 (1)) hx hb dX2_threadsSuffice_30 rfl ?_
        refine q_nm (b2_t (show ∀ j, 0 ≤ j → j < 6 → niC S o w j ≤ thC S j from by exact fun j h0 h1 => za j h0 (by omega))).symm ?_
        subst hQm
        exact q_zret hx hb hr hlocks hP hS (b2_01 _) ⟨rfl, rfl, rfl⟩ (by decide) (by decide) dX2_threadsSuffice_31
      · -- u < 6
        refine lv_aload_n hx hb dX2_threadsSuffice_8 rfl (lv_at hl 1 rfl) ?_
        refine lv_iload_n hx hb dX2_threadsSuffice_9 rfl (lv_at hl 2 rfl) ?_
        refine lv_iload_n hx hb dX2_threadsSuffice_10 rfl (lv_at hl 0 rfl) ?_
        refine q_callV (k := 5) hx hb hml hl.1 hown hK hZ hP hS hal hkd rfl rfl (c_X2_countInNextRow l g base ad S o w u hal hkd (by omega) (by omega) (by omega) (by omega) ⟨by omega, by omega⟩) t_562 t_7 (q_callB hK 560 24 563 t_560 t_24 t_563 f_yX2_countInNextRow ⟨by decide, by decide⟩) rfl rfl (Nat.le_of_ble_eq_true rfl) dX2_threadsSuffice_11 ⟨by decide, by decide⟩  (q_an (fun H locs hP hS => ?_))
        refine lv_aload_n hx hb dX2_threadsSuffice_14 rfl (lv_at hl 3 rfl) ?_
        refine lv_iload_n hx hb dX2_threadsSuffice_15 rfl (lv_at hl 0 rfl) ?_
        refine q_callV (k := 2) hx hb hml hl.1 hown hK hZ hP hS halb rfl rfl rfl (c_X1_threadsOfColour l g base ad S u halb ⟨by omega, by omega⟩ (by omega)) t_569 t_570 (q_callB hK 568 16 571 t_568 t_16 t_571 f_yX1_threadsOfColour ⟨by decide, by decide⟩) rfl rfl (Nat.le_of_ble_eq_true rfl) dX2_threadsSuffice_16 ⟨by decide, by decide⟩  (q_an (fun H locs hP hS => ?_))
        refine q_icmp_le (tgt := 24) hx hb (niC_r S o w u (by omega)) (thC_r S u (by omega) hla) dX2_threadsSuffice_19 (by decide) (fun c_2 => ?_) (fun c_2 => ?_)
        · -- (niC S o w u) ≤ (thC S u)
          refine lv_iinc (v := i32 (u + 1)) (lv' := [(3, .int (i32 (u + 1))), (0, .ref (ad o 0)), (1, .int (i32 (w))), (2, .ref (ad 2 0))]) hx hb dX2_threadsSuffice_24 hl (k := 0) rfl (i32_add _ _) (by decide) rfl (fun ls hl => ?_)
          refine lv_goto (tgt := 2) hx hb dX2_threadsSuffice_27 (by decide) ?_
          exact ih2 (u + 1) _ _ _ (by omega) (by exact (all_s (φ := fun j => niC S o w j ≤ thC S j) zu.1).mpr ⟨za, c_2⟩) (by omega) hP hS (lv_sub hl [0, 1, 2, 3] rfl)
        · -- (thC S u) < (niC S o w u)
          refine lv_iconst (v := i32 (0)) hx hb dX2_threadsSuffice_22 rfl ?_
          refine q_nm (b2_f (show ¬ (∀ j, 0 ≤ j → j < 6 → niC S o w j ≤ thC S j) from by exact fun hq => absurd (hq u (by omega) (by omega)) (by omega))).symm ?_
          subst hQm
          exact q_zret hx hb hr hlocks hP hS (b2_01 _) ⟨rfl, rfl, rfl⟩ (by decide) (by decide) dX2_threadsSuffice_23
  exact L2 (((6 : Int) - 0) + 1).toNat 0 _ _ _ (by omega) (by intro j h0 h1; omega) (by omega) hP hS (lv_sub hl [0, 1, 2, 3] rfl)

set_option maxHeartbeats 4000000 in
set_option maxRecDepth 100000 in
theorem c_X2_weaveRow (l : Launch) (g : GT) (base : Nat) (ad : Nat → Nat → Nat) (S : St) (o : Nat) (w : Int) (hal : S o 0 (-1) = 1) (hkd : kd o = 5) (halb : S 2 0 (-1) = 1) (hjj : 0 ≤ w ∧ w < S o 0 2) (hwv : 1 ≤ S o 0 2 ∧ S o 0 2 ≤ 4) (hwd : 0 ≤ S o 0 0 ∧ S o 0 0 ≤ 12) (hro : 0 ≤ S o 4 w ∧ S o 4 w < 10) (hct : 0 ≤ S 2 0 0 ∧ S 2 0 0 ≤ 20) : Met l yX2_weaveRow [Cond.code yX2_weaveRow cX2_weaveRow 6 (some FieldType.int)] ({ frames := 3, cells := 0, slots := 0, locals := 65 }) (va_Pc [.ref (ad o 0), .int (i32 (w)), .ref (ad 2 0)] (PK g base ad S)) (gQ g base (an (some (.int (i32 (S o 4 w)))) ad (st (wrI S o (S o 4 w) (fcC S o w) (fcC S o (w + 1) - fcC S o w).toNat) o 4 w (S o 4 w + 1)))) 0 0 (fun q => base ≤ q) := by
  refine mk_m (own := RX2) (lv0 := [(0, .ref (ad o 0)), (1, .int (i32 (w))), (2, .ref (ad 2 0))]) (by decide) rfl (Nat.le_of_ble_eq_true rfl) rfl ?_
  intro p e s m below meth cz av Qm hx hb hr hml hown hlocks hK hZ hP hQm ls hl
  have hS : va_S (fun q => base ≤ q) s.heap s.heap [] := va_S.rf
  have rS : ∀ (a1 b1 : Nat) (i1 : Int), rng (S a1 b1 i1) := fun a1 b1 i1 => hP.rg a1 b1 i1
  obtain ⟨hf1, hf2, hf3⟩ := fc_b (S := S) (o := o) (w := w) (by omega) (by omega) (by omega) (by omega) (by omega)
  refine lv_aload_n hx hb dX2_weaveRow_0 rfl (lv_at hl 0 rfl) ?_
  refine p_get (k := 5) hx hb hown hK hP hal hkd rfl rfl (lay_X2 hK) 3 463 (by decide) t_463 rfl rfl dX2_weaveRow_1 ?_
  refine lv_iload_n hx hb dX2_weaveRow_4 rfl (lv_at hl 1 rfl) ?_
  refine q_callN hx hb hml hl.1 hown hK hZ hP hS (c_X3_valueAt l g base ad S o 4 5 4 w hal hkd rfl (by omega) (by omega) ⟨by omega, by omega⟩) t_105 t_15 t_107 t_106 f_yX3_valueAt ⟨by decide, by decide⟩ rfl rfl (Nat.le_of_ble_eq_true rfl) dX2_weaveRow_5 ⟨by decide, by decide⟩ (q_an (fun H locs hP hS => ?_))
  refine q_nm (vA_in (by omega) (by omega)) ?_
  refine lv_istore_n (lv' := [(3, .int (i32 (S o 4 w))), (0, .ref (ad o 0)), (1, .int (i32 (w))), (2, .ref (ad 2 0))]) hx hb dX2_weaveRow_8 rfl hl (by decide) rfl (fun ls hl => ?_)
  refine lv_aload_n hx hb dX2_weaveRow_9 rfl (lv_at hl 1 rfl) ?_
  refine lv_iload_n hx hb dX2_weaveRow_10 rfl (lv_at hl 2 rfl) ?_
  refine lv_iconst (v := i32 (1)) hx hb dX2_weaveRow_11 rfl ?_
  refine q_iadd hx hb dX2_weaveRow_12 ?_
  refine q_callV (k := 5) hx hb hml hl.1 hown hK hZ hP hS hal hkd rfl rfl (c_X2_firstColumnOf l g base ad S o (w + 1) hal hkd (by omega) (by omega) (by omega)) t_566 t_8 (q_callB hK 564 24 567 t_564 t_24 t_567 f_yX2_firstColumnOf ⟨by decide, by decide⟩) rfl rfl (Nat.le_of_ble_eq_true rfl) dX2_weaveRow_13 ⟨by decide, by decide⟩  (q_an (fun H locs hP hS => ?_))
  refine lv_istore (lv' := [(4, .int (i32 (fcC S o (w + 1)))), (3, .int (i32 (S o 4 w))), (0, .ref (ad o 0)), (1, .int (i32 (w))), (2, .ref (ad 2 0))]) hx hb dX2_weaveRow_16 hl (by decide) rfl (fun ls hl => ?_)
  refine lv_aload_n hx hb dX2_weaveRow_18 rfl (lv_at hl 2 rfl) ?_
  refine lv_iload_n hx hb dX2_weaveRow_19 rfl (lv_at hl 3 rfl) ?_
  refine q_callV (k := 5) hx hb hml hl.1 hown hK hZ hP hS hal hkd rfl rfl (c_X2_firstColumnOf l g base ad S o w hal hkd (by omega) (by omega) (by omega)) t_566 t_8 (q_callB hK 564 24 567 t_564 t_24 t_567 f_yX2_firstColumnOf ⟨by decide, by decide⟩) rfl rfl (Nat.le_of_ble_eq_true rfl) dX2_weaveRow_20 ⟨by decide, by decide⟩  (q_an (fun H locs hP hS => ?_))
  refine lv_istore (lv' := [(5, .int (i32 (fcC S o w))), (4, .int (i32 (fcC S o (w + 1)))), (3, .int (i32 (S o 4 w))), (0, .ref (ad o 0)), (1, .int (i32 (w))), (2, .ref (ad 2 0))]) hx hb dX2_weaveRow_23 hl (by decide) rfl (fun ls hl => ?_)
  have L25 : ∀ (k : Nat) (q : Int) (Sa : St) (H : Heap) (locs : List Loc) (ls : Array Slot), (fcC S o w ≤ q ∧ q ≤ fcC S o (w + 1)) → (∀ (a1 b1 : Nat) (i1 : Int), Sa a1 b1 i1 = wrI S o (S o 4 w) (fcC S o w) (q - fcC S o w).toNat a1 b1 i1) → fcC S o (w + 1) - q < (k : Int) → pic g base ad Sa H → va_S (fun q => base ≤ q) s.heap H locs → lv_has ls 6 [(5, .int (i32 (q))), (4, .int (i32 (fcC S o (w + 1)))), (3, .int (i32 (S o 4 w))), (0, .ref (ad o 0)), (1, .int (i32 (w))), (2, .ref (ad 2 0))] → W p l e ({ frames := 3, cells := 0, slots := 0, locals := 65 } : Room) s m av below meth cz H locs 0 0 Qm (F0 m 25 ls []) := by
    intro k
    induction k with
    | zero => intro q Sa H locs ls zq zS hmu _ _ _; exact absurd hmu (by omega)
    | succ k ih25 =>
      intro q Sa H locs ls zq zS hmu hP hS hl
      have aSa_o : Sa o 0 (-1) = 1 := by rw [zS, wrI_o (by omega) (by omega) (by omega)]; exact hal
      have aSa_2 : Sa 2 0 (-1) = 1 := by rw [zS, wrI_o (by omega) (by omega) (by omega)]; exact halb
      have rSa : ∀ (a1 b1 : Nat) (i1 : Int), rng (Sa a1 b1 i1) := fun a1 b1 i1 => hP.rg a1 b1 i1
      have y1 : Sa 2 0 0 = S 2 0 0 := by rw [zS, wrI_o (by omega) (by omega) (by omega)]
      refine lv_iload hx hb dX2_weaveRow_25 (lv_at hl 0 rfl) ?_
      refine lv_iload hx hb dX2_weaveRow_27 (lv_at hl 1 rfl) ?_
      refine q_icmp_ge (tgt := 77) hx hb ⟨by omega, by omega⟩ ⟨by omega, by omega⟩ dX2_weaveRow_29 (by decide) (fun c_1 => ?_) (fun c_1 => ?_)
      · -- (fcC S o (w + 1)) ≤ q
        refine lv_aload_n hx hb dX2_weaveRow_77 rfl (lv_at hl 3 rfl) ?_
        refine p_get (k := 5) hx hb hown hK hP aSa_o hkd rfl rfl (lay_X2 hK) 3 463 (by decide) t_463 rfl rfl dX2_weaveRow_78 ?_
        refine lv_iload_n hx hb dX2_weaveRow_81 rfl (lv_at hl 4 rfl) ?_
        refine lv_iload_n hx hb dX2_weaveRow_82 rfl (lv_at hl 2 rfl) ?_
        refine lv_iconst (v := i32 (1)) hx hb dX2_weaveRow_83 rfl ?_
        refine q_iadd hx hb dX2_weaveRow_84 ?_
        refine q_callN hx hb hml hl.1 hown hK hZ hP hS (c_X3_setAt l g base ad Sa o 4 5 4 w ((S o 4 w) + 1) aSa_o hkd rfl (by omega) (by omega) ⟨by omega, by omega⟩ ⟨by omega, by omega⟩) t_108 t_15 t_110 t_109 f_yX3_setAt ⟨by decide, by decide⟩ rfl rfl (Nat.le_of_ble_eq_true rfl) dX2_weaveRow_85 ⟨by decide, by decide⟩ (q_an (fun H locs hP hS => ?_))
        rw [sA_in (by omega) (by omega)] at hP
        generalize eS2 : st Sa o 4 w ((S o 4 w) + 1) = S2 at hP
        have qS2 : ∀ (a1 b1 : Nat) (i1 : Int), S2 a1 b1 i1 = if a1 = o ∧ b1 = 4 ∧ i1 = w then (S o 4 w) + 1 else Sa a1 b1 i1 := fun a1 b1 i1 => by rw [← eS2]; exact st_at _ _ _ _ _ _ _ _
        have rS2 : ∀ (a1 b1 : Nat) (i1 : Int), rng (S2 a1 b1 i1) := fun a1 b1 i1 => hP.rg a1 b1 i1
        have aS2_o : S2 o 0 (-1) = 1 := by rw [qS2, if_neg (by omega)]; exact aSa_o
        have aS2_2 : S2 2 0 (-1) = 1 := by rw [qS2, if_neg (by omega)]; exact aSa_2
        refine lv_iload_n hx hb dX2_weaveRow_88 rfl (lv_at hl 2 rfl) ?_
        subst hQm
        exact q_iret hx hb hr hlocks hP hS ⟨rfl, rfl, (by have w1 : q = fcC S o (w + 1) := (by omega); have w2 : Sa = wrI S o (S o 4 w) (fcC S o w) (fcC S o (w + 1) - fcC S o w).toNat := (by funext a b i; rw [zS, w1]); rw [← eS2, w2])⟩ (by decide) (by decide) dX2_weaveRow_89
      · -- q < (fcC S o (w + 1))
        refine lv_aload_n hx hb dX2_weaveRow_32 rfl (lv_at hl 3 rfl) ?_
        refine p_get (k := 5) hx hb hown hK hP aSa_o hkd rfl rfl (lay_X2 hK) 5 465 (by decide) t_465 rfl rfl dX2_weaveRow_33 ?_
        refine lv_iload_n hx hb dX2_weaveRow_36 rfl (lv_at hl 2 rfl) ?_
        refine lv_iload hx hb dX2_weaveRow_37 (lv_at hl 0 rfl) ?_
        refine q_callS hx hb hml hl.1 hown hK hZ hP hS (c_X2_placeOf l g base ad Sa (S o 4 w) q ) t_103 (q_callB hK 102 24 104 t_102 t_24 t_104 f_yX2_placeOf ⟨by decide, by decide⟩) rfl rfl (Nat.le_of_ble_eq_true rfl) dX2_weaveRow_39 ⟨by decide, by decide⟩  (q_an (fun H locs hP hS => ?_))
        refine lv_aload_n hx hb dX2_weaveRow_42 rfl (lv_at hl 5 rfl) ?_
        refine lv_aload_n hx hb dX2_weaveRow_43 rfl (lv_at hl 3 rfl) ?_
        refine lv_iload_n hx hb dX2_weaveRow_44 rfl (lv_at hl 2 rfl) ?_
        refine lv_iload hx hb dX2_weaveRow_45 (lv_at hl 0 rfl) ?_
        refine q_callV (k := 5) hx hb hml hl.1 hown hK hZ hP hS aSa_o hkd rfl rfl (c_X2_colourAt l g base ad Sa o (S o 4 w) q aSa_o hkd (by omega) (by omega)) t_313 t_314 (q_callB hK 312 24 315 t_312 t_24 t_315 f_yX2_colourAt ⟨by decide, by decide⟩) rfl rfl (Nat.le_of_ble_eq_true rfl) dX2_weaveRow_47 ⟨by decide, by decide⟩  (q_an (fun H locs hP hS => ?_))
        refine q_nm (show Sa o 5 ((S o 4 w) * 24 + q) = S o 5 ((S o 4 w) * 24 + q) from by rw [zS, wrI_o (by omega) (by omega) (by omega)]) ?_
        refine q_callV (k := 2) hx hb hml hl.1 hown hK hZ hP hS aSa_2 rfl rfl rfl (c_X1_takeThread l g base ad Sa (S o 5 ((S o 4 w) * 24 + q)) aSa_2 (rS _ _ _) (by omega)) t_579 t_580 (q_callB hK 578 16 581 t_578 t_16 t_581 f_yX1_takeThread ⟨by decide, by decide⟩) rfl rfl (Nat.le_of_ble_eq_true rfl) dX2_weaveRow_50 ⟨by decide, by decide⟩  (q_an (fun H locs hP hS => ?_))
        generalize eS3 : tkS Sa (S o 5 ((S o 4 w) * 24 + q)) = S3 at hP
        have rS3 : ∀ (a1 b1 : Nat) (i1 : Int), rng (S3 a1 b1 i1) := fun a1 b1 i1 => hP.rg a1 b1 i1
        have qS3 : ∀ (a1 b1 : Nat) (i1 : Int), S3 a1 b1 i1 = tkS Sa (S o 5 ((S o 4 w) * 24 + q)) a1 b1 i1 := fun a1 b1 i1 => by rw [← eS3]
        have aS3_o : S3 o 0 (-1) = 1 := by rw [qS3, tkS_o (by omega)]; exact aSa_o
        have aS3_2 : S3 2 0 (-1) = 1 := by rw [qS3, tkS_o (by omega)]; exact aSa_2
        refine q_callN hx hb hml hl.1 hown hK hZ hP hS (c_X3_setAt l g base ad S3 o 6 5 240 ((S o 4 w) * 24 + q) (gvC Sa (S o 5 ((S o 4 w) * 24 + q))) aS3_o hkd rfl (by omega) (by omega) ⟨by omega, by omega⟩ (gvC_r (by omega) (by omega))) t_108 t_15 t_110 t_109 f_yX3_setAt ⟨by decide, by decide⟩ rfl rfl (Nat.le_of_ble_eq_true rfl) dX2_weaveRow_53 ⟨by decide, by decide⟩ (q_an (fun H locs hP hS => ?_))
        rw [sA_in (by omega) (by omega)] at hP
        generalize eS4 : st S3 o 6 ((S o 4 w) * 24 + q) (gvC Sa (S o 5 ((S o 4 w) * 24 + q))) = S4 at hP
        have qS4 : ∀ (a1 b1 : Nat) (i1 : Int), S4 a1 b1 i1 = if a1 = o ∧ b1 = 6 ∧ i1 = (S o 4 w) * 24 + q then gvC Sa (S o 5 ((S o 4 w) * 24 + q)) else S3 a1 b1 i1 := fun a1 b1 i1 => by rw [← eS4]; exact st_at _ _ _ _ _ _ _ _
        have rS4 : ∀ (a1 b1 : Nat) (i1 : Int), rng (S4 a1 b1 i1) := fun a1 b1 i1 => hP.rg a1 b1 i1
        have aS4_o : S4 o 0 (-1) = 1 := by rw [qS4, if_neg (by omega)]; exact aS3_o
        have aS4_2 : S4 2 0 (-1) = 1 := by rw [qS4, if_neg (by omega)]; exact aS3_2
        refine lv_aload_n hx hb dX2_weaveRow_56 rfl (lv_at hl 3 rfl) ?_
        refine p_get (k := 5) hx hb hown hK hP aS4_o hkd rfl rfl (lay_X2 hK) 6 466 (by decide) t_466 rfl rfl dX2_weaveRow_57 ?_
        refine lv_iload_n hx hb dX2_weaveRow_60 rfl (lv_at hl 2 rfl) ?_
        refine lv_iload hx hb dX2_weaveRow_61 (lv_at hl 0 rfl) ?_
        refine q_callS hx hb hml hl.1 hown hK hZ hP hS (c_X2_placeOf l g base ad S4 (S o 4 w) q ) t_103 (q_callB hK 102 24 104 t_102 t_24 t_104 f_yX2_placeOf ⟨by decide, by decide⟩) rfl rfl (Nat.le_of_ble_eq_true rfl) dX2_weaveRow_63 ⟨by decide, by decide⟩  (q_an (fun H locs hP hS => ?_))
        refine lv_bipush (v := i32 (100)) hx hb dX2_weaveRow_66 (by decide) ?_
        refine q_callN hx hb hml hl.1 hown hK hZ hP hS (c_X3_setAt l g base ad S4 o 7 5 240 ((S o 4 w) * 24 + q) 100 aS4_o hkd rfl (by omega) (by omega) ⟨by omega, by omega⟩ ⟨by decide, by decide⟩) t_108 t_15 t_110 t_109 f_yX3_setAt ⟨by decide, by decide⟩ rfl rfl (Nat.le_of_ble_eq_true rfl) dX2_weaveRow_68 ⟨by decide, by decide⟩ (q_an (fun H locs hP hS => ?_))
        rw [sA_in (by omega) (by omega)] at hP
        generalize eS5 : st S4 o 7 ((S o 4 w) * 24 + q) 100 = S5 at hP
        have qS5 : ∀ (a1 b1 : Nat) (i1 : Int), S5 a1 b1 i1 = if a1 = o ∧ b1 = 7 ∧ i1 = (S o 4 w) * 24 + q then 100 else S4 a1 b1 i1 := fun a1 b1 i1 => by rw [← eS5]; exact st_at _ _ _ _ _ _ _ _
        have rS5 : ∀ (a1 b1 : Nat) (i1 : Int), rng (S5 a1 b1 i1) := fun a1 b1 i1 => hP.rg a1 b1 i1
        have aS5_o : S5 o 0 (-1) = 1 := by rw [qS5, if_neg (by omega)]; exact aS4_o
        have aS5_2 : S5 2 0 (-1) = 1 := by rw [qS5, if_neg (by omega)]; exact aS4_2
        refine lv_iinc (v := i32 (q + 1)) (lv' := [(5, .int (i32 (q + 1))), (4, .int (i32 (fcC S o (w + 1)))), (3, .int (i32 (S o 4 w))), (0, .ref (ad o 0)), (1, .int (i32 (w))), (2, .ref (ad 2 0))]) hx hb dX2_weaveRow_71 hl (k := 0) rfl (i32_add _ _) (by decide) rfl (fun ls hl => ?_)
        refine lv_goto (tgt := 25) hx hb dX2_weaveRow_74 (by decide) ?_
        exact ih25 (q + 1) S5 _ _ _ (by omega) (by exact wr_s zq.1 zS (by rw [← eS5, ← eS4, ← eS3])) (by omega) hP hS (lv_sub hl [0, 1, 2, 3, 4, 5] rfl)
  exact L25 ((fcC S o (w + 1) - (fcC S o w)) + 1).toNat (fcC S o w) S _ _ _ (by omega) (by exact wr_0 S o _ _) (by omega) hP hS (lv_sub hl [0, 1, 2, 3, 4, 5] rfl)

set_option maxHeartbeats 4000000 in
set_option maxRecDepth 100000 in
theorem c_X2_countWoven (l : Launch) (g : GT) (base : Nat) (ad : Nat → Nat → Nat) (S : St) (o : Nat)  (hal : S o 0 (-1) = 1) (hkd : kd o = 5) (hwd : 0 ≤ S o 0 0 ∧ S o 0 0 ≤ 24) (hht : 0 ≤ S o 0 1 ∧ S o 0 1 ≤ 10) : Met l yX2_countWoven [Cond.code yX2_countWoven cX2_countWoven 4 (some FieldType.int)] ({ frames := 2, cells := 0, slots := 0, locals := 43 }) (va_Pc [.ref (ad o 0)] (PK g base ad S)) (gQ g base (an (some (.int (i32 (wnC S o)))) ad S)) 0 0 (fun q => base ≤ q) := by
  refine mk_m (own := RX2) (lv0 := [(0, .ref (ad o 0))]) (by decide) rfl (Nat.le_of_ble_eq_true rfl) rfl ?_
  intro p e s m below meth cz av Qm hx hb hr hml hown hlocks hK hZ hP hQm ls hl
  have hS : va_S (fun q => base ≤ q) s.heap s.heap [] := va_S.rf
  have rS : ∀ (a1 b1 : Nat) (i1 : Int), rng (S a1 b1 i1) := fun a1 b1 i1 => hP.rg a1 b1 i1
  refine lv_iconst (v := i32 (0)) hx hb dX2_countWoven_0 rfl ?_
  refine lv_istore_n (lv' := [(1, .int (i32 (0))), (0, .ref (ad o 0))]) hx hb dX2_countWoven_1 rfl hl (by decide) rfl (fun ls hl => ?_)
  refine lv_iconst (v := i32 (0)) hx hb dX2_countWoven_2 rfl ?_
  refine lv_istore_n (lv' := [(2, .int (i32 (0))), (1, .int (i32 (0))), (0, .ref (ad o 0))]) hx hb dX2_countWoven_3 rfl hl (by decide) rfl (fun ls hl => ?_)
  have L4 : ∀ (k : Nat) (t r : Int) (H : Heap) (locs : List Loc) (ls : Array Slot), (0 ≤ r ∧ r ≤ S o 0 1) → (t = sm (fun r => sm (fun c => (fun r c => b2 (S o 6 (r * 24 + c) ≠ -1)) r c) (S o 0 0).toNat) r.toNat) → S o 0 1 - r < (k : Int) → pic g base ad S H → va_S (fun q => base ≤ q) s.heap H locs → lv_has ls 4 [(2, .int (i32 (r))), (1, .int (i32 (t))), (0, .ref (ad o 0))] → W p l e ({ frames := 2, cells := 0, slots := 0, locals := 43 } : Room) s m av below meth cz H locs 0 0 Qm (F0 m 4 ls []) := by
    intro k
    induction k with
    | zero => intro t r H locs ls zr zt hmu _ _ _; exact absurd hmu (by omega)
    | succ k ih4 =>
      intro t r H locs ls zr zt hmu hP hS hl
      refine lv_iload_n hx hb dX2_countWoven_4 rfl (lv_at hl 0 rfl) ?_
      refine lv_aload_n hx hb dX2_countWoven_5 rfl (lv_at hl 2 rfl) ?_
      refine p_get (k := 5) hx hb hown hK hP hal hkd rfl rfl (lay_X2 hK) 1 461 (by decide) t_461 rfl rfl dX2_countWoven_6 ?_
      refine q_icmp_ge (tgt := 47) hx hb ⟨by omega, by omega⟩ (hP.rg _ _ _) dX2_countWoven_9 (by decide) (fun c_1 => ?_) (fun c_1 => ?_)
      · -- (S o 0 1) ≤ r
        refine lv_iload_n hx hb dX2_countWoven_47 rfl (lv_at hl 1 rfl) ?_
        refine q_nm (show (t : Int) = wnC S o from by rw [zt, show r = S o 0 1 from by omega]; rfl) ?_
        subst hQm
        exact q_iret hx hb hr hlocks hP hS ⟨rfl, rfl, rfl⟩ (by decide) (by decide) dX2_countWoven_48
      · -- r < (S o 0 1)
        refine lv_iconst (v := i32 (0)) hx hb dX2_countWoven_12 rfl ?_
        refine lv_istore_n (lv' := [(3, .int (i32 (0))), (2, .int (i32 (r))), (1, .int (i32 (t))), (0, .ref (ad o 0))]) hx hb dX2_countWoven_13 rfl hl (by decide) rfl (fun ls hl => ?_)
        have L14 : ∀ (k : Nat) (t1 c : Int) (H : Heap) (locs : List Loc) (ls : Array Slot), (0 ≤ c ∧ c ≤ S o 0 0) → (t1 = t + sm (fun c => (fun r c => b2 (S o 6 (r * 24 + c) ≠ -1)) r c) c.toNat) → S o 0 0 - c < (k : Int) → pic g base ad S H → va_S (fun q => base ≤ q) s.heap H locs → lv_has ls 4 [(3, .int (i32 (c))), (2, .int (i32 (r))), (1, .int (i32 (t1))), (0, .ref (ad o 0))] → W p l e ({ frames := 2, cells := 0, slots := 0, locals := 43 } : Room) s m av below meth cz H locs 0 0 Qm (F0 m 14 ls []) := by
          intro k
          induction k with
          | zero => intro t1 c H locs ls zc zu hmu _ _ _; exact absurd hmu (by omega)
          | succ k ih14 =>
            intro t1 c H locs ls zc zu hmu hP hS hl
            refine lv_iload_n hx hb dX2_countWoven_14 rfl (lv_at hl 0 rfl) ?_
            refine lv_aload_n hx hb dX2_countWoven_15 rfl (lv_at hl 3 rfl) ?_
            refine p_get (k := 5) hx hb hown hK hP hal hkd rfl rfl (lay_X2 hK) 0 460 (by decide) t_460 rfl rfl dX2_countWoven_16 ?_
            refine q_icmp_ge (tgt := 41) hx hb ⟨by omega, by omega⟩ (hP.rg _ _ _) dX2_countWoven_19 (by decide) (fun c_2 => ?_) (fun c_2 => ?_)
            · -- (S o 0 0) ≤ c
              refine lv_iinc (v := i32 (r + 1)) (lv' := [(2, .int (i32 (r + 1))), (3, .int (i32 (c))), (1, .int (i32 (t1))), (0, .ref (ad o 0))]) hx hb dX2_countWoven_41 hl (k := 1) rfl (i32_add _ _) (by decide) rfl (fun ls hl => ?_)
              refine lv_goto (tgt := 4) hx hb dX2_countWoven_44 (by decide) ?_
              exact ih4 t1 (r + 1) _ _ _ (by omega) (by exact s2r zr.1 zt zu (by omega)) (by omega) hP hS (lv_sub hl [0, 2, 3] rfl)
            · -- c < (S o 0 0)
              refine lv_aload_n hx hb dX2_countWoven_22 rfl (lv_at hl 3 rfl) ?_
              refine lv_iload_n hx hb dX2_countWoven_23 rfl (lv_at hl 1 rfl) ?_
              refine lv_iload_n hx hb dX2_countWoven_24 rfl (lv_at hl 0 rfl) ?_
              refine q_callV (k := 5) hx hb hml hl.1 hown hK hZ hP hS hal hkd rfl rfl (c_X2_lotAt l g base ad S o r c hal hkd (by omega) (by omega)) t_99 t_100 (q_callB hK 98 24 101 t_98 t_24 t_101 f_yX2_lotAt ⟨by decide, by decide⟩) rfl rfl (Nat.le_of_ble_eq_true rfl) dX2_countWoven_25 ⟨by decide, by decide⟩  (q_an (fun H locs hP hS => ?_))
              refine lv_iconst (v := i32 (-1)) hx hb dX2_countWoven_28 rfl ?_
              refine q_icmp_eq (tgt := 35) hx hb (hP.rg _ _ _) ⟨by decide, by decide⟩ dX2_countWoven_29 (by decide) (fun c_3 => ?_) (fun c_3 => ?_)
              · -- (S o 6 (r * 24 + c)) = (-1)
                refine lv_iinc (v := i32 (c + 1)) (lv' := [(3, .int (i32 (c + 1))), (2, .int (i32 (r))), (1, .int (i32 (t1))), (0, .ref (ad o 0))]) hx hb dX2_countWoven_35 hl (k := 0) rfl (i32_add _ _) (by decide) rfl (fun ls hl => ?_)
                refine lv_goto (tgt := 14) hx hb dX2_countWoven_38 (by decide) ?_
                exact ih14 t1 (c + 1) _ _ _ (by omega) (by exact s2z zc.1 zu (b2_f (fun h => h c_3))) (by omega) hP hS (lv_sub hl [0, 1, 2, 3] rfl)
              · -- (S o 6 (r * 24 + c)) ≠ (-1)
                refine lv_iinc (v := i32 (t1 + 1)) (lv' := [(1, .int (i32 (t1 + 1))), (3, .int (i32 (c))), (2, .int (i32 (r))), (0, .ref (ad o 0))]) hx hb dX2_countWoven_32 hl (k := 2) rfl (i32_add _ _) (by decide) rfl (fun ls hl => ?_)
                refine lv_iinc (v := i32 (c + 1)) (lv' := [(3, .int (i32 (c + 1))), (1, .int (i32 (t1 + 1))), (2, .int (i32 (r))), (0, .ref (ad o 0))]) hx hb dX2_countWoven_35 hl (k := 1) rfl (i32_add _ _) (by decide) rfl (fun ls hl => ?_)
                refine lv_goto (tgt := 14) hx hb dX2_countWoven_38 (by decide) ?_
                exact ih14 (t1 + 1) (c + 1) _ _ _ (by omega) (by exact s2e zc.1 zu 1 (b2_t c_3)) (by omega) hP hS (lv_sub hl [0, 2, 1, 3] rfl)
        exact L14 ((S o 0 0 - 0) + 1).toNat t 0 _ _ _ (by omega) (by show t = t + 0; omega) (by omega) hP hS (lv_sub hl [0, 1, 2, 3] rfl)
  exact L4 ((S o 0 1 - 0) + 1).toNat 0 0 _ _ _ (by omega) (by rfl) (by omega) hP hS (lv_sub hl [0, 1, 2] rfl)

set_option maxHeartbeats 4000000 in
set_option maxRecDepth 100000 in
theorem c_X2_countWovenOf (l : Launch) (g : GT) (base : Nat) (ad : Nat → Nat → Nat) (S : St) (o : Nat) (w : Int) (hal : S o 0 (-1) = 1) (hkd : kd o = 5) (hwd : 0 ≤ S o 0 0 ∧ S o 0 0 ≤ 24) (hht : 0 ≤ S o 0 1 ∧ S o 0 1 ≤ 10) (hrn : rng w) : Met l yX2_countWovenOf [Cond.code yX2_countWovenOf cX2_countWovenOf 5 (some FieldType.int)] ({ frames := 2, cells := 0, slots := 0, locals := 43 }) (va_Pc [.ref (ad o 0), .int (i32 (w))] (PK g base ad S)) (gQ g base (an (some (.int (i32 (woC S o w)))) ad S)) 0 0 (fun q => base ≤ q) := by
  refine mk_m (own := RX2) (lv0 := [(0, .ref (ad o 0)), (1, .int (i32 (w)))]) (by decide) rfl (Nat.le_of_ble_eq_true rfl) rfl ?_
  intro p e s m below meth cz av Qm hx hb hr hml hown hlocks hK hZ hP hQm ls hl
  have hS : va_S (fun q => base ≤ q) s.heap s.heap [] := va_S.rf
  have rS : ∀ (a1 b1 : Nat) (i1 : Int), rng (S a1 b1 i1) := fun a1 b1 i1 => hP.rg a1 b1 i1
  refine lv_iconst (v := i32 (0)) hx hb dX2_countWovenOf_0 rfl ?_
  refine lv_istore_n (lv' := [(2, .int (i32 (0))), (0, .ref (ad o 0)), (1, .int (i32 (w)))]) hx hb dX2_countWovenOf_1 rfl hl (by decide) rfl (fun ls hl => ?_)
  refine lv_iconst (v := i32 (0)) hx hb dX2_countWovenOf_2 rfl ?_
  refine lv_istore_n (lv' := [(3, .int (i32 (0))), (2, .int (i32 (0))), (0, .ref (ad o 0)), (1, .int (i32 (w)))]) hx hb dX2_countWovenOf_3 rfl hl (by decide) rfl (fun ls hl => ?_)
  have L4 : ∀ (k : Nat) (t r : Int) (H : Heap) (locs : List Loc) (ls : Array Slot), (0 ≤ r ∧ r ≤ S o 0 1) → (t = sm (fun r => sm (fun c => (fun r c => b2 (S o 6 (r * 24 + c) ≠ -1 ∧ S o 5 (r * 24 + c) = w)) r c) (S o 0 0).toNat) r.toNat) → S o 0 1 - r < (k : Int) → pic g base ad S H → va_S (fun q => base ≤ q) s.heap H locs → lv_has ls 5 [(3, .int (i32 (r))), (2, .int (i32 (t))), (0, .ref (ad o 0)), (1, .int (i32 (w)))] → W p l e ({ frames := 2, cells := 0, slots := 0, locals := 43 } : Room) s m av below meth cz H locs 0 0 Qm (F0 m 4 ls []) := by
    intro k
    induction k with
    | zero => intro t r H locs ls zr zt hmu _ _ _; exact absurd hmu (by omega)
    | succ k ih4 =>
      intro t r H locs ls zr zt hmu hP hS hl
      refine lv_iload_n hx hb dX2_countWovenOf_4 rfl (lv_at hl 0 rfl) ?_
      refine lv_aload_n hx hb dX2_countWovenOf_5 rfl (lv_at hl 2 rfl) ?_
      refine p_get (k := 5) hx hb hown hK hP hal hkd rfl rfl (lay_X2 hK) 1 461 (by decide) t_461 rfl rfl dX2_countWovenOf_6 ?_
      refine q_icmp_ge (tgt := 61) hx hb ⟨by omega, by omega⟩ (hP.rg _ _ _) dX2_countWovenOf_9 (by decide) (fun c_1 => ?_) (fun c_1 => ?_)
      · -- (S o 0 1) ≤ r
        refine lv_iload_n hx hb dX2_countWovenOf_61 rfl (lv_at hl 1 rfl) ?_
        refine q_nm (show (t : Int) = woC S o w from by rw [zt, show r = S o 0 1 from by omega]; rfl) ?_
        subst hQm
        exact q_iret hx hb hr hlocks hP hS ⟨rfl, rfl, rfl⟩ (by decide) (by decide) dX2_countWovenOf_62
      · -- r < (S o 0 1)
        refine lv_iconst (v := i32 (0)) hx hb dX2_countWovenOf_12 rfl ?_
        refine lv_istore (lv' := [(4, .int (i32 (0))), (3, .int (i32 (r))), (2, .int (i32 (t))), (0, .ref (ad o 0)), (1, .int (i32 (w)))]) hx hb dX2_countWovenOf_13 hl (by decide) rfl (fun ls hl => ?_)
        have L15 : ∀ (k : Nat) (t1 c : Int) (H : Heap) (locs : List Loc) (ls : Array Slot), (0 ≤ c ∧ c ≤ S o 0 0) → (t1 = t + sm (fun c => (fun r c => b2 (S o 6 (r * 24 + c) ≠ -1 ∧ S o 5 (r * 24 + c) = w)) r c) c.toNat) → S o 0 0 - c < (k : Int) → pic g base ad S H → va_S (fun q => base ≤ q) s.heap H locs → lv_has ls 5 [(4, .int (i32 (c))), (3, .int (i32 (r))), (2, .int (i32 (t1))), (0, .ref (ad o 0)), (1, .int (i32 (w)))] → W p l e ({ frames := 2, cells := 0, slots := 0, locals := 43 } : Room) s m av below meth cz H locs 0 0 Qm (F0 m 15 ls []) := by
          intro k
          induction k with
          | zero => intro t1 c H locs ls zc zu hmu _ _ _; exact absurd hmu (by omega)
          | succ k ih15 =>
            intro t1 c H locs ls zc zu hmu hP hS hl
            refine lv_iload hx hb dX2_countWovenOf_15 (lv_at hl 0 rfl) ?_
            refine lv_aload_n hx hb dX2_countWovenOf_17 rfl (lv_at hl 3 rfl) ?_
            refine p_get (k := 5) hx hb hown hK hP hal hkd rfl rfl (lay_X2 hK) 0 460 (by decide) t_460 rfl rfl dX2_countWovenOf_18 ?_
            refine q_icmp_ge (tgt := 55) hx hb ⟨by omega, by omega⟩ (hP.rg _ _ _) dX2_countWovenOf_21 (by decide) (fun c_2 => ?_) (fun c_2 => ?_)
            · -- (S o 0 0) ≤ c
              refine lv_iinc (v := i32 (r + 1)) (lv' := [(3, .int (i32 (r + 1))), (4, .int (i32 (c))), (2, .int (i32 (t1))), (0, .ref (ad o 0)), (1, .int (i32 (w)))]) hx hb dX2_countWovenOf_55 hl (k := 1) rfl (i32_add _ _) (by decide) rfl (fun ls hl => ?_)
              refine lv_goto (tgt := 4) hx hb dX2_countWovenOf_58 (by decide) ?_
              exact ih4 t1 (r + 1) _ _ _ (by omega) (by exact s2r zr.1 zt zu (by omega)) (by omega) hP hS (lv_sub hl [0, 2, 3, 4] rfl)
            · -- c < (S o 0 0)
              refine lv_aload_n hx hb dX2_countWovenOf_24 rfl (lv_at hl 3 rfl) ?_
              refine lv_iload_n hx hb dX2_countWovenOf_25 rfl (lv_at hl 1 rfl) ?_
              refine lv_iload hx hb dX2_countWovenOf_26 (lv_at hl 0 rfl) ?_
              refine q_callV (k := 5) hx hb hml hl.1 hown hK hZ hP hS hal hkd rfl rfl (c_X2_lotAt l g base ad S o r c hal hkd (by omega) (by omega)) t_99 t_100 (q_callB hK 98 24 101 t_98 t_24 t_101 f_yX2_lotAt ⟨by decide, by decide⟩) rfl rfl (Nat.le_of_ble_eq_true rfl) dX2_countWovenOf_28 ⟨by decide, by decide⟩  (q_an (fun H locs hP hS => ?_))
              refine lv_iconst (v := i32 (-1)) hx hb dX2_countWovenOf_31 rfl ?_
              refine q_icmp_eq (tgt := 49) hx hb (hP.rg _ _ _) ⟨by decide, by decide⟩ dX2_countWovenOf_32 (by decide) (fun c_3 => ?_) (fun c_3 => ?_)
              · -- (S o 6 (r * 24 + c)) = (-1)
                refine lv_iinc (v := i32 (c + 1)) (lv' := [(4, .int (i32 (c + 1))), (3, .int (i32 (r))), (2, .int (i32 (t1))), (0, .ref (ad o 0)), (1, .int (i32 (w)))]) hx hb dX2_countWovenOf_49 hl (k := 0) rfl (i32_add _ _) (by decide) rfl (fun ls hl => ?_)
                refine lv_goto (tgt := 15) hx hb dX2_countWovenOf_52 (by decide) ?_
                exact ih15 t1 (c + 1) _ _ _ (by omega) (by exact s2z zc.1 zu (b2_f (fun h => h.1 c_3))) (by omega) hP hS (lv_sub hl [0, 1, 2, 3, 4] rfl)
              · -- (S o 6 (r * 24 + c)) ≠ (-1)
                refine lv_aload_n hx hb dX2_countWovenOf_35 rfl (lv_at hl 3 rfl) ?_
                refine lv_iload_n hx hb dX2_countWovenOf_36 rfl (lv_at hl 1 rfl) ?_
                refine lv_iload hx hb dX2_countWovenOf_37 (lv_at hl 0 rfl) ?_
                refine q_callV (k := 5) hx hb hml hl.1 hown hK hZ hP hS hal hkd rfl rfl (c_X2_colourAt l g base ad S o r c hal hkd (by omega) (by omega)) t_313 t_314 (q_callB hK 312 24 315 t_312 t_24 t_315 f_yX2_colourAt ⟨by decide, by decide⟩) rfl rfl (Nat.le_of_ble_eq_true rfl) dX2_countWovenOf_39 ⟨by decide, by decide⟩  (q_an (fun H locs hP hS => ?_))
                refine lv_iload_n hx hb dX2_countWovenOf_42 rfl (lv_at hl 4 rfl) ?_
                refine q_icmp_ne (tgt := 49) hx hb (hP.rg _ _ _) hrn dX2_countWovenOf_43 (by decide) (fun c_4 => ?_) (fun c_4 => ?_)
                · -- (S o 5 (r * 24 + c)) ≠ w
                  refine lv_iinc (v := i32 (c + 1)) (lv' := [(4, .int (i32 (c + 1))), (3, .int (i32 (r))), (2, .int (i32 (t1))), (0, .ref (ad o 0)), (1, .int (i32 (w)))]) hx hb dX2_countWovenOf_49 hl (k := 0) rfl (i32_add _ _) (by decide) rfl (fun ls hl => ?_)
                  refine lv_goto (tgt := 15) hx hb dX2_countWovenOf_52 (by decide) ?_
                  exact ih15 t1 (c + 1) _ _ _ (by omega) (by exact s2z zc.1 zu (b2_f (fun h => c_4 h.2))) (by omega) hP hS (lv_sub hl [0, 1, 2, 3, 4] rfl)
                · -- (S o 5 (r * 24 + c)) = w
                  refine lv_iinc (v := i32 (t1 + 1)) (lv' := [(2, .int (i32 (t1 + 1))), (4, .int (i32 (c))), (3, .int (i32 (r))), (0, .ref (ad o 0)), (1, .int (i32 (w)))]) hx hb dX2_countWovenOf_46 hl (k := 2) rfl (i32_add _ _) (by decide) rfl (fun ls hl => ?_)
                  refine lv_iinc (v := i32 (c + 1)) (lv' := [(4, .int (i32 (c + 1))), (2, .int (i32 (t1 + 1))), (3, .int (i32 (r))), (0, .ref (ad o 0)), (1, .int (i32 (w)))]) hx hb dX2_countWovenOf_49 hl (k := 1) rfl (i32_add _ _) (by decide) rfl (fun ls hl => ?_)
                  refine lv_goto (tgt := 15) hx hb dX2_countWovenOf_52 (by decide) ?_
                  exact ih15 (t1 + 1) (c + 1) _ _ _ (by omega) (by exact s2e zc.1 zu 1 (b2_t ⟨c_3, c_4⟩)) (by omega) hP hS (lv_sub hl [0, 2, 1, 3, 4] rfl)
        exact L15 ((S o 0 0 - 0) + 1).toNat t 0 _ _ _ (by omega) (by show t = t + 0; omega) (by omega) hP hS (lv_sub hl [0, 1, 2, 3, 4] rfl)
  exact L4 ((S o 0 1 - 0) + 1).toNat 0 0 _ _ _ (by omega) (by rfl) (by omega) hP hS (lv_sub hl [0, 1, 2, 3] rfl)

set_option maxHeartbeats 4000000 in
set_option maxRecDepth 100000 in
theorem c_X2_sumOfShades (l : Launch) (g : GT) (base : Nat) (ad : Nat → Nat → Nat) (S : St) (o : Nat)  (hal : S o 0 (-1) = 1) (hkd : kd o = 5) (hwd : 0 ≤ S o 0 0 ∧ S o 0 0 ≤ 24) (hht : 0 ≤ S o 0 1 ∧ S o 0 1 ≤ 10) : Met l yX2_sumOfShades [Cond.code yX2_sumOfShades cX2_sumOfShades 4 (some FieldType.int)] ({ frames := 2, cells := 0, slots := 0, locals := 43 }) (va_Pc [.ref (ad o 0)] (PK g base ad S)) (gQ g base (an (some (.int (i32 (shC S o)))) ad S)) 0 0 (fun q => base ≤ q) := by
  refine mk_m (own := RX2) (lv0 := [(0, .ref (ad o 0))]) (by decide) rfl (Nat.le_of_ble_eq_true rfl) rfl ?_
  intro p e s m below meth cz av Qm hx hb hr hml hown hlocks hK hZ hP hQm ls hl
  have hS : va_S (fun q => base ≤ q) s.heap s.heap [] := va_S.rf
  have rS : ∀ (a1 b1 : Nat) (i1 : Int), rng (S a1 b1 i1) := fun a1 b1 i1 => hP.rg a1 b1 i1
  refine lv_iconst (v := i32 (0)) hx hb dX2_sumOfShades_0 rfl ?_
  refine lv_istore_n (lv' := [(1, .int (i32 (0))), (0, .ref (ad o 0))]) hx hb dX2_sumOfShades_1 rfl hl (by decide) rfl (fun ls hl => ?_)
  refine lv_iconst (v := i32 (0)) hx hb dX2_sumOfShades_2 rfl ?_
  refine lv_istore_n (lv' := [(2, .int (i32 (0))), (1, .int (i32 (0))), (0, .ref (ad o 0))]) hx hb dX2_sumOfShades_3 rfl hl (by decide) rfl (fun ls hl => ?_)
  have L4 : ∀ (k : Nat) (t r : Int) (H : Heap) (locs : List Loc) (ls : Array Slot), (0 ≤ r ∧ r ≤ S o 0 1) → (t = sm (fun r => sm (fun c => (fun r c => S o 7 (r * 24 + c)) r c) (S o 0 0).toNat) r.toNat) → S o 0 1 - r < (k : Int) → pic g base ad S H → va_S (fun q => base ≤ q) s.heap H locs → lv_has ls 4 [(2, .int (i32 (r))), (1, .int (i32 (t))), (0, .ref (ad o 0))] → W p l e ({ frames := 2, cells := 0, slots := 0, locals := 43 } : Room) s m av below meth cz H locs 0 0 Qm (F0 m 4 ls []) := by
    intro k
    induction k with
    | zero => intro t r H locs ls zr zt hmu _ _ _; exact absurd hmu (by omega)
    | succ k ih4 =>
      intro t r H locs ls zr zt hmu hP hS hl
      refine lv_iload_n hx hb dX2_sumOfShades_4 rfl (lv_at hl 0 rfl) ?_
      refine lv_aload_n hx hb dX2_sumOfShades_5 rfl (lv_at hl 2 rfl) ?_
      refine p_get (k := 5) hx hb hown hK hP hal hkd rfl rfl (lay_X2 hK) 1 461 (by decide) t_461 rfl rfl dX2_sumOfShades_6 ?_
      refine q_icmp_ge (tgt := 43) hx hb ⟨by omega, by omega⟩ (hP.rg _ _ _) dX2_sumOfShades_9 (by decide) (fun c_1 => ?_) (fun c_1 => ?_)
      · -- (S o 0 1) ≤ r
        refine lv_iload_n hx hb dX2_sumOfShades_43 rfl (lv_at hl 1 rfl) ?_
        refine q_nm (show (t : Int) = shC S o from by rw [zt, show r = S o 0 1 from by omega]; rfl) ?_
        subst hQm
        exact q_iret hx hb hr hlocks hP hS ⟨rfl, rfl, rfl⟩ (by decide) (by decide) dX2_sumOfShades_44
      · -- r < (S o 0 1)
        refine lv_iconst (v := i32 (0)) hx hb dX2_sumOfShades_12 rfl ?_
        refine lv_istore_n (lv' := [(3, .int (i32 (0))), (2, .int (i32 (r))), (1, .int (i32 (t))), (0, .ref (ad o 0))]) hx hb dX2_sumOfShades_13 rfl hl (by decide) rfl (fun ls hl => ?_)
        have L14 : ∀ (k : Nat) (t1 c : Int) (H : Heap) (locs : List Loc) (ls : Array Slot), (0 ≤ c ∧ c ≤ S o 0 0) → (t1 = t + sm (fun c => (fun r c => S o 7 (r * 24 + c)) r c) c.toNat) → S o 0 0 - c < (k : Int) → pic g base ad S H → va_S (fun q => base ≤ q) s.heap H locs → lv_has ls 4 [(3, .int (i32 (c))), (2, .int (i32 (r))), (1, .int (i32 (t1))), (0, .ref (ad o 0))] → W p l e ({ frames := 2, cells := 0, slots := 0, locals := 43 } : Room) s m av below meth cz H locs 0 0 Qm (F0 m 14 ls []) := by
          intro k
          induction k with
          | zero => intro t1 c H locs ls zc zu hmu _ _ _; exact absurd hmu (by omega)
          | succ k ih14 =>
            intro t1 c H locs ls zc zu hmu hP hS hl
            refine lv_iload_n hx hb dX2_sumOfShades_14 rfl (lv_at hl 0 rfl) ?_
            refine lv_aload_n hx hb dX2_sumOfShades_15 rfl (lv_at hl 3 rfl) ?_
            refine p_get (k := 5) hx hb hown hK hP hal hkd rfl rfl (lay_X2 hK) 0 460 (by decide) t_460 rfl rfl dX2_sumOfShades_16 ?_
            refine q_icmp_ge (tgt := 37) hx hb ⟨by omega, by omega⟩ (hP.rg _ _ _) dX2_sumOfShades_19 (by decide) (fun c_2 => ?_) (fun c_2 => ?_)
            · -- (S o 0 0) ≤ c
              refine lv_iinc (v := i32 (r + 1)) (lv' := [(2, .int (i32 (r + 1))), (3, .int (i32 (c))), (1, .int (i32 (t1))), (0, .ref (ad o 0))]) hx hb dX2_sumOfShades_37 hl (k := 1) rfl (i32_add _ _) (by decide) rfl (fun ls hl => ?_)
              refine lv_goto (tgt := 4) hx hb dX2_sumOfShades_40 (by decide) ?_
              exact ih4 t1 (r + 1) _ _ _ (by omega) (by exact s2r zr.1 zt zu (by omega)) (by omega) hP hS (lv_sub hl [0, 2, 3] rfl)
            · -- c < (S o 0 0)
              refine lv_iload_n hx hb dX2_sumOfShades_22 rfl (lv_at hl 2 rfl) ?_
              refine lv_aload_n hx hb dX2_sumOfShades_23 rfl (lv_at hl 3 rfl) ?_
              refine lv_iload_n hx hb dX2_sumOfShades_24 rfl (lv_at hl 1 rfl) ?_
              refine lv_iload_n hx hb dX2_sumOfShades_25 rfl (lv_at hl 0 rfl) ?_
              refine q_callV (k := 5) hx hb hml hl.1 hown hK hZ hP hS hal hkd rfl rfl (c_X2_shadeAt l g base ad S o r c hal hkd (by omega) (by omega)) t_324 t_325 (q_callB hK 323 24 326 t_323 t_24 t_326 f_yX2_shadeAt ⟨by decide, by decide⟩) rfl rfl (Nat.le_of_ble_eq_true rfl) dX2_sumOfShades_26 ⟨by decide, by decide⟩  (q_an (fun H locs hP hS => ?_))
              refine q_iadd hx hb dX2_sumOfShades_29 ?_
              refine lv_istore_n (lv' := [(1, .int (i32 (t1 + (S o 7 (r * 24 + c))))), (3, .int (i32 (c))), (2, .int (i32 (r))), (0, .ref (ad o 0))]) hx hb dX2_sumOfShades_30 rfl hl (by decide) rfl (fun ls hl => ?_)
              refine lv_iinc (v := i32 (c + 1)) (lv' := [(3, .int (i32 (c + 1))), (1, .int (i32 (t1 + (S o 7 (r * 24 + c))))), (2, .int (i32 (r))), (0, .ref (ad o 0))]) hx hb dX2_sumOfShades_31 hl (k := 1) rfl (i32_add _ _) (by decide) rfl (fun ls hl => ?_)
              refine lv_goto (tgt := 14) hx hb dX2_sumOfShades_34 (by decide) ?_
              exact ih14 (t1 + (S o 7 (r * 24 + c))) (c + 1) _ _ _ (by omega) (by exact s2c (F := fun c => S o 7 (r * 24 + c)) zc.1 zu) (by omega) hP hS (lv_sub hl [0, 2, 1, 3] rfl)
        exact L14 ((S o 0 0 - 0) + 1).toNat t 0 _ _ _ (by omega) (by show t = t + 0; omega) (by omega) hP hS (lv_sub hl [0, 1, 2, 3] rfl)
  exact L4 ((S o 0 1 - 0) + 1).toNat 0 0 _ _ _ (by omega) (by rfl) (by omega) hP hS (lv_sub hl [0, 1, 2] rfl)

set_option maxHeartbeats 4000000 in
set_option maxRecDepth 100000 in
theorem c_X2_countLike (l : Launch) (g : GT) (base : Nat) (ad : Nat → Nat → Nat) (S : St) (o : Nat) (x : Nat) (mir : Prop) (hal : S o 0 (-1) = 1) (hkd : kd o = 5) (halx : S x 0 (-1) = 1) (hkd2 : kd x = 4) (hwd : 0 ≤ S o 0 0 ∧ S o 0 0 ≤ 24) (hht : 0 ≤ S o 0 1 ∧ S o 0 1 ≤ 10) (hxw : S x 0 0 = S o 0 0 ∧ S x 0 0 ≤ 12) : Met l yX2_countLike [Cond.code yX2_countLike cX2_countLike 6 (some FieldType.int)] ({ frames := 2, cells := 0, slots := 0, locals := 46 }) (va_Pc [.ref (ad o 0), .ref (ad x 0), .int (i32 (b2 (mir)))] (PK g base ad S)) (gQ g base (an (some (.int (i32 (lkC S o x mir)))) ad S)) 0 0 (fun q => base ≤ q) := by
  refine mk_m (own := RX2) (lv0 := [(0, .ref (ad o 0)), (1, .ref (ad x 0)), (2, .int (i32 (b2 (mir))))]) (by decide) rfl (Nat.le_of_ble_eq_true rfl) rfl ?_
  intro p e s m below meth cz av Qm hx hb hr hml hown hlocks hK hZ hP hQm ls hl
  have hS : va_S (fun q => base ≤ q) s.heap s.heap [] := va_S.rf
  have rS : ∀ (a1 b1 : Nat) (i1 : Int), rng (S a1 b1 i1) := fun a1 b1 i1 => hP.rg a1 b1 i1
  refine lv_iconst (v := i32 (0)) hx hb dX2_countLike_0 rfl ?_
  refine lv_istore_n (lv' := [(3, .int (i32 (0))), (0, .ref (ad o 0)), (1, .ref (ad x 0)), (2, .int (i32 (b2 (mir))))]) hx hb dX2_countLike_1 rfl hl (by decide) rfl (fun ls hl => ?_)
  refine lv_iconst (v := i32 (0)) hx hb dX2_countLike_2 rfl ?_
  refine lv_istore (lv' := [(4, .int (i32 (0))), (3, .int (i32 (0))), (0, .ref (ad o 0)), (1, .ref (ad x 0)), (2, .int (i32 (b2 (mir))))]) hx hb dX2_countLike_3 hl (by decide) rfl (fun ls hl => ?_)
  have L5 : ∀ (k : Nat) (t r : Int) (H : Heap) (locs : List Loc) (ls : Array Slot), (0 ≤ r ∧ r ≤ S o 0 1) → (t = sm (fun r => sm (fun c => (fun r c => b2 (S o 5 (r * 24 + c) = dcF S x r (cif mir (S x 0 0 - 1 - c) c))) r c) (S o 0 0).toNat) r.toNat) → S o 0 1 - r < (k : Int) → pic g base ad S H → va_S (fun q => base ≤ q) s.heap H locs → lv_has ls 6 [(4, .int (i32 (r))), (3, .int (i32 (t))), (0, .ref (ad o 0)), (1, .ref (ad x 0)), (2, .int (i32 (b2 (mir))))] → W p l e ({ frames := 2, cells := 0, slots := 0, locals := 46 } : Room) s m av below meth cz H locs 0 0 Qm (F0 m 5 ls []) := by
    intro k
    induction k with
    | zero => intro t r H locs ls zr zt hmu _ _ _; exact absurd hmu (by omega)
    | succ k ih5 =>
      intro t r H locs ls zr zt hmu hP hS hl
      refine lv_iload hx hb dX2_countLike_5 (lv_at hl 0 rfl) ?_
      refine lv_aload_n hx hb dX2_countLike_7 rfl (lv_at hl 2 rfl) ?_
      refine p_get (k := 5) hx hb hown hK hP hal hkd rfl rfl (lay_X2 hK) 1 461 (by decide) t_461 rfl rfl dX2_countLike_8 ?_
      refine q_icmp_ge (tgt := 61) hx hb ⟨by omega, by omega⟩ (hP.rg _ _ _) dX2_countLike_11 (by decide) (fun c_1 => ?_) (fun c_1 => ?_)
      · -- (S o 0 1) ≤ r
        refine lv_iload_n hx hb dX2_countLike_61 rfl (lv_at hl 1 rfl) ?_
        refine q_nm (show (t : Int) = lkC S o x mir from by rw [zt, show r = S o 0 1 from by omega]; rfl) ?_
        subst hQm
        exact q_iret hx hb hr hlocks hP hS ⟨rfl, rfl, rfl⟩ (by decide) (by decide) dX2_countLike_62
      · -- r < (S o 0 1)
        refine lv_iconst (v := i32 (0)) hx hb dX2_countLike_14 rfl ?_
        refine lv_istore (lv' := [(5, .int (i32 (0))), (4, .int (i32 (r))), (3, .int (i32 (t))), (0, .ref (ad o 0)), (1, .ref (ad x 0)), (2, .int (i32 (b2 (mir))))]) hx hb dX2_countLike_15 hl (by decide) rfl (fun ls hl => ?_)
        have L17 : ∀ (k : Nat) (t1 c : Int) (H : Heap) (locs : List Loc) (ls : Array Slot), (0 ≤ c ∧ c ≤ S o 0 0) → (t1 = t + sm (fun c => (fun r c => b2 (S o 5 (r * 24 + c) = dcF S x r (cif mir (S x 0 0 - 1 - c) c))) r c) c.toNat) → S o 0 0 - c < (k : Int) → pic g base ad S H → va_S (fun q => base ≤ q) s.heap H locs → lv_has ls 6 [(5, .int (i32 (c))), (4, .int (i32 (r))), (3, .int (i32 (t1))), (0, .ref (ad o 0)), (1, .ref (ad x 0)), (2, .int (i32 (b2 (mir))))] → W p l e ({ frames := 2, cells := 0, slots := 0, locals := 46 } : Room) s m av below meth cz H locs 0 0 Qm (F0 m 17 ls []) := by
          intro k
          induction k with
          | zero => intro t1 c H locs ls zc zu hmu _ _ _; exact absurd hmu (by omega)
          | succ k ih17 =>
            intro t1 c H locs ls zc zu hmu hP hS hl
            refine lv_iload hx hb dX2_countLike_17 (lv_at hl 0 rfl) ?_
            refine lv_aload_n hx hb dX2_countLike_19 rfl (lv_at hl 3 rfl) ?_
            refine p_get (k := 5) hx hb hown hK hP hal hkd rfl rfl (lay_X2 hK) 0 460 (by decide) t_460 rfl rfl dX2_countLike_20 ?_
            refine q_icmp_ge (tgt := 55) hx hb ⟨by omega, by omega⟩ (hP.rg _ _ _) dX2_countLike_23 (by decide) (fun c_2 => ?_) (fun c_2 => ?_)
            · -- (S o 0 0) ≤ c
              refine lv_iinc (v := i32 (r + 1)) (lv' := [(4, .int (i32 (r + 1))), (5, .int (i32 (c))), (3, .int (i32 (t1))), (0, .ref (ad o 0)), (1, .ref (ad x 0)), (2, .int (i32 (b2 (mir))))]) hx hb dX2_countLike_55 hl (k := 1) rfl (i32_add _ _) (by decide) rfl (fun ls hl => ?_)
              refine lv_goto (tgt := 5) hx hb dX2_countLike_58 (by decide) ?_
              exact ih5 t1 (r + 1) _ _ _ (by omega) (by exact s2r zr.1 zt zu (by omega)) (by omega) hP hS (lv_sub hl [0, 2, 3, 4, 5] rfl)
            · -- c < (S o 0 0)
              refine lv_aload_n hx hb dX2_countLike_26 rfl (lv_at hl 3 rfl) ?_
              refine lv_iload hx hb dX2_countLike_27 (lv_at hl 1 rfl) ?_
              refine lv_iload hx hb dX2_countLike_29 (lv_at hl 0 rfl) ?_
              refine q_callV (k := 5) hx hb hml hl.1 hown hK hZ hP hS hal hkd rfl rfl (c_X2_colourAt l g base ad S o r c hal hkd (by omega) (by omega)) t_313 t_314 (q_callB hK 312 24 315 t_312 t_24 t_315 f_yX2_colourAt ⟨by decide, by decide⟩) rfl rfl (Nat.le_of_ble_eq_true rfl) dX2_countLike_31 ⟨by decide, by decide⟩  (q_an (fun H locs hP hS => ?_))
              refine lv_aload_n hx hb dX2_countLike_34 rfl (lv_at hl 4 rfl) ?_
              refine lv_iload hx hb dX2_countLike_35 (lv_at hl 1 rfl) ?_
              refine lv_iload hx hb dX2_countLike_37 (lv_at hl 0 rfl) ?_
              refine lv_iload_n hx hb dX2_countLike_39 rfl (lv_at hl 5 rfl) ?_
              refine q_callV (k := 4) hx hb hml hl.1 hown hK hZ hP hS halx hkd2 rfl rfl (c_X0_colourAt l g base ad S x r c mir halx hkd2 (by omega) (by omega) (by omega)) t_497 t_498 (q_callB hK 496 22 499 t_496 t_22 t_499 f_yX0_colourAt ⟨by decide, by decide⟩) rfl rfl (Nat.le_of_ble_eq_true rfl) dX2_countLike_40 ⟨by decide, by decide⟩  (q_an (fun H locs hP hS => ?_))
              refine q_icmp_ne (tgt := 49) hx hb (hP.rg _ _ _) (dcF_r rS _ _ _) dX2_countLike_43 (by decide) (fun c_3 => ?_) (fun c_3 => ?_)
              · -- (S o 5 (r * 24 + c)) ≠ (dcF S x r (cif mir (S x 0 0 - 1 - c) c))
                refine lv_iinc (v := i32 (c + 1)) (lv' := [(5, .int (i32 (c + 1))), (4, .int (i32 (r))), (3, .int (i32 (t1))), (0, .ref (ad o 0)), (1, .ref (ad x 0)), (2, .int (i32 (b2 (mir))))]) hx hb dX2_countLike_49 hl (k := 0) rfl (i32_add _ _) (by decide) rfl (fun ls hl => ?_)
                refine lv_goto (tgt := 17) hx hb dX2_countLike_52 (by decide) ?_
                exact ih17 t1 (c + 1) _ _ _ (by omega) (by exact s2z zc.1 zu (b2_f c_3)) (by omega) hP hS (lv_sub hl [0, 1, 2, 3, 4, 5] rfl)
              · -- (S o 5 (r * 24 + c)) = (dcF S x r (cif mir (S x 0 0 - 1 - c) c))
                refine lv_iinc (v := i32 (t1 + 1)) (lv' := [(3, .int (i32 (t1 + 1))), (5, .int (i32 (c))), (4, .int (i32 (r))), (0, .ref (ad o 0)), (1, .ref (ad x 0)), (2, .int (i32 (b2 (mir))))]) hx hb dX2_countLike_46 hl (k := 2) rfl (i32_add _ _) (by decide) rfl (fun ls hl => ?_)
                refine lv_iinc (v := i32 (c + 1)) (lv' := [(5, .int (i32 (c + 1))), (3, .int (i32 (t1 + 1))), (4, .int (i32 (r))), (0, .ref (ad o 0)), (1, .ref (ad x 0)), (2, .int (i32 (b2 (mir))))]) hx hb dX2_countLike_49 hl (k := 1) rfl (i32_add _ _) (by decide) rfl (fun ls hl => ?_)
                refine lv_goto (tgt := 17) hx hb dX2_countLike_52 (by decide) ?_
                exact ih17 (t1 + 1) (c + 1) _ _ _ (by omega) (by exact s2e zc.1 zu 1 (b2_t c_3)) (by omega) hP hS (lv_sub hl [0, 2, 1, 3, 4, 5] rfl)
        exact L17 ((S o 0 0 - 0) + 1).toNat t 0 _ _ _ (by omega) (by show t = t + 0; omega) (by omega) hP hS (lv_sub hl [0, 1, 2, 3, 4, 5] rfl)
  exact L5 ((S o 0 1 - 0) + 1).toNat 0 0 _ _ _ (by omega) (by rfl) (by omega) hP hS (lv_sub hl [0, 1, 2, 3, 4] rfl)

set_option maxHeartbeats 4000000 in
set_option maxRecDepth 100000 in
theorem c_X2_isDone (l : Launch) (g : GT) (base : Nat) (ad : Nat → Nat → Nat) (S : St) (o : Nat)  (hal : S o 0 (-1) = 1) (hkd : kd o = 5) (hwd : 0 ≤ S o 0 0 ∧ S o 0 0 ≤ 24) (hht : 0 ≤ S o 0 1 ∧ S o 0 1 ≤ 10) : Met l yX2_isDone [Cond.code yX2_isDone cX2_isDone 1 (some FieldType.boolean)] ({ frames := 3, cells := 0, slots := 0, locals := 66 }) (va_Pc [.ref (ad o 0)] (PK g base ad S)) (gQ g base (an (some (.int (i32 (b2 (wnC S o = S o 0 0 * S o 0 1))))) ad S)) 0 0 (fun q => base ≤ q) := by
  refine mk_m (own := RX2) (lv0 := [(0, .ref (ad o 0))]) (by decide) rfl (Nat.le_of_ble_eq_true rfl) rfl ?_
  intro p e s m below meth cz av Qm hx hb hr hml hown hlocks hK hZ hP hQm ls hl
  have hS : va_S (fun q => base ≤ q) s.heap s.heap [] := va_S.rf
  have rS : ∀ (a1 b1 : Nat) (i1 : Int), rng (S a1 b1 i1) := fun a1 b1 i1 => hP.rg a1 b1 i1
  obtain ⟨hz1, hz2⟩ := wnC_b S o hwd hht
  have hz3 := Int.mul_nonneg hwd.1 hht.1
  have hz4 := Int.mul_le_mul hwd.2 hht.2 hht.1 (by decide : (0 : Int) ≤ 24)
  refine lv_aload_n hx hb dX2_isDone_0 rfl (lv_at hl 0 rfl) ?_
  refine q_callV (k := 5) hx hb hml hl.1 hown hK hZ hP hS hal hkd rfl rfl (c_X2_countWoven l g base ad S o hal hkd (by omega) (by omega)) t_287 t_288 (q_callB hK 294 24 289 t_294 t_24 t_289 f_yX2_countWoven ⟨by decide, by decide⟩) rfl rfl (Nat.le_of_ble_eq_true rfl) dX2_isDone_1 ⟨by decide, by decide⟩  (q_an (fun H locs hP hS => ?_))
  refine lv_aload_n hx hb dX2_isDone_4 rfl (lv_at hl 0 rfl) ?_
  refine p_get (k := 5) hx hb hown hK hP hal hkd rfl rfl (lay_X2 hK) 0 460 (by decide) t_460 rfl rfl dX2_isDone_5 ?_
  refine lv_aload_n hx hb dX2_isDone_8 rfl (lv_at hl 0 rfl) ?_
  refine p_get (k := 5) hx hb hown hK hP hal hkd rfl rfl (lay_X2 hK) 1 461 (by decide) t_461 rfl rfl dX2_isDone_9 ?_
  refine q_imul hx hb dX2_isDone_12 ?_
  have J21 : ∀ (H : Heap) (locs : List Loc), pic g base ad S H → va_S (fun q => base ≤ q) s.heap H locs → W p l e ({ frames := 3, cells := 0, slots := 0, locals := 66 } : Room) s m av below meth cz H locs 0 0 Qm (F0 m 21 ls (Value.int (i32 (b2 (((wnC S o) = ((S o 0 0) * (S o 0 1)))))) :: [])) := by
    intro H locs hP hS
    refine q_nm (b2_c (show (((wnC S o) = ((S o 0 0) * (S o 0 1)))) ↔ (wnC S o = S o 0 0 * S o 0 1) from by first | omega | (simp only [*]; done) | simp_all)) ?_
    subst hQm
    exact q_zret hx hb hr hlocks hP hS (b2_01 _) ⟨rfl, rfl, rfl⟩ (by decide) (by decide) dX2_isDone_21
  refine q_icmp_ne (tgt := 20) hx hb ⟨by omega, by omega⟩ ⟨by omega, by omega⟩ dX2_isDone_13 (by decide) (fun c_1 => ?_) (fun c_1 => ?_)
  · -- (wnC S o) ≠ ((S o 0 0) * (S o 0 1))
    refine lv_iconst (v := i32 (0)) hx hb dX2_isDone_20 rfl ?_
    refine q_nm (b2_f (show ¬ (((wnC S o) = ((S o 0 0) * (S o 0 1)))) from by first | omega | (simp only [*]; done) | simp_all)).symm ?_
    exact J21 _ _ hP hS
  · -- (wnC S o) = ((S o 0 0) * (S o 0 1))
    refine lv_iconst (v := i32 (1)) hx hb dX2_isDone_16 rfl ?_
    refine lv_goto (tgt := 21) hx hb dX2_isDone_17 (by decide) ?_
    refine q_nm (b2_t (show ((wnC S o) = ((S o 0 0) * (S o 0 1))) from by first | omega | (simp only [*]; done) | simp_all)).symm ?_
    exact J21 _ _ hP hS
