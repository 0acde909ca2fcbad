set_option maxHeartbeats 4000000 in
set_option maxRecDepth 100000 in
theorem c_X2_isSewnAhead (l : Launch) (g : GT) (base : Nat) (ad : Nat → Nat → Nat) (S : St) (o : Nat) (c : Int) (hal : S o 0 (-1) = 1) (hkd : kd o = 5) (hcc : 0 ≤ c ∧ c < 24) : Met l yX2_isSewnAhead [Cond.code yX2_isSewnAhead cX2_isSewnAhead 2 (some FieldType.boolean)] ({ frames := 0, cells := 0, slots := 0, locals := 0 }) (va_Pc [.ref (ad o 0), .int (i32 (c))] (PK g base ad S)) (gQ g base (an (some (.int (i32 (b2 (S o 9 c ≠ 0))))) ad S)) 0 0 (fun q => base ≤ q) := by
  refine mk_m (own := RX2) (lv0 := [(0, .ref (ad o 0)), (1, .int (i32 (c)))]) (by decide) rfl (Nat.le_of_ble_eq_true rfl) rfl ?_
  intro p e s m below meth cz av Qm hx hb hr hml hown hlocks hK hZ hP hQm ls hl
  have hS : va_S (fun q => base ≤ q) s.heap s.heap [] := va_S.rf
  have rS : ∀ (a1 b1 : Nat) (i1 : Int), rng (S a1 b1 i1) := fun a1 b1 i1 => hP.rg a1 b1 i1
  refine lv_iload_n hx hb dX2_isSewnAhead_0 rfl (lv_at hl 1 rfl) ?_
  have J27 : ∀ (H : Heap) (locs : List Loc), pic g base ad S H → va_S (fun q => base ≤ q) s.heap H locs → W p l e ({ frames := 0, cells := 0, slots := 0, locals := 0 } : Room) s m av below meth cz H locs 0 0 Qm (F0 m 27 ls (Value.int (i32 (b2 ((0 ≤ c) ∧ (c < 24) ∧ ((S o 9 c) ≠ 0)))) :: [])) := by
    intro H locs hP hS
    refine q_nm (b2_c (show ((0 ≤ c) ∧ (c < 24) ∧ ((S o 9 c) ≠ 0)) ↔ (S o 9 c ≠ 0) from by first | omega | (simp only [*]; done) | simp_all)) ?_
    subst hQm
    exact q_zret hx hb hr hlocks hP hS (b2_01 _) ⟨rfl, rfl, rfl⟩ (by decide) (by decide) dX2_isSewnAhead_27
  refine q_if_lt (tgt := 26) hx hb ⟨by omega, by omega⟩ dX2_isSewnAhead_1 (by decide) (fun c_1 => ?_) (fun c_1 => ?_)
  · -- c < 0
    refine lv_iconst (v := i32 (0)) hx hb dX2_isSewnAhead_26 rfl ?_
    refine q_nm (b2_f (show ¬ ((0 ≤ c) ∧ (c < 24) ∧ ((S o 9 c) ≠ 0)) from by first | omega | (simp only [*]; done) | simp_all)).symm ?_
    exact J27 _ _ hP hS
  · -- 0 ≤ c
    refine lv_iload_n hx hb dX2_isSewnAhead_4 rfl (lv_at hl 1 rfl) ?_
    refine lv_aload_n hx hb dX2_isSewnAhead_5 rfl (lv_at hl 0 rfl) ?_
    refine p_get (k := 5) hx hb hown hK hP hal hkd rfl rfl (lay_X2 hK) 8 468 (by decide) t_468 rfl rfl dX2_isSewnAhead_6 ?_
    refine p_alen (k := 5) (r := 9) (q := 1) (n := 24) hx hb hK hP hal hkd rfl (by decide) (by decide) dX2_isSewnAhead_9 ?_
    refine q_icmp_ge (tgt := 26) hx hb ⟨by omega, by omega⟩ ⟨by decide, by decide⟩ dX2_isSewnAhead_10 (by decide) (fun c_2 => ?_) (fun c_2 => ?_)
    · -- 24 ≤ c
      refine lv_iconst (v := i32 (0)) hx hb dX2_isSewnAhead_26 rfl ?_
      refine q_nm (b2_f (show ¬ ((0 ≤ c) ∧ (c < 24) ∧ ((S o 9 c) ≠ 0)) from by first | omega | (simp only [*]; done) | simp_all)).symm ?_
      exact J27 _ _ hP hS
    · -- c < 24
      refine lv_aload_n hx hb dX2_isSewnAhead_13 rfl (lv_at hl 0 rfl) ?_
      refine p_get (k := 5) hx hb hown hK hP hal hkd rfl rfl (lay_X2 hK) 8 468 (by decide) t_468 rfl rfl dX2_isSewnAhead_14 ?_
      refine lv_iload_n hx hb dX2_isSewnAhead_17 rfl (lv_at hl 1 rfl) ?_
      refine p_zald (k := 5) (r := 9) (n := 24) hx hb hK hP hal hkd rfl (by decide) (by decide) (by omega) (by omega) dX2_isSewnAhead_18 ?_
      refine q_if_eq (tgt := 26) hx hb (hP.rg _ _ _) dX2_isSewnAhead_19 (by decide) (fun c_3 => ?_) (fun c_3 => ?_)
      · -- (S o 9 c) = 0
        refine lv_iconst (v := i32 (0)) hx hb dX2_isSewnAhead_26 rfl ?_
        refine q_nm (b2_f (show ¬ ((0 ≤ c) ∧ (c < 24) ∧ ((S o 9 c) ≠ 0)) from by first | omega | (simp only [*]; done) | simp_all)).symm ?_
        exact J27 _ _ hP hS
      · -- (S o 9 c) ≠ 0
        refine lv_iconst (v := i32 (1)) hx hb dX2_isSewnAhead_22 rfl ?_
        refine lv_goto (tgt := 27) hx hb dX2_isSewnAhead_23 (by decide) ?_
        refine q_nm (b2_t (show (0 ≤ c) ∧ (c < 24) ∧ ((S o 9 c) ≠ 0) from by first | omega | (simp only [*]; done) | simp_all)).symm ?_
        exact J27 _ _ hP hS

set_option maxHeartbeats 4000000 in
set_option maxRecDepth 100000 in
theorem c_X2_setSewnAhead (l : Launch) (g : GT) (base : Nat) (ad : Nat → Nat → Nat) (S : St) (o : Nat) (c : Int) (bl : Prop) (hal : S o 0 (-1) = 1) (hkd : kd o = 5) (hcc : 0 ≤ c ∧ c < 24) : Met l yX2_setSewnAhead [Cond.code yX2_setSewnAhead cX2_setSewnAhead 3 (none : Option FieldType)] ({ frames := 0, cells := 0, slots := 0, locals := 0 }) (va_Pc [.ref (ad o 0), .int (i32 (c)), .int (i32 (b2 (bl)))] (PK g base ad S)) (gQ g base (an (none) ad (st S o 9 c (b2 bl)))) 0 0 (fun q => base ≤ q) := by
  refine mk_m (own := RX2) (lv0 := [(0, .ref (ad o 0)), (1, .int (i32 (c))), (2, .int (i32 (b2 (bl))))]) (by decide) rfl (Nat.le_of_ble_eq_true rfl) rfl ?_
  intro p e s m below meth cz av Qm hx hb hr hml hown hlocks hK hZ hP hQm ls hl
  have hS : va_S (fun q => base ≤ q) s.heap s.heap [] := va_S.rf
  have rS : ∀ (a1 b1 : Nat) (i1 : Int), rng (S a1 b1 i1) := fun a1 b1 i1 => hP.rg a1 b1 i1
  refine lv_iload_n hx hb dX2_setSewnAhead_0 rfl (lv_at hl 1 rfl) ?_
  refine q_if_lt (tgt := 20) hx hb ⟨by omega, by omega⟩ dX2_setSewnAhead_1 (by decide) (fun c_1 => ?_) (fun c_1 => ?_)
  · -- c < 0
    subst hQm
    exact q_vret hx hb hr hlocks hP hS ⟨rfl, rfl, (by exfalso; omega)⟩ (by decide) (by decide) dX2_setSewnAhead_20
  · -- 0 ≤ c
    refine lv_iload_n hx hb dX2_setSewnAhead_4 rfl (lv_at hl 1 rfl) ?_
    refine lv_aload_n hx hb dX2_setSewnAhead_5 rfl (lv_at hl 0 rfl) ?_
    refine p_get (k := 5) hx hb hown hK hP hal hkd rfl rfl (lay_X2 hK) 8 468 (by decide) t_468 rfl rfl dX2_setSewnAhead_6 ?_
    refine p_alen (k := 5) (r := 9) (q := 1) (n := 24) hx hb hK hP hal hkd rfl (by decide) (by decide) dX2_setSewnAhead_9 ?_
    refine q_icmp_ge (tgt := 20) hx hb ⟨by omega, by omega⟩ ⟨by decide, by decide⟩ dX2_setSewnAhead_10 (by decide) (fun c_2 => ?_) (fun c_2 => ?_)
    · -- 24 ≤ c
      subst hQm
      exact q_vret hx hb hr hlocks hP hS ⟨rfl, rfl, (by exfalso; omega)⟩ (by decide) (by decide) dX2_setSewnAhead_20
    · -- c < 24
      refine lv_aload_n hx hb dX2_setSewnAhead_13 rfl (lv_at hl 0 rfl) ?_
      refine p_get (k := 5) hx hb hown hK hP hal hkd rfl rfl (lay_X2 hK) 8 468 (by decide) t_468 rfl rfl dX2_setSewnAhead_14 ?_
      refine lv_iload_n hx hb dX2_setSewnAhead_17 rfl (lv_at hl 1 rfl) ?_
      refine lv_iload_n hx hb dX2_setSewnAhead_18 rfl (lv_at hl 2 rfl) ?_
      refine p_zast (k := 5) (r := 9) (n := 24) hx hb hK hP hS hal hkd rfl (by decide) (by decide) (by omega) (by omega) (b2_01 _) dX2_setSewnAhead_19 (fun H locs hP hS => ?_)
      generalize eS3 : st S o 9 c (b2 (bl)) = S3 at hP
      have qS3 : ∀ (a1 b1 : Nat) (i1 : Int), S3 a1 b1 i1 = if a1 = o ∧ b1 = 9 ∧ i1 = c then b2 (bl) else S a1 b1 i1 := fun a1 b1 i1 => by rw [← eS3]; exact st_at _ _ _ _ _ _ _ _
      have rS3 : ∀ (a1 b1 : Nat) (i1 : Int), rng (S3 a1 b1 i1) := fun a1 b1 i1 => hP.rg a1 b1 i1
      have aS3_o : S3 o 0 (-1) = 1 := by rw [qS3, if_neg (by omega)]; exact hal
      subst hQm
      exact q_vret hx hb hr hlocks hP hS ⟨rfl, rfl, (by first | (rw [← eS3]; done) | (exfalso; omega))⟩ (by decide) (by decide) dX2_setSewnAhead_20

set_option maxHeartbeats 4000000 in
set_option maxRecDepth 100000 in
theorem c_X2_sewAhead (l : Launch) (g : GT) (base : Nat) (ad : Nat → Nat → Nat) (S : St) (o : Nat) (c : Int) (hal : S o 0 (-1) = 1) (hkd : kd o = 5) (hcc : 0 ≤ c ∧ c < 24) : Met l yX2_sewAhead [Cond.code yX2_sewAhead cX2_sewAhead 2 (none : Option FieldType)] ({ frames := 1, cells := 0, slots := 0, locals := 22 }) (va_Pc [.ref (ad o 0), .int (i32 (c))] (PK g base ad S)) (gQ g base (an (none) ad (st S o 9 c 1))) 0 0 (fun q => base ≤ q) := by
  refine mk_m (own := RX2) (lv0 := [(0, .ref (ad o 0)), (1, .int (i32 (c)))]) (by decide) rfl (Nat.le_of_ble_eq_true rfl) rfl ?_
  intro p e s m below meth cz av Qm hx hb hr hml hown hlocks hK hZ hP hQm ls hl
  have hS : va_S (fun q => base ≤ q) s.heap s.heap [] := va_S.rf
  have rS : ∀ (a1 b1 : Nat) (i1 : Int), rng (S a1 b1 i1) := fun a1 b1 i1 => hP.rg a1 b1 i1
  refine lv_aload_n hx hb dX2_sewAhead_0 rfl (lv_at hl 0 rfl) ?_
  refine lv_iload_n hx hb dX2_sewAhead_1 rfl (lv_at hl 1 rfl) ?_
  refine lv_iconst (v := i32 (1)) hx hb dX2_sewAhead_2 rfl ?_
  refine W.eq (g2 := F0 m 3 ls (Value.int (i32 (b2 (True))) :: Value.int (i32 (c)) :: Value.ref (ad o 0) :: [])) (by simp only [b2_t trivial, b2_f not_false] <;> rfl) ?_
  refine q_callV (k := 5) hx hb hml hl.1 hown hK hZ hP hS hal hkd rfl rfl (c_X2_setSewnAhead l g base ad S o c True hal hkd (by omega)) t_623 t_10 (q_callB hK 621 24 624 t_621 t_24 t_624 f_yX2_setSewnAhead ⟨by decide, by decide⟩) rfl rfl (Nat.le_of_ble_eq_true rfl) dX2_sewAhead_3 ⟨by decide, by decide⟩  (q_an (fun H locs hP hS => ?_))
  generalize eS1 : st S o 9 c (b2 True) = S1 at hP
  have rS1 : ∀ (a1 b1 : Nat) (i1 : Int), rng (S1 a1 b1 i1) := fun a1 b1 i1 => hP.rg a1 b1 i1
  have qS1 : ∀ (a1 b1 : Nat) (i1 : Int), S1 a1 b1 i1 = if a1 = o ∧ b1 = 9 ∧ i1 = c then b2 True else S a1 b1 i1 := fun a1 b1 i1 => by rw [← eS1]; exact st_at _ _ _ _ _ _ _ _
  have aS1_o : S1 o 0 (-1) = 1 := by rw [qS1, if_neg (by omega)]; exact hal
  subst hQm
  exact q_vret hx hb hr hlocks hP hS ⟨rfl, rfl, (by rw [← eS1, b2_t trivial])⟩ (by decide) (by decide) dX2_sewAhead_6

set_option maxHeartbeats 4000000 in
set_option maxRecDepth 100000 in
theorem c_X2_keepAhead (l : Launch) (g : GT) (base : Nat) (ad : Nat → Nat → Nat) (S : St) (o : Nat) (c : Int) (hal : S o 0 (-1) = 1) (hkd : kd o = 5) (hrn : rng c) : Met l yX2_keepAhead [Cond.code yX2_keepAhead cX2_keepAhead 2 (none : Option FieldType)] ({ frames := 0, cells := 0, slots := 0, locals := 0 }) (va_Pc [.ref (ad o 0), .int (i32 (c))] (PK g base ad S)) (gQ g base (an (none) ad (st S o 0 0 c))) 0 0 (fun q => base ≤ q) := by
  refine mk_m (own := RX2) (lv0 := [(0, .ref (ad o 0)), (1, .int (i32 (c)))]) (by decide) rfl (Nat.le_of_ble_eq_true rfl) rfl ?_
  intro p e s m below meth cz av Qm hx hb hr hml hown hlocks hK hZ hP hQm ls hl
  have hS : va_S (fun q => base ≤ q) s.heap s.heap [] := va_S.rf
  have rS : ∀ (a1 b1 : Nat) (i1 : Int), rng (S a1 b1 i1) := fun a1 b1 i1 => hP.rg a1 b1 i1
  refine lv_aload_n hx hb dX2_keepAhead_0 rfl (lv_at hl 0 rfl) ?_
  refine lv_iload_n hx hb dX2_keepAhead_1 rfl (lv_at hl 1 rfl) ?_
  refine p_put (k := 5) hx hb hown hK hP hS hal hkd rfl rfl (lay_X2 hK) tyX2 tyX2_ok nmX2 0 460 (by decide) t_460 rfl rfl (by decide +kernel) hrn (Nat.le_of_ble_eq_true rfl) (set_5_0 _ _ _ _) dX2_keepAhead_2 (fun H locs hP hS => ?_)
  generalize eS1 : st S o 0 0 c = S1 at hP
  have qS1 : ∀ (a1 b1 : Nat) (i1 : Int), S1 a1 b1 i1 = if a1 = o ∧ b1 = 0 ∧ i1 = 0 then c else S a1 b1 i1 := fun a1 b1 i1 => by rw [← eS1]; exact st_at _ _ _ _ _ _ _ _
  have rS1 : ∀ (a1 b1 : Nat) (i1 : Int), rng (S1 a1 b1 i1) := fun a1 b1 i1 => hP.rg a1 b1 i1
  have aS1_o : S1 o 0 (-1) = 1 := by rw [qS1, if_neg (by omega)]; exact hal
  subst hQm
  exact q_vret hx hb hr hlocks hP hS ⟨rfl, rfl, (by rw [← eS1])⟩ (by decide) (by decide) dX2_keepAhead_5

set_option maxHeartbeats 4000000 in
set_option maxRecDepth 100000 in
theorem c_X2_dim (l : Launch) (g : GT) (base : Nat) (ad : Nat → Nat → Nat) (S : St) (o : Nat) (r c u : Int) (hal : S o 0 (-1) = 1) (hkd : kd o = 5) (hrr : 0 ≤ r ∧ r < 10) (hcc : 0 ≤ c ∧ c < 24) (huu : 0 ≤ u ∧ u ≤ 1000) (hsd : 0 ≤ S o 7 (r * 24 + c) ∧ S o 7 (r * 24 + c) ≤ 100) : Met l yX2_dim [Cond.code yX2_dim cX2_dim 4 (none : Option FieldType)] ({ frames := 2, cells := 0, slots := 0, locals := 43 }) (va_Pc [.ref (ad o 0), .int (i32 (r)), .int (i32 (c)), .int (i32 (u))] (PK g base ad S)) (gQ g base (an (none) ad (st S o 7 (r * 24 + c) (mx0 (S o 7 (r * 24 + c) - u))))) 0 0 (fun q => base ≤ q) := by
  refine mk_m (own := RX2) (lv0 := [(0, .ref (ad o 0)), (1, .int (i32 (r))), (2, .int (i32 (c))), (3, .int (i32 (u)))]) (by decide) rfl (Nat.le_of_ble_eq_true rfl) rfl ?_
  intro p e s m below meth cz av Qm hx hb hr hml hown hlocks hK hZ hP hQm ls hl
  have hS : va_S (fun q => base ≤ q) s.heap s.heap [] := va_S.rf
  have rS : ∀ (a1 b1 : Nat) (i1 : Int), rng (S a1 b1 i1) := fun a1 b1 i1 => hP.rg a1 b1 i1
  refine lv_aload_n hx hb dX2_dim_0 rfl (lv_at hl 0 rfl) ?_
  refine p_get (k := 5) hx hb hown hK hP hal hkd rfl rfl (lay_X2 hK) 6 466 (by decide) t_466 rfl rfl dX2_dim_1 ?_
  refine lv_iload_n hx hb dX2_dim_4 rfl (lv_at hl 1 rfl) ?_
  refine lv_iload_n hx hb dX2_dim_5 rfl (lv_at hl 2 rfl) ?_
  refine q_callS hx hb hml hl.1 hown hK hZ hP hS (c_X2_placeOf l g base ad S r c ) t_103 (q_callB hK 102 24 104 t_102 t_24 t_104 f_yX2_placeOf ⟨by decide, by decide⟩) rfl rfl (Nat.le_of_ble_eq_true rfl) dX2_dim_6 ⟨by decide, by decide⟩  (q_an (fun H locs hP hS => ?_))
  refine lv_iconst (v := i32 (0)) hx hb dX2_dim_9 rfl ?_
  refine lv_aload_n hx hb dX2_dim_10 rfl (lv_at hl 0 rfl) ?_
  refine lv_iload_n hx hb dX2_dim_11 rfl (lv_at hl 1 rfl) ?_
  refine lv_iload_n hx hb dX2_dim_12 rfl (lv_at hl 2 rfl) ?_
  refine q_callV (k := 5) hx hb hml hl.1 hown hK hZ hP hS hal hkd rfl rfl (c_X2_shadeAt l g base ad S o r c hal hkd (by omega) (by omega)) t_324 t_325 (q_callB hK 323 24 326 t_323 t_24 t_326 f_yX2_shadeAt ⟨by decide, by decide⟩) rfl rfl (Nat.le_of_ble_eq_true rfl) dX2_dim_13 ⟨by decide, by decide⟩  (q_an (fun H locs hP hS => ?_))
  refine lv_iload_n hx hb dX2_dim_16 rfl (lv_at hl 3 rfl) ?_
  refine q_isub hx hb dX2_dim_17 ?_
  refine q_max hx hb hown hK hml hl.1 t_MXL316 ⟨by decide, Nat.le_of_ble_eq_true rfl⟩ (by decide) (by decide) ⟨by decide, by decide⟩ ⟨by omega, by omega⟩ dX2_dim_18 ?_
  refine q_callN hx hb hml hl.1 hown hK hZ hP hS (c_X3_setAt l g base ad S o 7 5 240 (r * 24 + c) (if 0 < ((S o 7 (r * 24 + c)) - u) then ((S o 7 (r * 24 + c)) - u) else 0) hal hkd rfl (by omega) (by omega) ⟨by omega, by omega⟩ (mx0_r (by omega))) t_108 t_15 t_110 t_109 f_yX3_setAt ⟨by decide, by decide⟩ rfl rfl (Nat.le_of_ble_eq_true rfl) dX2_dim_21 ⟨by decide, by decide⟩ (q_an (fun H locs hP hS => ?_))
  rw [sA_in (by omega) (by omega)] at hP
  generalize eS1 : st S o 7 (r * 24 + c) (if 0 < ((S o 7 (r * 24 + c)) - u) then ((S o 7 (r * 24 + c)) - u) else 0) = S1 at hP
  have qS1 : ∀ (a1 b1 : Nat) (i1 : Int), S1 a1 b1 i1 = if a1 = o ∧ b1 = 7 ∧ i1 = r * 24 + c then if 0 < ((S o 7 (r * 24 + c)) - u) then ((S o 7 (r * 24 + c)) - u) else 0 else S a1 b1 i1 := fun a1 b1 i1 => by rw [← eS1]; exact st_at _ _ _ _ _ _ _ _
  have rS1 : ∀ (a1 b1 : Nat) (i1 : Int), rng (S1 a1 b1 i1) := fun a1 b1 i1 => hP.rg a1 b1 i1
  have aS1_o : S1 o 0 (-1) = 1 := by rw [qS1, if_neg (by omega)]; exact hal
  subst hQm
  exact q_vret hx hb hr hlocks hP hS ⟨rfl, rfl, (by rw [← eS1]; rfl)⟩ (by decide) (by decide) dX2_dim_24

set_option maxHeartbeats 4000000 in
set_option maxRecDepth 100000 in
theorem c_X2_isTrueAhead (l : Launch) (g : GT) (base : Nat) (ad : Nat → Nat → Nat) (S : St) (o : Nat) (c : Int) (hal : S o 0 (-1) = 1) (hkd : kd o = 5) (hcc : 1 ≤ c ∧ c < 24) (hor : ∀ j, 0 ≤ j → j < 24 → 0 ≤ S o 8 j ∧ S o 8 j ≤ 1000) : Met l yX2_isTrueAhead [Cond.code yX2_isTrueAhead cX2_isTrueAhead 2 (some FieldType.boolean)] ({ frames := 1, cells := 0, slots := 0, locals := 21 }) (va_Pc [.ref (ad o 0), .int (i32 (c))] (PK g base ad S)) (gQ g base (an (some (.int (i32 (b2 (S o 8 (c - 1) + 1 = S o 8 c))))) ad S)) 0 0 (fun q => base ≤ q) := by
  refine mk_m (own := RX2) (lv0 := [(0, .ref (ad o 0)), (1, .int (i32 (c)))]) (by decide) rfl (Nat.le_of_ble_eq_true rfl) rfl ?_
  intro p e s m below meth cz av Qm hx hb hr hml hown hlocks hK hZ hP hQm ls hl
  have hS : va_S (fun q => base ≤ q) s.heap s.heap [] := va_S.rf
  have rS : ∀ (a1 b1 : Nat) (i1 : Int), rng (S a1 b1 i1) := fun a1 b1 i1 => hP.rg a1 b1 i1
  have z1 := hor (c - 1) (by omega) (by omega)
  have z2 := hor c (by omega) (by omega)
  refine lv_aload_n hx hb dX2_isTrueAhead_0 rfl (lv_at hl 0 rfl) ?_
  refine p_get (k := 5) hx hb hown hK hP hal hkd rfl rfl (lay_X2 hK) 7 467 (by decide) t_467 rfl rfl dX2_isTrueAhead_1 ?_
  refine lv_iload_n hx hb dX2_isTrueAhead_4 rfl (lv_at hl 1 rfl) ?_
  refine lv_iconst (v := i32 (1)) hx hb dX2_isTrueAhead_5 rfl ?_
  refine q_isub hx hb dX2_isTrueAhead_6 ?_
  refine q_callN hx hb hml hl.1 hown hK hZ hP hS (c_X3_valueAt l g base ad S o 8 5 24 (c - 1) hal hkd rfl (by omega) (by omega) ⟨by omega, by omega⟩) t_105 t_15 t_107 t_106 f_yX3_valueAt ⟨by decide, by decide⟩ rfl rfl (Nat.le_of_ble_eq_true rfl) dX2_isTrueAhead_7 ⟨by decide, by decide⟩ (q_an (fun H locs hP hS => ?_))
  refine q_nm (vA_in (by omega) (by omega)) ?_
  refine lv_iconst (v := i32 (1)) hx hb dX2_isTrueAhead_10 rfl ?_
  refine q_iadd hx hb dX2_isTrueAhead_11 ?_
  refine lv_aload_n hx hb dX2_isTrueAhead_12 rfl (lv_at hl 0 rfl) ?_
  refine p_get (k := 5) hx hb hown hK hP hal hkd rfl rfl (lay_X2 hK) 7 467 (by decide) t_467 rfl rfl dX2_isTrueAhead_13 ?_
  refine lv_iload_n hx hb dX2_isTrueAhead_16 rfl (lv_at hl 1 rfl) ?_
  refine q_callN hx hb hml hl.1 hown hK hZ hP hS (c_X3_valueAt l g base ad S o 8 5 24 c hal hkd rfl (by omega) (by omega) ⟨by omega, by omega⟩) t_105 t_15 t_107 t_106 f_yX3_valueAt ⟨by decide, by decide⟩ rfl rfl (Nat.le_of_ble_eq_true rfl) dX2_isTrueAhead_17 ⟨by decide, by decide⟩ (q_an (fun H locs hP hS => ?_))
  refine q_nm (vA_in (by omega) (by omega)) ?_
  have J28 : ∀ (H : Heap) (locs : List Loc), pic g base ad S H → va_S (fun q => base ≤ q) s.heap H locs → W p l e ({ frames := 1, cells := 0, slots := 0, locals := 21 } : Room) s m av below meth cz H locs 0 0 Qm (F0 m 28 ls (Value.int (i32 (b2 ((((S o 8 (c - 1)) + 1) = (S o 8 c))))) :: [])) := by
    intro H locs hP hS
    refine q_nm (b2_c (show ((((S o 8 (c - 1)) + 1) = (S o 8 c))) ↔ (S o 8 (c - 1) + 1 = S o 8 c) from by first | omega | (simp only [*]; done) | simp_all)) ?_
    subst hQm
    exact q_zret hx hb hr hlocks hP hS (b2_01 _) ⟨rfl, rfl, rfl⟩ (by decide) (by decide) dX2_isTrueAhead_28
  refine q_icmp_ne (tgt := 27) hx hb ⟨by omega, by omega⟩ (hP.rg _ _ _) dX2_isTrueAhead_20 (by decide) (fun c_1 => ?_) (fun c_1 => ?_)
  · -- ((S o 8 (c - 1)) + 1) ≠ (S o 8 c)
    refine lv_iconst (v := i32 (0)) hx hb dX2_isTrueAhead_27 rfl ?_
    refine q_nm (b2_f (show ¬ ((((S o 8 (c - 1)) + 1) = (S o 8 c))) from by first | omega | (simp only [*]; done) | simp_all)).symm ?_
    exact J28 _ _ hP hS
  · -- ((S o 8 (c - 1)) + 1) = (S o 8 c)
    refine lv_iconst (v := i32 (1)) hx hb dX2_isTrueAhead_23 rfl ?_
    refine lv_goto (tgt := 28) hx hb dX2_isTrueAhead_24 (by decide) ?_
    refine q_nm (b2_t (show (((S o 8 (c - 1)) + 1) = (S o 8 c)) from by first | omega | (simp only [*]; done) | simp_all)).symm ?_
    exact J28 _ _ hP hS

set_option maxHeartbeats 4000000 in
set_option maxRecDepth 100000 in
theorem c_X2_isAllTrue (l : Launch) (g : GT) (base : Nat) (ad : Nat → Nat → Nat) (S : St) (o : Nat)  (hal : S o 0 (-1) = 1) (hkd : kd o = 5) (hwd : 0 ≤ S o 0 0 ∧ S o 0 0 ≤ 24) (hor : ∀ j, 0 ≤ j → j < 24 → 0 ≤ S o 8 j ∧ S o 8 j ≤ 1000) : Met l yX2_isAllTrue [Cond.code yX2_isAllTrue cX2_isAllTrue 2 (some FieldType.boolean)] ({ frames := 2, cells := 0, slots := 0, locals := 42 }) (va_Pc [.ref (ad o 0)] (PK g base ad S)) (gQ g base (an (some (.int (i32 (b2 (∀ j, 1 ≤ j → j < S o 0 0 → S o 8 (j - 1) + 1 = S o 8 j))))) ad S)) 0 0 (fun q => base ≤ q) := by
  refine mk_m (own := RX2) (lv0 := [(0, .ref (ad o 0))]) (by decide) rfl (Nat.le_of_ble_eq_true rfl) rfl ?_
  intro p e s m below meth cz av Qm hx hb hr hml hown hlocks hK hZ hP hQm ls hl
  have hS : va_S (fun q => base ≤ q) s.heap s.heap [] := va_S.rf
  have rS : ∀ (a1 b1 : Nat) (i1 : Int), rng (S a1 b1 i1) := fun a1 b1 i1 => hP.rg a1 b1 i1
  refine lv_iconst (v := i32 (1)) hx hb dX2_isAllTrue_0 rfl ?_
  refine lv_istore_n (lv' := [(1, .int (i32 (1))), (0, .ref (ad o 0))]) hx hb dX2_isAllTrue_1 rfl hl (by decide) rfl (fun ls hl => ?_)
  have L2 : ∀ (k : Nat) (c : Int) (H : Heap) (locs : List Loc) (ls : Array Slot), (1 ≤ c ∧ (c ≤ S o 0 0 ∨ c = 1)) → (∀ j, 1 ≤ j → j < c → S o 8 (j - 1) + 1 = S o 8 j) → (25 : Int) - c < (k : Int) → pic g base ad S H → va_S (fun q => base ≤ q) s.heap H locs → lv_has ls 2 [(1, .int (i32 (c))), (0, .ref (ad o 0))] → W p l e ({ frames := 2, cells := 0, slots := 0, locals := 42 } : Room) s m av below meth cz H locs 0 0 Qm (F0 m 2 ls []) := by
    intro k
    induction k with
    | zero => intro c H locs ls zc za hmu _ _ _; exact absurd hmu (by omega)
    | succ k ih2 =>
      intro c H locs ls zc za hmu hP hS hl
      refine lv_iload_n hx hb dX2_isAllTrue_2 rfl (lv_at hl 0 rfl) ?_
      refine lv_aload_n hx hb dX2_isAllTrue_3 rfl (lv_at hl 1 rfl) ?_
      refine p_get (k := 5) hx hb hown hK hP hal hkd rfl rfl (lay_X2 hK) 0 460 (by decide) t_460 rfl rfl dX2_isAllTrue_4 ?_
      refine q_icmp_ge (tgt := 26) hx hb ⟨by omega, by omega⟩ (hP.rg _ _ _) dX2_isAllTrue_7 (by decide) (fun c_1 => ?_) (fun c_1 => ?_)
      · -- (S o 0 0) ≤ c
        refine lv_iconst (v := i32 (1)) hx hb dX2_isAllTrue_26 rfl ?_
        refine q_nm (b2_t (show ∀ j, 1 ≤ j → j < S o 0 0 → S o 8 (j - 1) + 1 = S o 8 j from by exact fun j h0 h1 => za j h0 (by omega))).symm ?_
        subst hQm
        exact q_zret hx hb hr hlocks hP hS (b2_01 _) ⟨rfl, rfl, rfl⟩ (by decide) (by decide) dX2_isAllTrue_27
      · -- c < (S o 0 0)
        refine lv_aload_n hx hb dX2_isAllTrue_10 rfl (lv_at hl 1 rfl) ?_
        refine lv_iload_n hx hb dX2_isAllTrue_11 rfl (lv_at hl 0 rfl) ?_
        refine q_callV (k := 5) hx hb hml hl.1 hown hK hZ hP hS hal hkd rfl rfl (c_X2_isTrueAhead l g base ad S o c hal hkd (by omega) hor) t_528 t_529 (q_callB hK 527 24 530 t_527 t_24 t_530 f_yX2_isTrueAhead ⟨by decide, by decide⟩) rfl rfl (Nat.le_of_ble_eq_true rfl) dX2_isAllTrue_12 ⟨by decide, by decide⟩  (q_an (fun H locs hP hS => ?_))
        refine q_if_neb (tgt := 20) hx hb dX2_isAllTrue_15 (by decide) (fun c_2 => ?_) (fun c_2 => ?_)
        · -- S o 8 (c - 1) + 1 = S o 8 c
          refine lv_iinc (v := i32 (c + 1)) (lv' := [(1, .int (i32 (c + 1))), (0, .ref (ad o 0))]) hx hb dX2_isAllTrue_20 hl (k := 0) rfl (i32_add _ _) (by decide) rfl (fun ls hl => ?_)
          refine lv_goto (tgt := 2) hx hb dX2_isAllTrue_23 (by decide) ?_
          exact ih2 (c + 1) _ _ _ (by omega) (by intro j h0 h1; by_cases hj : j = c; (rw [hj]; exact c_2); exact za j h0 (by omega)) (by omega) hP hS (lv_sub hl [0, 1] rfl)
        · -- ¬ (S o 8 (c - 1) + 1 = S o 8 c)
          refine lv_iconst (v := i32 (0)) hx hb dX2_isAllTrue_18 rfl ?_
          refine q_nm (b2_f (show ¬ (∀ j, 1 ≤ j → j < S o 0 0 → S o 8 (j - 1) + 1 = S o 8 j) from by exact fun hq => c_2 (hq c zc.1 (by omega)))).symm ?_
          subst hQm
          exact q_zret hx hb hr hlocks hP hS (b2_01 _) ⟨rfl, rfl, rfl⟩ (by decide) (by decide) dX2_isAllTrue_19
  exact L2 (((25 : Int) - 1) + 1).toNat 1 _ _ _ (by omega) (by intro j h0 h1; omega) (by omega) hP hS (lv_sub hl [0, 1] rfl)

set_option maxHeartbeats 4000000 in
set_option maxRecDepth 100000 in
theorem c_X2_longestUnlikeAhead (l : Launch) (g : GT) (base : Nat) (ad : Nat → Nat → Nat) (S : St) (o : Nat) (c : Int) (hal : S o 0 (-1) = 1) (hkd : kd o = 5) (hcc : 1 ≤ c ∧ c < 24) (hht : 0 ≤ S o 0 1 ∧ S o 0 1 ≤ 10) : Met l yX2_longestUnlikeAhead [Cond.code yX2_longestUnlikeAhead cX2_longestUnlikeAhead 6 (some FieldType.int)] ({ frames := 2, cells := 0, slots := 0, locals := 43 }) (va_Pc [.ref (ad o 0), .int (i32 (c))] (PK g base ad S)) (gQ g base (an (some (.int (i32 (mxl (unC S o c) (S o 0 1).toNat)))) ad S)) 0 0 (fun q => base ≤ q) := by
  refine mk_m (own := RX2) (lv0 := [(0, .ref (ad o 0)), (1, .int (i32 (c)))]) (by decide) rfl (Nat.le_of_ble_eq_true rfl) rfl ?_
  intro p e s m below meth cz av Qm hx hb hr hml hown hlocks hK hZ hP hQm ls hl
  have hS : va_S (fun q => base ≤ q) s.heap s.heap [] := va_S.rf
  have rS : ∀ (a1 b1 : Nat) (i1 : Int), rng (S a1 b1 i1) := fun a1 b1 i1 => hP.rg a1 b1 i1
  refine lv_iconst (v := i32 (0)) hx hb dX2_longestUnlikeAhead_0 rfl ?_
  refine lv_istore_n (lv' := [(2, .int (i32 (0))), (0, .ref (ad o 0)), (1, .int (i32 (c)))]) hx hb dX2_longestUnlikeAhead_1 rfl hl (by decide) rfl (fun ls hl => ?_)
  refine lv_iconst (v := i32 (0)) hx hb dX2_longestUnlikeAhead_2 rfl ?_
  refine lv_istore_n (lv' := [(3, .int (i32 (0))), (2, .int (i32 (0))), (0, .ref (ad o 0)), (1, .int (i32 (c)))]) hx hb dX2_longestUnlikeAhead_3 rfl hl (by decide) rfl (fun ls hl => ?_)
  refine lv_iconst (v := i32 (0)) hx hb dX2_longestUnlikeAhead_4 rfl ?_
  refine lv_istore (lv' := [(4, .int (i32 (0))), (3, .int (i32 (0))), (2, .int (i32 (0))), (0, .ref (ad o 0)), (1, .int (i32 (c)))]) hx hb dX2_longestUnlikeAhead_5 hl (by decide) rfl (fun ls hl => ?_)
  have L7 : ∀ (k : Nat) (a n r : Int) (H : Heap) (locs : List Loc) (ls : Array Slot), (0 ≤ r ∧ r ≤ S o 0 1) → (n = rl (unC S o c) r.toNat) → (a = mxl (unC S o c) r.toNat) → S o 0 1 - r < (k : Int) → pic g base ad S H → va_S (fun q => base ≤ q) s.heap H locs → lv_has ls 6 [(4, .int (i32 (r))), (3, .int (i32 (n))), (2, .int (i32 (a))), (0, .ref (ad o 0)), (1, .int (i32 (c)))] → W p l e ({ frames := 2, cells := 0, slots := 0, locals := 43 } : Room) s m av below meth cz H locs 0 0 Qm (F0 m 7 ls []) := by
    intro k
    induction k with
    | zero => intro a n r H locs ls zr zn za hmu _ _ _; exact absurd hmu (by omega)
    | succ k ih7 =>
      intro a n r H locs ls zr zn za hmu hP hS hl
      have zn2 := rl_b (unC S o c) r.toNat
      have za2 := mxl_b (unC S o c) r.toNat
      refine lv_iload hx hb dX2_longestUnlikeAhead_7 (lv_at hl 0 rfl) ?_
      refine lv_aload_n hx hb dX2_longestUnlikeAhead_9 rfl (lv_at hl 3 rfl) ?_
      refine p_get (k := 5) hx hb hown hK hP hal hkd rfl rfl (lay_X2 hK) 1 461 (by decide) t_461 rfl rfl dX2_longestUnlikeAhead_10 ?_
      refine q_icmp_ge (tgt := 67) hx hb ⟨by omega, by omega⟩ (hP.rg _ _ _) dX2_longestUnlikeAhead_13 (by decide) (fun c_1 => ?_) (fun c_1 => ?_)
      · -- (S o 0 1) ≤ r
        refine lv_iload_n hx hb dX2_longestUnlikeAhead_67 rfl (lv_at hl 2 rfl) ?_
        refine q_nm (show (a : Int) = mxl (unC S o c) (S o 0 1).toNat from by rw [za, show r = S o 0 1 from by omega]) ?_
        subst hQm
        exact q_iret hx hb hr hlocks hP hS ⟨rfl, rfl, rfl⟩ (by decide) (by decide) dX2_longestUnlikeAhead_68
      · -- r < (S o 0 1)
        refine lv_aload_n hx hb dX2_longestUnlikeAhead_16 rfl (lv_at hl 3 rfl) ?_
        refine lv_iload hx hb dX2_longestUnlikeAhead_17 (lv_at hl 0 rfl) ?_
        refine lv_iload_n hx hb dX2_longestUnlikeAhead_19 rfl (lv_at hl 4 rfl) ?_
        refine lv_iconst (v := i32 (1)) hx hb dX2_longestUnlikeAhead_20 rfl ?_
        refine q_isub hx hb dX2_longestUnlikeAhead_21 ?_
        refine q_callV (k := 5) hx hb hml hl.1 hown hK hZ hP hS hal hkd rfl rfl (c_X2_colourAt l g base ad S o r (c - 1) hal hkd (by omega) (by omega)) t_313 t_314 (q_callB hK 312 24 315 t_312 t_24 t_315 f_yX2_colourAt ⟨by decide, by decide⟩) rfl rfl (Nat.le_of_ble_eq_true rfl) dX2_longestUnlikeAhead_22 ⟨by decide, by decide⟩  (q_an (fun H locs hP hS => ?_))
        refine lv_aload_n hx hb dX2_longestUnlikeAhead_25 rfl (lv_at hl 3 rfl) ?_
        refine lv_iload hx hb dX2_longestUnlikeAhead_26 (lv_at hl 0 rfl) ?_
        refine lv_iload_n hx hb dX2_longestUnlikeAhead_28 rfl (lv_at hl 4 rfl) ?_
        refine q_callV (k := 5) hx hb hml hl.1 hown hK hZ hP hS hal hkd rfl rfl (c_X2_colourAt l g base ad S o r c hal hkd (by omega) (by omega)) t_313 t_314 (q_callB hK 312 24 315 t_312 t_24 t_315 f_yX2_colourAt ⟨by decide, by decide⟩) rfl rfl (Nat.le_of_ble_eq_true rfl) dX2_longestUnlikeAhead_29 ⟨by decide, by decide⟩  (q_an (fun H locs hP hS => ?_))
        have J40 : ∀ (H : Heap) (locs : List Loc), pic g base ad S H → va_S (fun q => base ≤ q) s.heap H locs → W p l e ({ frames := 2, cells := 0, slots := 0, locals := 43 } : Room) s m av below meth cz H locs 0 0 Qm (F0 m 40 ls (Value.int (i32 (b2 (((S o 5 (r * 24 + (c - 1))) ≠ (S o 5 (r * 24 + c)))))) :: [])) := by
          intro H locs hP hS
          refine lv_istore (lv' := [(5, .int (i32 (b2 (((S o 5 (r * 24 + (c - 1))) ≠ (S o 5 (r * 24 + c))))))), (4, .int (i32 (r))), (3, .int (i32 (n))), (2, .int (i32 (a))), (0, .ref (ad o 0)), (1, .int (i32 (c)))]) hx hb dX2_longestUnlikeAhead_40 hl (by decide) rfl (fun ls hl => ?_)
          refine lv_iload hx hb dX2_longestUnlikeAhead_42 (lv_at hl 0 rfl) ?_
          have J54 : ∀ (b54 : Int) (H : Heap) (locs : List Loc), (((¬ (((S o 5 (r * 24 + (c - 1))) ≠ (S o 5 (r * 24 + c))))) ∧ b54 = 0) ∨ ((((S o 5 (r * 24 + (c - 1))) ≠ (S o 5 (r * 24 + c)))) ∧ b54 = n + 1)) → pic g base ad S H → va_S (fun q => base ≤ q) s.heap H locs → W p l e ({ frames := 2, cells := 0, slots := 0, locals := 43 } : Room) s m av below meth cz H locs 0 0 Qm (F0 m 54 ls (Value.int (i32 b54) :: [])) := by
            intro b54 H locs hb54 hP hS
            have e54 : b54 = rl (unC S o c) (r + 1).toNat := by
              rcases hb54 with ⟨h1, h2⟩ | ⟨h1, h2⟩
              · rw [h2, rl_f _ zr.1 (show ¬ unC S o c r from h1)]
              · rw [h2, rl_t _ zr.1 (show unC S o c r from h1), ← zn]
            have z54 := rl_b (unC S o c) (r + 1).toNat
            refine lv_istore_n (lv' := [(3, .int (i32 (b54))), (5, .int (i32 (b2 (((S o 5 (r * 24 + (c - 1))) ≠ (S o 5 (r * 24 + c))))))), (4, .int (i32 (r))), (2, .int (i32 (a))), (0, .ref (ad o 0)), (1, .int (i32 (c)))]) hx hb dX2_longestUnlikeAhead_54 rfl hl (by decide) rfl (fun ls hl => ?_)
            refine lv_iload_n hx hb dX2_longestUnlikeAhead_55 rfl (lv_at hl 3 rfl) ?_
            refine lv_iload_n hx hb dX2_longestUnlikeAhead_56 rfl (lv_at hl 0 rfl) ?_
            refine q_max hx hb hown hK hml hl.1 t_MXL316 ⟨by decide, Nat.le_of_ble_eq_true rfl⟩ (by decide) (by decide) ⟨by omega, by omega⟩ ⟨by omega, by omega⟩ dX2_longestUnlikeAhead_57 ?_
            refine lv_istore_n (lv' := [(2, .int (i32 (if a < b54 then b54 else a))), (3, .int (i32 (b54))), (5, .int (i32 (b2 (((S o 5 (r * 24 + (c - 1))) ≠ (S o 5 (r * 24 + c))))))), (4, .int (i32 (r))), (0, .ref (ad o 0)), (1, .int (i32 (c)))]) hx hb dX2_longestUnlikeAhead_60 rfl hl (by decide) rfl (fun ls hl => ?_)
            refine lv_iinc (v := i32 (r + 1)) (lv' := [(4, .int (i32 (r + 1))), (2, .int (i32 (if a < b54 then b54 else a))), (3, .int (i32 (b54))), (5, .int (i32 (b2 (((S o 5 (r * 24 + (c - 1))) ≠ (S o 5 (r * 24 + c))))))), (0, .ref (ad o 0)), (1, .int (i32 (c)))]) hx hb dX2_longestUnlikeAhead_61 hl (k := 3) rfl (i32_add _ _) (by decide) rfl (fun ls hl => ?_)
            refine lv_goto (tgt := 7) hx hb dX2_longestUnlikeAhead_64 (by decide) ?_
            exact ih7 (if a < b54 then b54 else a) b54 (r + 1) _ _ _ (by omega) (by exact e54) (by rw [mxl_s _ zr.1, ← za, ← e54]) (by omega) hP hS (lv_sub hl [0, 2, 1, 4, 5] rfl)
          refine q_if_eqb (tgt := 53) hx hb dX2_longestUnlikeAhead_44 (by decide) (fun c_2 => ?_) (fun c_2 => ?_)
          · -- ¬ (((S o 5 (r * 24 + (c - 1))) ≠ (S o 5 (r * 24 + c))))
            refine lv_iconst (v := i32 (0)) hx hb dX2_longestUnlikeAhead_53 rfl ?_
            exact J54 _ _ _ (by first | omega | (simp only [*]; done) | simp_all) hP hS
          · -- ((S o 5 (r * 24 + (c - 1))) ≠ (S o 5 (r * 24 + c)))
            refine lv_iload_n hx hb dX2_longestUnlikeAhead_47 rfl (lv_at hl 2 rfl) ?_
            refine lv_iconst (v := i32 (1)) hx hb dX2_longestUnlikeAhead_48 rfl ?_
            refine q_iadd hx hb dX2_longestUnlikeAhead_49 ?_
            refine lv_goto (tgt := 54) hx hb dX2_longestUnlikeAhead_50 (by decide) ?_
            exact J54 _ _ _ (by first | omega | (simp only [*]; done) | simp_all) hP hS
        refine q_icmp_eq (tgt := 39) hx hb (hP.rg _ _ _) (hP.rg _ _ _) dX2_longestUnlikeAhead_32 (by decide) (fun c_3 => ?_) (fun c_3 => ?_)
        · -- (S o 5 (r * 24 + (c - 1))) = (S o 5 (r * 24 + c))
          refine lv_iconst (v := i32 (0)) hx hb dX2_longestUnlikeAhead_39 rfl ?_
          refine q_nm (b2_f (show ¬ (((S o 5 (r * 24 + (c - 1))) ≠ (S o 5 (r * 24 + c)))) from by first | omega | (simp only [*]; done) | simp_all)).symm ?_
          exact J40 _ _ hP hS
        · -- (S o 5 (r * 24 + (c - 1))) ≠ (S o 5 (r * 24 + c))
          refine lv_iconst (v := i32 (1)) hx hb dX2_longestUnlikeAhead_35 rfl ?_
          refine lv_goto (tgt := 40) hx hb dX2_longestUnlikeAhead_36 (by decide) ?_
          refine q_nm (b2_t (show ((S o 5 (r * 24 + (c - 1))) ≠ (S o 5 (r * 24 + c))) from by first | omega | (simp only [*]; done) | simp_all)).symm ?_
          exact J40 _ _ hP hS
  exact L7 ((S o 0 1 - 0) + 1).toNat 0 0 0 _ _ _ (by omega) (by rfl) (by rfl) (by omega) hP hS (lv_sub hl [0, 1, 2, 3, 4] rfl)

set_option maxHeartbeats 4000000 in
set_option maxRecDepth 100000 in
theorem c_X2_hasSlitAhead (l : Launch) (g : GT) (base : Nat) (ad : Nat → Nat → Nat) (S : St) (o : Nat) (c : Int) (hal : S o 0 (-1) = 1) (hkd : kd o = 5) (hcc : 1 ≤ c ∧ c < 24) (hht : 0 ≤ S o 0 1 ∧ S o 0 1 ≤ 10) : Met l yX2_hasSlitAhead [Cond.code yX2_hasSlitAhead cX2_hasSlitAhead 2 (some FieldType.boolean)] ({ frames := 3, cells := 0, slots := 0, locals := 68 }) (va_Pc [.ref (ad o 0), .int (i32 (c))] (PK g base ad S)) (gQ g base (an (some (.int (i32 (b2 (slC S o c))))) ad S)) 0 0 (fun q => base ≤ q) := by
  refine mk_m (own := RX2) (lv0 := [(0, .ref (ad o 0)), (1, .int (i32 (c)))]) (by decide) rfl (Nat.le_of_ble_eq_true rfl) rfl ?_
  intro p e s m below meth cz av Qm hx hb hr hml hown hlocks hK hZ hP hQm ls hl
  have hS : va_S (fun q => base ≤ q) s.heap s.heap [] := va_S.rf
  have rS : ∀ (a1 b1 : Nat) (i1 : Int), rng (S a1 b1 i1) := fun a1 b1 i1 => hP.rg a1 b1 i1
  have z9 := mxl_b (unC S o c) (S o 0 1).toNat
  refine lv_aload_n hx hb dX2_hasSlitAhead_0 rfl (lv_at hl 0 rfl) ?_
  refine lv_iload_n hx hb dX2_hasSlitAhead_1 rfl (lv_at hl 1 rfl) ?_
  refine q_callV (k := 5) hx hb hml hl.1 hown hK hZ hP hS hal hkd rfl rfl (c_X2_isSewnAhead l g base ad S o c hal hkd (by omega)) t_305 t_2 (q_callB hK 303 24 307 t_303 t_24 t_307 f_yX2_isSewnAhead ⟨by decide, by decide⟩) rfl rfl (Nat.le_of_ble_eq_true rfl) dX2_hasSlitAhead_2 ⟨by decide, by decide⟩  (q_an (fun H locs hP hS => ?_))
  have J22 : ∀ (H : Heap) (locs : List Loc), pic g base ad S H → va_S (fun q => base ≤ q) s.heap H locs → W p l e ({ frames := 3, cells := 0, slots := 0, locals := 68 } : Room) s m av below meth cz H locs 0 0 Qm (F0 m 22 ls (Value.int (i32 (b2 ((¬ (S o 9 c ≠ 0)) ∧ (3 ≤ (mxl (unC S o c) (S o 0 1).toNat))))) :: [])) := by
    intro H locs hP hS
    refine q_nm (b2_c (show ((¬ (S o 9 c ≠ 0)) ∧ (3 ≤ (mxl (unC S o c) (S o 0 1).toNat))) ↔ (slC S o c) from by unfold slC; omega)) ?_
    subst hQm
    exact q_zret hx hb hr hlocks hP hS (b2_01 _) ⟨rfl, rfl, rfl⟩ (by decide) (by decide) dX2_hasSlitAhead_22
  refine q_if_neb (tgt := 21) hx hb dX2_hasSlitAhead_5 (by decide) (fun c_1 => ?_) (fun c_1 => ?_)
  · -- S o 9 c ≠ 0
    refine lv_iconst (v := i32 (0)) hx hb dX2_hasSlitAhead_21 rfl ?_
    refine q_nm (b2_f (show ¬ ((¬ (S o 9 c ≠ 0)) ∧ (3 ≤ (mxl (unC S o c) (S o 0 1).toNat))) from by first | omega | (simp only [*]; done) | simp_all)).symm ?_
    exact J22 _ _ hP hS
  · -- ¬ (S o 9 c ≠ 0)
    refine lv_aload_n hx hb dX2_hasSlitAhead_8 rfl (lv_at hl 0 rfl) ?_
    refine lv_iload_n hx hb dX2_hasSlitAhead_9 rfl (lv_at hl 1 rfl) ?_
    refine q_callV (k := 5) hx hb hml hl.1 hown hK hZ hP hS hal hkd rfl rfl (c_X2_longestUnlikeAhead l g base ad S o c hal hkd (by omega) (by omega)) t_310 t_3 (q_callB hK 308 24 311 t_308 t_24 t_311 f_yX2_longestUnlikeAhead ⟨by decide, by decide⟩) rfl rfl (Nat.le_of_ble_eq_true rfl) dX2_hasSlitAhead_10 ⟨by decide, by decide⟩  (q_an (fun H locs hP hS => ?_))
    refine lv_iconst (v := i32 (3)) hx hb dX2_hasSlitAhead_13 rfl ?_
    refine q_icmp_lt (tgt := 21) hx hb ⟨by omega, by omega⟩ ⟨by decide, by decide⟩ dX2_hasSlitAhead_14 (by decide) (fun c_2 => ?_) (fun c_2 => ?_)
    · -- (mxl (unC S o c) (S o 0 1).toNat) < 3
      refine lv_iconst (v := i32 (0)) hx hb dX2_hasSlitAhead_21 rfl ?_
      refine q_nm (b2_f (show ¬ ((¬ (S o 9 c ≠ 0)) ∧ (3 ≤ (mxl (unC S o c) (S o 0 1).toNat))) from by first | omega | (simp only [*]; done) | simp_all)).symm ?_
      exact J22 _ _ hP hS
    · -- 3 ≤ (mxl (unC S o c) (S o 0 1).toNat)
      refine lv_iconst (v := i32 (1)) hx hb dX2_hasSlitAhead_17 rfl ?_
      refine lv_goto (tgt := 22) hx hb dX2_hasSlitAhead_18 (by decide) ?_
      refine q_nm (b2_t (show (¬ (S o 9 c ≠ 0)) ∧ (3 ≤ (mxl (unC S o c) (S o 0 1).toNat)) from by first | omega | (simp only [*]; done) | simp_all)).symm ?_
      exact J22 _ _ hP hS

set_option maxHeartbeats 4000000 in
set_option maxRecDepth 100000 in
theorem c_X2_countSlits (l : Launch) (g : GT) (base : Nat) (ad : Nat → Nat → Nat) (S : St) (o : Nat)  (hal : S o 0 (-1) = 1) (hkd : kd o = 5) (hwd : 0 ≤ S o 0 0 ∧ S o 0 0 ≤ 24) (hht : 0 ≤ S o 0 1 ∧ S o 0 1 ≤ 10) : Met l yX2_countSlits [Cond.code yX2_countSlits cX2_countSlits 3 (some FieldType.int)] ({ frames := 4, cells := 0, slots := 0, locals := 89 }) (va_Pc [.ref (ad o 0)] (PK g base ad S)) (gQ g base (an (some (.int (i32 (snC S o)))) ad S)) 0 0 (fun q => base ≤ q) := by
  refine mk_m (own := RX2) (lv0 := [(0, .ref (ad o 0))]) (by decide) rfl (Nat.le_of_ble_eq_true rfl) rfl ?_
  intro p e s m below meth cz av Qm hx hb hr hml hown hlocks hK hZ hP hQm ls hl
  have hS : va_S (fun q => base ≤ q) s.heap s.heap [] := va_S.rf
  have rS : ∀ (a1 b1 : Nat) (i1 : Int), rng (S a1 b1 i1) := fun a1 b1 i1 => hP.rg a1 b1 i1
  refine lv_iconst (v := i32 (0)) hx hb dX2_countSlits_0 rfl ?_
  refine lv_istore_n (lv' := [(1, .int (i32 (0))), (0, .ref (ad o 0))]) hx hb dX2_countSlits_1 rfl hl (by decide) rfl (fun ls hl => ?_)
  refine lv_iconst (v := i32 (1)) hx hb dX2_countSlits_2 rfl ?_
  refine lv_istore_n (lv' := [(2, .int (i32 (1))), (1, .int (i32 (0))), (0, .ref (ad o 0))]) hx hb dX2_countSlits_3 rfl hl (by decide) rfl (fun ls hl => ?_)
  have L4 : ∀ (k : Nat) (n c : Int) (H : Heap) (locs : List Loc) (ls : Array Slot), (1 ≤ c ∧ (c ≤ S o 0 0 ∨ c = 1)) → (n = sm (fun i => b2 (slC S o (1 + i))) (c - 1).toNat) → (25 : Int) - c < (k : Int) → pic g base ad S H → va_S (fun q => base ≤ q) s.heap H locs → lv_has ls 3 [(2, .int (i32 (c))), (1, .int (i32 (n))), (0, .ref (ad o 0))] → W p l e ({ frames := 4, cells := 0, slots := 0, locals := 89 } : Room) s m av below meth cz H locs 0 0 Qm (F0 m 4 ls []) := by
    intro k
    induction k with
    | zero => intro n c H locs ls zc zn hmu _ _ _; exact absurd hmu (by omega)
    | succ k ih4 =>
      intro n c H locs ls zc zn hmu hP hS hl
      refine lv_iload_n hx hb dX2_countSlits_4 rfl (lv_at hl 0 rfl) ?_
      refine lv_aload_n hx hb dX2_countSlits_5 rfl (lv_at hl 2 rfl) ?_
      refine p_get (k := 5) hx hb hown hK hP hal hkd rfl rfl (lay_X2 hK) 0 460 (by decide) t_460 rfl rfl dX2_countSlits_6 ?_
      refine q_icmp_ge (tgt := 29) hx hb ⟨by omega, by omega⟩ (hP.rg _ _ _) dX2_countSlits_9 (by decide) (fun c_1 => ?_) (fun c_1 => ?_)
      · -- (S o 0 0) ≤ c
        refine lv_iload_n hx hb dX2_countSlits_29 rfl (lv_at hl 1 rfl) ?_
        refine q_nm (show (n : Int) = snC S o from by rw [zn]; unfold snC; congr 1; omega) ?_
        subst hQm
        exact q_iret hx hb hr hlocks hP hS ⟨rfl, rfl, rfl⟩ (by decide) (by decide) dX2_countSlits_30
      · -- c < (S o 0 0)
        refine lv_aload_n hx hb dX2_countSlits_12 rfl (lv_at hl 2 rfl) ?_
        refine lv_iload_n hx hb dX2_countSlits_13 rfl (lv_at hl 0 rfl) ?_
        refine q_callV (k := 5) hx hb hml hl.1 hown hK hZ hP hS hal hkd rfl rfl (c_X2_hasSlitAhead l g base ad S o c hal hkd (by omega) (by omega)) t_300 t_301 (q_callB hK 299 24 302 t_299 t_24 t_302 f_yX2_hasSlitAhead ⟨by decide, by decide⟩) rfl rfl (Nat.le_of_ble_eq_true rfl) dX2_countSlits_14 ⟨by decide, by decide⟩  (q_an (fun H locs hP hS => ?_))
        refine q_if_eqb (tgt := 23) hx hb dX2_countSlits_17 (by decide) (fun c_2 => ?_) (fun c_2 => ?_)
        · -- ¬ (slC S o c)
          refine lv_iinc (v := i32 (c + 1)) (lv' := [(2, .int (i32 (c + 1))), (1, .int (i32 (n))), (0, .ref (ad o 0))]) hx hb dX2_countSlits_23 hl (k := 0) rfl (i32_add _ _) (by decide) rfl (fun ls hl => ?_)
          refine lv_goto (tgt := 4) hx hb dX2_countSlits_26 (by decide) ?_
          exact ih4 n (c + 1) _ _ _ (by omega) (by rw [smo (F := fun i => b2 (slC S o i)) zc.1, ← zn]; rw [b2_f c_2]; omega) (by omega) hP hS (lv_sub hl [0, 1, 2] rfl)
        · -- slC S o c
          refine lv_iinc (v := i32 (n + 1)) (lv' := [(1, .int (i32 (n + 1))), (2, .int (i32 (c))), (0, .ref (ad o 0))]) hx hb dX2_countSlits_20 hl (k := 1) rfl (i32_add _ _) (by decide) rfl (fun ls hl => ?_)
          refine lv_iinc (v := i32 (c + 1)) (lv' := [(2, .int (i32 (c + 1))), (1, .int (i32 (n + 1))), (0, .ref (ad o 0))]) hx hb dX2_countSlits_23 hl (k := 1) rfl (i32_add _ _) (by decide) rfl (fun ls hl => ?_)
          refine lv_goto (tgt := 4) hx hb dX2_countSlits_26 (by decide) ?_
          exact ih4 (n + 1) (c + 1) _ _ _ (by omega) (by rw [smo (F := fun i => b2 (slC S o i)) zc.1, ← zn]; rw [b2_t c_2]) (by omega) hP hS (lv_sub hl [0, 1, 2] rfl)
  exact L4 (((25 : Int) - 1) + 1).toNat 0 1 _ _ _ (by omega) (by rfl) (by omega) hP hS (lv_sub hl [0, 1, 2] rfl)

set_option maxHeartbeats 4000000 in
set_option maxRecDepth 100000 in
theorem c_X2_countMatching (l : Launch) (g : GT) (base : Nat) (ad : Nat → Nat → Nat) (S : St) (o : Nat) (x : Nat) (hal : S o 0 (-1) = 1) (hkd : kd o = 5) (halx : S x 0 (-1) = 1) (hkd2 : kd x = 5) (hwd : 1 ≤ S o 0 0 ∧ S o 0 0 ≤ 24) (hht : 0 ≤ S o 0 1 ∧ S o 0 1 ≤ 10) : Met l yX2_countMatching [Cond.code yX2_countMatching cX2_countMatching 4 (some FieldType.int)] ({ frames := 2, cells := 0, slots := 0, locals := 43 }) (va_Pc [.ref (ad o 0), .ref (ad x 0)] (PK g base ad S)) (gQ g base (an (some (.int (i32 (mcC S o x)))) ad S)) 0 0 (fun q => base ≤ q) := by
  refine mk_m (own := RX2) (lv0 := [(0, .ref (ad o 0)), (1, .ref (ad x 0))]) (by decide) rfl (Nat.le_of_ble_eq_true rfl) rfl ?_
  intro p e s m below meth cz av Qm hx hb hr hml hown hlocks hK hZ hP hQm ls hl
  have hS : va_S (fun q => base ≤ q) s.heap s.heap [] := va_S.rf
  have rS : ∀ (a1 b1 : Nat) (i1 : Int), rng (S a1 b1 i1) := fun a1 b1 i1 => hP.rg a1 b1 i1
  refine lv_iconst (v := i32 (0)) hx hb dX2_countMatching_0 rfl ?_
  refine lv_istore_n (lv' := [(2, .int (i32 (0))), (0, .ref (ad o 0)), (1, .ref (ad x 0))]) hx hb dX2_countMatching_1 rfl hl (by decide) rfl (fun ls hl => ?_)
  refine lv_iconst (v := i32 (0)) hx hb dX2_countMatching_2 rfl ?_
  refine lv_istore_n (lv' := [(3, .int (i32 (0))), (2, .int (i32 (0))), (0, .ref (ad o 0)), (1, .ref (ad x 0))]) hx hb dX2_countMatching_3 rfl hl (by decide) rfl (fun ls hl => ?_)
  have L4 : ∀ (k : Nat) (n r : Int) (H : Heap) (locs : List Loc) (ls : Array Slot), (0 ≤ r ∧ r ≤ S o 0 1) → (n = sm (fun r => b2 (S o 6 (r * 24 + (S o 0 0 - 1)) = S x 6 (r * 24 + 0))) r.toNat) → S o 0 1 - r < (k : Int) → pic g base ad S H → va_S (fun q => base ≤ q) s.heap H locs → lv_has ls 4 [(3, .int (i32 (r))), (2, .int (i32 (n))), (0, .ref (ad o 0)), (1, .ref (ad x 0))] → W p l e ({ frames := 2, cells := 0, slots := 0, locals := 43 } : Room) s m av below meth cz H locs 0 0 Qm (F0 m 4 ls []) := by
    intro k
    induction k with
    | zero => intro n r H locs ls zr zn hmu _ _ _; exact absurd hmu (by omega)
    | succ k ih4 =>
      intro n r H locs ls zr zn hmu hP hS hl
      refine lv_iload_n hx hb dX2_countMatching_4 rfl (lv_at hl 0 rfl) ?_
      refine lv_aload_n hx hb dX2_countMatching_5 rfl (lv_at hl 2 rfl) ?_
      refine p_get (k := 5) hx hb hown hK hP hal hkd rfl rfl (lay_X2 hK) 1 461 (by decide) t_461 rfl rfl dX2_countMatching_6 ?_
      refine q_icmp_ge (tgt := 41) hx hb ⟨by omega, by omega⟩ (hP.rg _ _ _) dX2_countMatching_9 (by decide) (fun c_1 => ?_) (fun c_1 => ?_)
      · -- (S o 0 1) ≤ r
        refine lv_iload_n hx hb dX2_countMatching_41 rfl (lv_at hl 1 rfl) ?_
        refine q_nm (show (n : Int) = mcC S o x from by rw [zn, show r = S o 0 1 from by omega]; rfl) ?_
        subst hQm
        exact q_iret hx hb hr hlocks hP hS ⟨rfl, rfl, rfl⟩ (by decide) (by decide) dX2_countMatching_42
      · -- r < (S o 0 1)
        refine lv_aload_n hx hb dX2_countMatching_12 rfl (lv_at hl 2 rfl) ?_
        refine lv_iload_n hx hb dX2_countMatching_13 rfl (lv_at hl 0 rfl) ?_
        refine lv_aload_n hx hb dX2_countMatching_14 rfl (lv_at hl 2 rfl) ?_
        refine p_get (k := 5) hx hb hown hK hP hal hkd rfl rfl (lay_X2 hK) 0 460 (by decide) t_460 rfl rfl dX2_countMatching_15 ?_
        refine lv_iconst (v := i32 (1)) hx hb dX2_countMatching_18 rfl ?_
        refine q_isub hx hb dX2_countMatching_19 ?_
        refine q_callV (k := 5) hx hb hml hl.1 hown hK hZ hP hS hal hkd rfl rfl (c_X2_lotAt l g base ad S o r ((S o 0 0) - 1) hal hkd (by omega) (by omega)) t_99 t_100 (q_callB hK 98 24 101 t_98 t_24 t_101 f_yX2_lotAt ⟨by decide, by decide⟩) rfl rfl (Nat.le_of_ble_eq_true rfl) dX2_countMatching_20 ⟨by decide, by decide⟩  (q_an (fun H locs hP hS => ?_))
        refine lv_aload_n hx hb dX2_countMatching_23 rfl (lv_at hl 3 rfl) ?_
        refine lv_iload_n hx hb dX2_countMatching_24 rfl (lv_at hl 0 rfl) ?_
        refine lv_iconst (v := i32 (0)) hx hb dX2_countMatching_25 rfl ?_
        refine q_callV (k := 5) hx hb hml hl.1 hown hK hZ hP hS halx hkd2 rfl rfl (c_X2_lotAt l g base ad S x r 0 halx hkd2 (by omega) (by omega)) t_99 t_100 (q_callB hK 98 24 101 t_98 t_24 t_101 f_yX2_lotAt ⟨by decide, by decide⟩) rfl rfl (Nat.le_of_ble_eq_true rfl) dX2_countMatching_26 ⟨by decide, by decide⟩  (q_an (fun H locs hP hS => ?_))
        refine q_icmp_ne (tgt := 35) hx hb (hP.rg _ _ _) (hP.rg _ _ _) dX2_countMatching_29 (by decide) (fun c_2 => ?_) (fun c_2 => ?_)
        · -- (S o 6 (r * 24 + ((S o 0 0) - 1))) ≠ (S x 6 (r * 24 + 0))
          refine lv_iinc (v := i32 (r + 1)) (lv' := [(3, .int (i32 (r + 1))), (2, .int (i32 (n))), (0, .ref (ad o 0)), (1, .ref (ad x 0))]) hx hb dX2_countMatching_35 hl (k := 0) rfl (i32_add _ _) (by decide) rfl (fun ls hl => ?_)
          refine lv_goto (tgt := 4) hx hb dX2_countMatching_38 (by decide) ?_
          exact ih4 n (r + 1) _ _ _ (by omega) (by rw [sm_1 _ zr.1, ← zn]; rw [b2_f c_2]; omega) (by omega) hP hS (lv_sub hl [0, 1, 2, 3] rfl)
        · -- (S o 6 (r * 24 + ((S o 0 0) - 1))) = (S x 6 (r * 24 + 0))
          refine lv_iinc (v := i32 (n + 1)) (lv' := [(2, .int (i32 (n + 1))), (3, .int (i32 (r))), (0, .ref (ad o 0)), (1, .ref (ad x 0))]) hx hb dX2_countMatching_32 hl (k := 1) rfl (i32_add _ _) (by decide) rfl (fun ls hl => ?_)
          refine lv_iinc (v := i32 (r + 1)) (lv' := [(3, .int (i32 (r + 1))), (2, .int (i32 (n + 1))), (0, .ref (ad o 0)), (1, .ref (ad x 0))]) hx hb dX2_countMatching_35 hl (k := 1) rfl (i32_add _ _) (by decide) rfl (fun ls hl => ?_)
          refine lv_goto (tgt := 4) hx hb dX2_countMatching_38 (by decide) ?_
          exact ih4 (n + 1) (r + 1) _ _ _ (by omega) (by rw [sm_1 _ zr.1, ← zn]; rw [b2_t c_2]) (by omega) hP hS (lv_sub hl [0, 1, 2, 3] rfl)
  exact L4 ((S o 0 1 - 0) + 1).toNat 0 0 _ _ _ (by omega) (by rfl) (by omega) hP hS (lv_sub hl [0, 1, 2, 3] rfl)

set_option maxHeartbeats 4000000 in
set_option maxRecDepth 100000 in
theorem c_X2_fade (l : Launch) (g : GT) (base : Nat) (ad : Nat → Nat → Nat) (S : St) (o : Nat) (u : Int) (hal : S o 0 (-1) = 1) (hkd : kd o = 5) (halb : S 2 0 (-1) = 1) (hwd : 0 ≤ S o 0 0 ∧ S o 0 0 ≤ 24) (hht : 0 ≤ S o 0 1 ∧ S o 0 1 ≤ 10) (hct : 0 ≤ S 2 0 0 ∧ S 2 0 0 ≤ 20) (huu : 1 ≤ u ∧ u ≤ 9999) (hfd : ∀ j, 0 ≤ j → j < 20 → 0 ≤ S 2 5 j ∧ S 2 5 j ≤ 9) (hsh : ∀ j, 0 ≤ j → j < 240 → 0 ≤ S o 7 j ∧ S o 7 j ≤ 100) (hlt : ∀ r c, 0 ≤ r → r < S o 0 1 → 0 ≤ c → c < S o 0 0 → 0 ≤ S o 6 (r * 24 + c) ∧ S o 6 (r * 24 + c) < S 2 0 0) : Met l yX2_fade [Cond.code yX2_fade cX2_fade 5 (none : Option FieldType)] ({ frames := 3, cells := 0, slots := 0, locals := 66 }) (va_Pc [.ref (ad o 0), .int (i32 (u)), .ref (ad 2 0)] (PK g base ad S)) (gQ g base (an (none) ad (clF S o 7 (fdU S o u) (S o 0 0) (S o 0 1) 0))) 0 0 (fun q => base ≤ q) := by
  refine mk_m (own := RX2) (lv0 := [(0, .ref (ad o 0)), (1, .int (i32 (u))), (2, .ref (ad 2 0))]) (by decide) rfl (Nat.le_of_ble_eq_true rfl) rfl ?_
  intro p e s m below meth cz av Qm hx hb hr hml hown hlocks hK hZ hP hQm ls hl
  have hS : va_S (fun q => base ≤ q) s.heap s.heap [] := va_S.rf
  have rS : ∀ (a1 b1 : Nat) (i1 : Int), rng (S a1 b1 i1) := fun a1 b1 i1 => hP.rg a1 b1 i1
  refine lv_iconst (v := i32 (0)) hx hb dX2_fade_0 rfl ?_
  refine lv_istore_n (lv' := [(3, .int (i32 (0))), (0, .ref (ad o 0)), (1, .int (i32 (u))), (2, .ref (ad 2 0))]) hx hb dX2_fade_1 rfl hl (by decide) rfl (fun ls hl => ?_)
  have L2 : ∀ (k : Nat) (r : Int) (Sa : St) (H : Heap) (locs : List Loc) (ls : Array Slot), (0 ≤ r ∧ r ≤ S o 0 1) → (∀ (a1 b1 : Nat) (i1 : Int), Sa a1 b1 i1 = clF S o 7 (fdU S o u) (S o 0 0) r 0 a1 b1 i1) → S o 0 1 - r < (k : Int) → pic g base ad Sa H → va_S (fun q => base ≤ q) s.heap H locs → lv_has ls 5 [(3, .int (i32 (r))), (0, .ref (ad o 0)), (1, .int (i32 (u))), (2, .ref (ad 2 0))] → W p l e ({ frames := 3, cells := 0, slots := 0, locals := 66 } : Room) s m av below meth cz H locs 0 0 Qm (F0 m 2 ls []) := by
    intro k
    induction k with
    | zero => intro r Sa H locs ls zr zS hmu _ _ _; exact absurd hmu (by omega)
    | succ k ih2 =>
      intro r Sa H locs ls zr zS hmu hP hS hl
      have aSa_o : Sa o 0 (-1) = 1 := by rw [zS, clF_o (by decide)]; exact hal
      have aSa_2 : Sa 2 0 (-1) = 1 := by rw [zS, clF_o (by decide)]; exact halb
      have rSa : ∀ (a1 b1 : Nat) (i1 : Int), rng (Sa a1 b1 i1) := fun a1 b1 i1 => hP.rg a1 b1 i1
      refine lv_iload_n hx hb dX2_fade_2 rfl (lv_at hl 0 rfl) ?_
      refine lv_aload_n hx hb dX2_fade_3 rfl (lv_at hl 1 rfl) ?_
      refine p_get (k := 5) hx hb hown hK hP aSa_o hkd rfl rfl (lay_X2 hK) 1 461 (by decide) t_461 rfl rfl dX2_fade_4 ?_
      refine q_nm (show Sa o 0 1 = S o 0 1 from by rw [zS, clF_o (by decide)]) ?_
      refine q_icmp_ge (tgt := 57) hx hb ⟨by omega, by omega⟩ (rS _ _ _) dX2_fade_7 (by decide) (fun c_1 => ?_) (fun c_1 => ?_)
      · -- (S o 0 1) ≤ r
        subst hQm
        exact q_vret hx hb hr hlocks hP hS ⟨rfl, rfl, (by funext a1 b1 i1; rw [zS, show r = S o 0 1 from by omega])⟩ (by decide) (by decide) dX2_fade_57
      · -- r < (S o 0 1)
        refine lv_iconst (v := i32 (0)) hx hb dX2_fade_10 rfl ?_
        refine lv_istore (lv' := [(4, .int (i32 (0))), (3, .int (i32 (r))), (0, .ref (ad o 0)), (1, .int (i32 (u))), (2, .ref (ad 2 0))]) hx hb dX2_fade_11 hl (by decide) rfl (fun ls hl => ?_)
        have L13 : ∀ (k : Nat) (c : Int) (Sb : St) (H : Heap) (locs : List Loc) (ls : Array Slot), (0 ≤ c ∧ c ≤ S o 0 0) → (∀ (a1 b1 : Nat) (i1 : Int), Sb a1 b1 i1 = clF S o 7 (fdU S o u) (S o 0 0) r c a1 b1 i1) → S o 0 0 - c < (k : Int) → pic g base ad Sb H → va_S (fun q => base ≤ q) s.heap H locs → lv_has ls 5 [(4, .int (i32 (c))), (3, .int (i32 (r))), (0, .ref (ad o 0)), (1, .int (i32 (u))), (2, .ref (ad 2 0))] → W p l e ({ frames := 3, cells := 0, slots := 0, locals := 66 } : Room) s m av below meth cz H locs 0 0 Qm (F0 m 13 ls []) := by
          intro k
          induction k with
          | zero => intro c Sb H locs ls zc zT hmu _ _ _; exact absurd hmu (by omega)
          | succ k ih13 =>
            intro c Sb H locs ls zc zT hmu hP hS hl
            have aSb_o : Sb o 0 (-1) = 1 := by rw [zT, clF_o (by decide)]; exact hal
            have aSb_2 : Sb 2 0 (-1) = 1 := by rw [zT, clF_o (by decide)]; exact halb
            have rSb : ∀ (a1 b1 : Nat) (i1 : Int), rng (Sb a1 b1 i1) := fun a1 b1 i1 => hP.rg a1 b1 i1
            refine lv_iload hx hb dX2_fade_13 (lv_at hl 0 rfl) ?_
            refine lv_aload_n hx hb dX2_fade_15 rfl (lv_at hl 2 rfl) ?_
            refine p_get (k := 5) hx hb hown hK hP aSb_o hkd rfl rfl (lay_X2 hK) 0 460 (by decide) t_460 rfl rfl dX2_fade_16 ?_
            refine q_nm (show Sb o 0 0 = S o 0 0 from by rw [zT, clF_o (by decide)]) ?_
            refine q_icmp_ge (tgt := 51) hx hb ⟨by omega, by omega⟩ (rS _ _ _) dX2_fade_19 (by decide) (fun c_2 => ?_) (fun c_2 => ?_)
            · -- (S o 0 0) ≤ c
              refine lv_iinc (v := i32 (r + 1)) (lv' := [(3, .int (i32 (r + 1))), (4, .int (i32 (c))), (0, .ref (ad o 0)), (1, .int (i32 (u))), (2, .ref (ad 2 0))]) hx hb dX2_fade_51 hl (k := 1) rfl (i32_add _ _) (by decide) rfl (fun ls hl => ?_)
              refine lv_goto (tgt := 2) hx hb dX2_fade_54 (by decide) ?_
              exact ih2 (r + 1) Sb _ _ _ (by omega) (by exact cl_n zT (by omega)) (by omega) hP hS (lv_sub hl [0, 2, 3, 4] rfl)
            · -- c < (S o 0 0)
              refine lv_aload_n hx hb dX2_fade_22 rfl (lv_at hl 2 rfl) ?_
              refine lv_iload_n hx hb dX2_fade_23 rfl (lv_at hl 1 rfl) ?_
              refine lv_iload hx hb dX2_fade_24 (lv_at hl 0 rfl) ?_
              refine lv_iload_n hx hb dX2_fade_26 rfl (lv_at hl 3 rfl) ?_
              refine lv_aload_n hx hb dX2_fade_27 rfl (lv_at hl 4 rfl) ?_
              refine lv_aload_n hx hb dX2_fade_28 rfl (lv_at hl 2 rfl) ?_
              refine lv_iload_n hx hb dX2_fade_29 rfl (lv_at hl 1 rfl) ?_
              refine lv_iload hx hb dX2_fade_30 (lv_at hl 0 rfl) ?_
              refine q_callV (k := 5) hx hb hml hl.1 hown hK hZ hP hS aSb_o hkd rfl rfl (c_X2_lotAt l g base ad Sb o r c aSb_o hkd (by omega) (by omega)) t_99 t_100 (q_callB hK 98 24 101 t_98 t_24 t_101 f_yX2_lotAt ⟨by decide, by decide⟩) rfl rfl (Nat.le_of_ble_eq_true rfl) dX2_fade_32 ⟨by decide, by decide⟩  (q_an (fun H locs hP hS => ?_))
              refine q_nm (show Sb o 6 (r * 24 + c) = S o 6 (r * 24 + c) from by rw [zT, clF_o (by decide)]) ?_
              refine q_callV (k := 2) hx hb hml hl.1 hown hK hZ hP hS aSb_2 rfl rfl rfl (c_X1_fadeOf l g base ad Sb (S o 6 (r * 24 + c)) aSb_2 (by have := hlt r c (by omega) (by omega) (by omega) (by omega); omega)) t_703 t_704 (q_callB hK 702 16 705 t_702 t_16 t_705 f_yX1_fadeOf ⟨by decide, by decide⟩) rfl rfl (Nat.le_of_ble_eq_true rfl) dX2_fade_35 ⟨by decide, by decide⟩  (q_an (fun H locs hP hS => ?_))
              refine q_nm (show Sb 2 5 (S o 6 (r * 24 + c)) = S 2 5 (S o 6 (r * 24 + c)) from by rw [zT, clF_o (by decide)]) ?_
              obtain ⟨z1, z2⟩ := hlt r c (by omega) (by omega) (by omega) (by omega)
              obtain ⟨z3, z4⟩ := hfd (S o 6 (r * 24 + c)) (by omega) (by omega)
              have z5 := Int.mul_nonneg (show 0 ≤ u by omega) z3
              have z6 := Int.mul_le_mul (show u ≤ 9999 by omega) z4 z3 (by decide : (0 : Int) ≤ 9999)
              have z7 : Sb o 7 (r * 24 + c) = S o 7 (r * 24 + c) := by rw [zT, cl_v (by omega)]
              obtain ⟨z8, z9⟩ := hsh (r * 24 + c) (by omega) (by omega)
              refine q_imul hx hb dX2_fade_38 ?_
              refine lv_bipush (v := i32 (100)) hx hb dX2_fade_39 (by decide) ?_
              refine q_idiv hx hb (by omega) (by omega) (by omega) (by omega) dX2_fade_41 ?_
              refine q_callV (k := 5) hx hb hml hl.1 hown hK hZ hP hS aSb_o hkd rfl rfl (c_X2_dim l g base ad Sb o r c ((u * (S 2 5 (S o 6 (r * 24 + c)))) / 100) aSb_o hkd (by omega) (by omega) (by omega) (by omega)) t_652 t_13 (q_callB hK 650 24 653 t_650 t_24 t_653 f_yX2_dim ⟨by decide, by decide⟩) rfl rfl (Nat.le_of_ble_eq_true rfl) dX2_fade_42 ⟨by decide, by decide⟩  (q_an (fun H locs hP hS => ?_))
              generalize eS3 : st Sb o 7 (r * 24 + c) (mx0 (Sb o 7 (r * 24 + c) - ((u * (S 2 5 (S o 6 (r * 24 + c)))) / 100))) = S3 at hP
              have rS3 : ∀ (a1 b1 : Nat) (i1 : Int), rng (S3 a1 b1 i1) := fun a1 b1 i1 => hP.rg a1 b1 i1
              have qS3 : ∀ (a1 b1 : Nat) (i1 : Int), S3 a1 b1 i1 = if a1 = o ∧ b1 = 7 ∧ i1 = r * 24 + c then mx0 (Sb o 7 (r * 24 + c) - ((u * (S 2 5 (S o 6 (r * 24 + c)))) / 100)) else Sb a1 b1 i1 := fun a1 b1 i1 => by rw [← eS3]; exact st_at _ _ _ _ _ _ _ _
              have aS3_o : S3 o 0 (-1) = 1 := by rw [qS3, if_neg (by omega)]; exact aSb_o
              have aS3_2 : S3 2 0 (-1) = 1 := by rw [qS3, if_neg (by omega)]; exact aSb_2
              refine lv_iinc (v := i32 (c + 1)) (lv' := [(4, .int (i32 (c + 1))), (3, .int (i32 (r))), (0, .ref (ad o 0)), (1, .int (i32 (u))), (2, .ref (ad 2 0))]) hx hb dX2_fade_45 hl (k := 0) rfl (i32_add _ _) (by decide) rfl (fun ls hl => ?_)
              refine lv_goto (tgt := 13) hx hb dX2_fade_48 (by decide) ?_
              exact ih13 (c + 1) S3 _ _ _ (by omega) (by exact cl_s zT zr.1 (by omega) (fun a b i => by rw [qS3 a b i, z7]; rfl)) (by omega) hP hS (lv_sub hl [0, 1, 2, 3, 4] rfl)
        exact L13 ((S o 0 0 - 0) + 1).toNat 0 Sa _ _ _ (by omega) (by exact zS) (by omega) hP hS (lv_sub hl [0, 1, 2, 3, 4] rfl)
  exact L2 ((S o 0 1 - 0) + 1).toNat 0 S _ _ _ (by omega) (by exact cl_0 S o 7 _ _) (by omega) hP hS (lv_sub hl [0, 1, 2, 3] rfl)

set_option maxHeartbeats 4000000 in
set_option maxRecDepth 100000 in
theorem c_X2_addThreadsTo (l : Launch) (g : GT) (base : Nat) (ad : Nat → Nat → Nat) (S : St) (o : Nat)  (hal : S o 0 (-1) = 1) (hkd : kd o = 5) (halc : S 1 0 (-1) = 1) (hwd : 0 ≤ S o 0 0 ∧ S o 0 0 ≤ 24) (hht : 0 ≤ S o 0 1 ∧ S o 0 1 ≤ 10) (hth : ∀ j, 0 ≤ j → j < 20 → 0 ≤ S 1 8 j ∧ S 1 8 j ≤ 1000000) : Met l yX2_addThreadsTo [Cond.code yX2_addThreadsTo cX2_addThreadsTo 5 (none : Option FieldType)] ({ frames := 2, cells := 0, slots := 0, locals := 43 }) (va_Pc [.ref (ad o 0), .ref (ad 1 8)] (PK g base ad S)) (gQ g base (an (none) ad (atF S o (S o 0 1) 0))) 0 0 (fun q => base ≤ q) := by
  refine mk_m (own := RX2) (lv0 := [(0, .ref (ad o 0)), (1, .ref (ad 1 8))]) (by decide) rfl (Nat.le_of_ble_eq_true rfl) rfl ?_
  intro p e s m below meth cz av Qm hx hb hr hml hown hlocks hK hZ hP hQm ls hl
  have hS : va_S (fun q => base ≤ q) s.heap s.heap [] := va_S.rf
  have rS : ∀ (a1 b1 : Nat) (i1 : Int), rng (S a1 b1 i1) := fun a1 b1 i1 => hP.rg a1 b1 i1
  refine lv_iconst (v := i32 (0)) hx hb dX2_addThreadsTo_0 rfl ?_
  refine lv_istore_n (lv' := [(2, .int (i32 (0))), (0, .ref (ad o 0)), (1, .ref (ad 1 8))]) hx hb dX2_addThreadsTo_1 rfl hl (by decide) rfl (fun ls hl => ?_)
  have L2 : ∀ (k : Nat) (r : Int) (Sa : St) (H : Heap) (locs : List Loc) (ls : Array Slot), (0 ≤ r ∧ r ≤ S o 0 1) → (∀ (a1 b1 : Nat) (i1 : Int), Sa a1 b1 i1 = atF S o r 0 a1 b1 i1) → S o 0 1 - r < (k : Int) → pic g base ad Sa H → va_S (fun q => base ≤ q) s.heap H locs → lv_has ls 5 [(2, .int (i32 (r))), (0, .ref (ad o 0)), (1, .ref (ad 1 8))] → W p l e ({ frames := 2, cells := 0, slots := 0, locals := 43 } : Room) s m av below meth cz H locs 0 0 Qm (F0 m 2 ls []) := by
    intro k
    induction k with
    | zero => intro r Sa H locs ls zr zS hmu _ _ _; exact absurd hmu (by omega)
    | succ k ih2 =>
      intro r Sa H locs ls zr zS hmu hP hS hl
      have aSa_o : Sa o 0 (-1) = 1 := by rw [zS, atF_o (by omega)]; exact hal
      have aSa_1 : Sa 1 0 (-1) = 1 := by rw [zS, atF_o (by omega)]; exact halc
      have rSa : ∀ (a1 b1 : Nat) (i1 : Int), rng (Sa a1 b1 i1) := fun a1 b1 i1 => hP.rg a1 b1 i1
      refine lv_iload_n hx hb dX2_addThreadsTo_2 rfl (lv_at hl 0 rfl) ?_
      refine lv_aload_n hx hb dX2_addThreadsTo_3 rfl (lv_at hl 1 rfl) ?_
      refine p_get (k := 5) hx hb hown hK hP aSa_o hkd rfl rfl (lay_X2 hK) 1 461 (by decide) t_461 rfl rfl dX2_addThreadsTo_4 ?_
      refine q_nm (show Sa o 0 1 = S o 0 1 from by rw [zS, atF_o (by omega)]) ?_
      refine q_icmp_ge (tgt := 54) hx hb ⟨by omega, by omega⟩ (rS _ _ _) dX2_addThreadsTo_7 (by decide) (fun c_1 => ?_) (fun c_1 => ?_)
      · -- (S o 0 1) ≤ r
        subst hQm
        exact q_vret hx hb hr hlocks hP hS ⟨rfl, rfl, (by funext a1 b1 i1; rw [zS, show r = S o 0 1 from by omega])⟩ (by decide) (by decide) dX2_addThreadsTo_54
      · -- r < (S o 0 1)
        refine lv_iconst (v := i32 (0)) hx hb dX2_addThreadsTo_10 rfl ?_
        refine lv_istore_n (lv' := [(3, .int (i32 (0))), (2, .int (i32 (r))), (0, .ref (ad o 0)), (1, .ref (ad 1 8))]) hx hb dX2_addThreadsTo_11 rfl hl (by decide) rfl (fun ls hl => ?_)
        have L12 : ∀ (k : Nat) (c : Int) (Sb : St) (H : Heap) (locs : List Loc) (ls : Array Slot), (0 ≤ c ∧ c ≤ S o 0 0) → (∀ (a1 b1 : Nat) (i1 : Int), Sb a1 b1 i1 = atF S o r c a1 b1 i1) → S o 0 0 - c < (k : Int) → pic g base ad Sb H → va_S (fun q => base ≤ q) s.heap H locs → lv_has ls 5 [(3, .int (i32 (c))), (2, .int (i32 (r))), (0, .ref (ad o 0)), (1, .ref (ad 1 8))] → W p l e ({ frames := 2, cells := 0, slots := 0, locals := 43 } : Room) s m av below meth cz H locs 0 0 Qm (F0 m 12 ls []) := by
          intro k
          induction k with
          | zero => intro c Sb H locs ls zc zT hmu _ _ _; exact absurd hmu (by omega)
          | succ k ih12 =>
            intro c Sb H locs ls zc zT hmu hP hS hl
            have aSb_o : Sb o 0 (-1) = 1 := by rw [zT, atF_o (by omega)]; exact hal
            have aSb_1 : Sb 1 0 (-1) = 1 := by rw [zT, atF_o (by omega)]; exact halc
            have rSb : ∀ (a1 b1 : Nat) (i1 : Int), rng (Sb a1 b1 i1) := fun a1 b1 i1 => hP.rg a1 b1 i1
            refine lv_iload_n hx hb dX2_addThreadsTo_12 rfl (lv_at hl 0 rfl) ?_
            refine lv_aload_n hx hb dX2_addThreadsTo_13 rfl (lv_at hl 2 rfl) ?_
            refine p_get (k := 5) hx hb hown hK hP aSb_o hkd rfl rfl (lay_X2 hK) 0 460 (by decide) t_460 rfl rfl dX2_addThreadsTo_14 ?_
            refine q_nm (show Sb o 0 0 = S o 0 0 from by rw [zT, atF_o (by omega)]) ?_
            refine q_icmp_ge (tgt := 48) hx hb ⟨by omega, by omega⟩ (rS _ _ _) dX2_addThreadsTo_17 (by decide) (fun c_2 => ?_) (fun c_2 => ?_)
            · -- (S o 0 0) ≤ c
              refine lv_iinc (v := i32 (r + 1)) (lv' := [(2, .int (i32 (r + 1))), (3, .int (i32 (c))), (0, .ref (ad o 0)), (1, .ref (ad 1 8))]) hx hb dX2_addThreadsTo_48 hl (k := 1) rfl (i32_add _ _) (by decide) rfl (fun ls hl => ?_)
              refine lv_goto (tgt := 2) hx hb dX2_addThreadsTo_51 (by decide) ?_
              exact ih2 (r + 1) Sb _ _ _ (by omega) (by exact at_n zT zr.1 (by omega)) (by omega) hP hS (lv_sub hl [0, 2, 3] rfl)
            · -- c < (S o 0 0)
              refine lv_aload_n hx hb dX2_addThreadsTo_20 rfl (lv_at hl 2 rfl) ?_
              refine lv_iload_n hx hb dX2_addThreadsTo_21 rfl (lv_at hl 1 rfl) ?_
              refine lv_iload_n hx hb dX2_addThreadsTo_22 rfl (lv_at hl 0 rfl) ?_
              refine q_callV (k := 5) hx hb hml hl.1 hown hK hZ hP hS aSb_o hkd rfl rfl (c_X2_lotAt l g base ad Sb o r c aSb_o hkd (by omega) (by omega)) t_99 t_100 (q_callB hK 98 24 101 t_98 t_24 t_101 f_yX2_lotAt ⟨by decide, by decide⟩) rfl rfl (Nat.le_of_ble_eq_true rfl) dX2_addThreadsTo_23 ⟨by decide, by decide⟩  (q_an (fun H locs hP hS => ?_))
              refine q_nm (show Sb o 6 (r * 24 + c) = S o 6 (r * 24 + c) from by rw [zT, atF_o (by omega)]) ?_
              refine lv_istore (lv' := [(4, .int (i32 (S o 6 (r * 24 + c)))), (3, .int (i32 (c))), (2, .int (i32 (r))), (0, .ref (ad o 0)), (1, .ref (ad 1 8))]) hx hb dX2_addThreadsTo_26 hl (by decide) rfl (fun ls hl => ?_)
              refine lv_aload_n hx hb dX2_addThreadsTo_28 rfl (lv_at hl 4 rfl) ?_
              refine lv_iload hx hb dX2_addThreadsTo_29 (lv_at hl 0 rfl) ?_
              refine lv_aload_n hx hb dX2_addThreadsTo_31 rfl (lv_at hl 4 rfl) ?_
              refine lv_iload hx hb dX2_addThreadsTo_32 (lv_at hl 0 rfl) ?_
              refine q_callN hx hb hml hl.1 hown hK hZ hP hS (c_X3_valueAt l g base ad Sb 1 8 1 20 (S o 6 (r * 24 + c)) aSb_1 rfl rfl (by omega) (by omega) (rS _ _ _)) t_105 t_15 t_107 t_106 f_yX3_valueAt ⟨by decide, by decide⟩ rfl rfl (Nat.le_of_ble_eq_true rfl) dX2_addThreadsTo_34 ⟨by decide, by decide⟩ (q_an (fun H locs hP hS => ?_))
              refine lv_iconst (v := i32 (1)) hx hb dX2_addThreadsTo_37 rfl ?_
              refine q_iadd hx hb dX2_addThreadsTo_38 ?_
              refine q_callN hx hb hml hl.1 hown hK hZ hP hS (c_X3_setAt l g base ad Sb 1 8 1 20 (S o 6 (r * 24 + c)) ((vA Sb 1 8 20 (S o 6 (r * 24 + c))) + 1) aSb_1 rfl rfl (by omega) (by omega) (rS _ _ _) (vA_r rSb 1 8 20 _ 1000300 ⟨by decide, by decide⟩ (fun j h0 h1 => by rw [zT]; unfold atF; rw [if_pos ⟨rfl, rfl, h0, h1⟩]; have := hth j h0 h1; have := atN_b S o r c j hwd (by omega) (by omega); omega))) t_108 t_15 t_110 t_109 f_yX3_setAt ⟨by decide, by decide⟩ rfl rfl (Nat.le_of_ble_eq_true rfl) dX2_addThreadsTo_39 ⟨by decide, by decide⟩ (q_an (fun H locs hP hS => ?_))
              generalize eS3 : sA Sb 1 8 20 (S o 6 (r * 24 + c)) ((vA Sb 1 8 20 (S o 6 (r * 24 + c))) + 1) = S3 at hP
              have rS3 : ∀ (a1 b1 : Nat) (i1 : Int), rng (S3 a1 b1 i1) := fun a1 b1 i1 => hP.rg a1 b1 i1
              refine lv_iinc (v := i32 (c + 1)) (lv' := [(3, .int (i32 (c + 1))), (4, .int (i32 (S o 6 (r * 24 + c)))), (2, .int (i32 (r))), (0, .ref (ad o 0)), (1, .ref (ad 1 8))]) hx hb dX2_addThreadsTo_42 hl (k := 1) rfl (i32_add _ _) (by decide) rfl (fun ls hl => ?_)
              refine lv_goto (tgt := 12) hx hb dX2_addThreadsTo_45 (by decide) ?_
              exact ih12 (c + 1) S3 _ _ _ (by omega) (by exact at_s zT zc.1 (by rw [← eS3])) (by omega) hP hS (lv_sub hl [0, 2, 3, 4] rfl)
        exact L12 ((S o 0 0 - 0) + 1).toNat 0 Sa _ _ _ (by omega) (by exact zS) (by omega) hP hS (lv_sub hl [0, 1, 2, 3] rfl)
  exact L2 ((S o 0 1 - 0) + 1).toNat 0 S _ _ _ (by omega) (by exact at_0 S o) (by omega) hP hS (lv_sub hl [0, 1, 2] rfl)
