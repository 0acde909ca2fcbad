set_option maxHeartbeats 4000000 in
set_option maxRecDepth 100000 in
theorem c_X3_type (l : Launch) (g : GT) (base : Nat) (ad : Nat → Nat → Nat) (S : St) (z : Int) (hfl : l.stackTraces = false) (hwc : wC S) (hrn : rng z) : vx_Met l yX3_type [Cond.code yX3_type cX3_type 3 (some FieldType.int)] ({ frames := 6, cells := 1, slots := 6, locals := 90 }) (va_Pc [.ref (ad 1 0), .int (i32 (z))] (PK g base ad S)) (gQ g base (fun rr9 ad9 S9 => ((sg z ≠ -1) ∧ (S 1 0 1 < 12) ∧ (True)) ∧ an (some (.int (i32 (S 1 0 1 + 1)))) ad (st (st S 1 1 (S 1 0 1) (sg z)) 1 0 1 (S 1 0 1 + 1)) rr9 ad9 S9)) (xQ g base ad S (fun E => t3 eA eS "" (sg z ≠ -1) (S 1 0 1 < 12) (True) E)) 1 6 (fun q => base ≤ q) := by
  refine mk_mx (own := RX3) (lv0 := [(0, .ref (ad 1 0)), (1, .int (i32 (z)))]) (by decide) rfl (Nat.le_of_ble_eq_true rfl) rfl ?_
  intro p e s m below meth cz av Qm hx hb hr hml hown hlocks hout hK hZ hP hQm ls hl
  have hS : va_S (fun q => base ≤ q) s.heap s.heap [] := va_S.rf
  have rS : ∀ (a1 b1 : Nat) (i1 : Int), rng (S a1 b1 i1) := fun a1 b1 i1 => hP.rg a1 b1 i1
  obtain ⟨hwl1, hwl2⟩ := hwc.wl
  refine lv_iload_n hx hb dX3_type_0 rfl (lv_at hl 1 rfl) ?_
  refine q_callS hx hb hml hl.1 hown hK hZ hP hS (c_X3_signOf l g base ad S z hrn) t_395 (q_callB hK 394 15 396 t_394 t_15 t_396 f_yX3_signOf ⟨by decide, by decide⟩) rfl rfl (Nat.le_of_ble_eq_true rfl) dX3_type_1 ⟨by decide, by decide⟩  (q_an (fun H locs hP hS => ?_))
  refine lv_istore_n (lv' := [(2, .int (i32 (sg z))), (0, .ref (ad 1 0)), (1, .int (i32 (z)))]) hx hb dX3_type_4 rfl hl (by decide) rfl (fun ls hl => ?_)
  refine lv_iload_n hx hb dX3_type_5 rfl (lv_at hl 0 rfl) ?_
  refine lv_iconst (v := i32 (-1)) hx hb dX3_type_6 rfl ?_
  refine q_icmp_ne (tgt := 20) hx hb (sg_rng z) ⟨by decide, by decide⟩ dX3_type_7 (by decide) (fun c_1 => ?_) (fun c_1 => ?_)
  · -- (sg z) ≠ (-1)
    refine lv_aload_n hx hb dX3_type_20 rfl (lv_at hl 1 rfl) ?_
    refine p_get (k := 1) hx hb hown hK hP hwc.h1 rfl rfl rfl (lay_X3 hK) 1 66 (by decide) t_66 rfl rfl dX3_type_21 ?_
    refine lv_bipush (v := i32 (12)) hx hb dX3_type_24 (by decide) ?_
    refine q_icmp_lt (tgt := 39) hx hb (hP.rg _ _ _) ⟨by decide, by decide⟩ dX3_type_26 (by decide) (fun c_2 => ?_) (fun c_2 => ?_)
    · -- (S 1 0 1) < 12
      refine lv_aload_n hx hb dX3_type_39 rfl (lv_at hl 1 rfl) ?_
      refine p_get (k := 1) hx hb hown hK hP hwc.h1 rfl rfl rfl (lay_X3 hK) 0 65 (by decide) t_65 rfl rfl dX3_type_40 ?_
      refine lv_aload_n hx hb dX3_type_43 rfl (lv_at hl 1 rfl) ?_
      refine p_get (k := 1) hx hb hown hK hP hwc.h1 rfl rfl rfl (lay_X3 hK) 1 66 (by decide) t_66 rfl rfl dX3_type_44 ?_
      refine lv_iload_n hx hb dX3_type_47 rfl (lv_at hl 0 rfl) ?_
      refine q_callS hx hb hml hl.1 hown hK hZ hP hS (c_X3_setAt l g base ad S 1 1 1 12 (S 1 0 1) (sg z) hwc.h1 rfl rfl (by omega) (by omega) (hP.rg _ _ _) (sg_rng z)) t_109 (q_callB hK 399 15 110 t_399 t_15 t_110 f_yX3_setAt ⟨by decide, by decide⟩) rfl rfl (Nat.le_of_ble_eq_true rfl) dX3_type_48 ⟨by decide, by decide⟩  (q_an (fun H locs hP hS => ?_))
      rw [sA_in (by omega) (by omega)] at hP
      generalize eS3 : st S 1 1 (S 1 0 1) (sg z) = S3 at hP
      have qS3 : ∀ (a1 b1 : Nat) (i1 : Int), S3 a1 b1 i1 = if a1 = 1 ∧ b1 = 1 ∧ i1 = S 1 0 1 then sg z else S a1 b1 i1 := fun a1 b1 i1 => by rw [← eS3]; exact st_at _ _ _ _ _ _ _ _
      have rS3 : ∀ (a1 b1 : Nat) (i1 : Int), rng (S3 a1 b1 i1) := fun a1 b1 i1 => hP.rg a1 b1 i1
      have aS3_1 : S3 1 0 (-1) = 1 := by rw [qS3, if_neg (by omega)]; exact hwc.h1
      have aS3_2 : S3 2 0 (-1) = 1 := by rw [qS3, if_neg (by omega)]; exact hwc.h2
      refine lv_aload_n hx hb dX3_type_51 rfl (lv_at hl 1 rfl) ?_
      refine lv_dup hx hb dX3_type_52 rfl ?_
      refine p_get (k := 1) hx hb hown hK hP aS3_1 rfl rfl rfl (lay_X3 hK) 1 66 (by decide) t_66 rfl rfl dX3_type_53 ?_
      refine q_nm (show S3 1 0 1 = S 1 0 1 from by rw [qS3, if_neg (by omega)]) ?_
      refine lv_iconst (v := i32 (1)) hx hb dX3_type_56 rfl ?_
      refine q_iadd hx hb dX3_type_57 ?_
      refine p_put (k := 1) hx hb hown hK hP hS aS3_1 rfl rfl rfl (lay_X3 hK) tyX3 tyX3_ok nmX3 1 66 (by decide) t_66 rfl rfl (by decide +kernel) ⟨by omega, by omega⟩ (Nat.le_of_ble_eq_true rfl) (set_1_1 _ _ _ _) dX3_type_58 (fun H locs hP hS => ?_)
      generalize eS4 : st S3 1 0 1 ((S 1 0 1) + 1) = S4 at hP
      have qS4 : ∀ (a1 b1 : Nat) (i1 : Int), S4 a1 b1 i1 = if a1 = 1 ∧ b1 = 0 ∧ i1 = 1 then (S 1 0 1) + 1 else S3 a1 b1 i1 := fun a1 b1 i1 => by rw [← eS4]; exact st_at _ _ _ _ _ _ _ _
      have rS4 : ∀ (a1 b1 : Nat) (i1 : Int), rng (S4 a1 b1 i1) := fun a1 b1 i1 => hP.rg a1 b1 i1
      have aS4_1 : S4 1 0 (-1) = 1 := by rw [qS4, if_neg (by omega)]; exact aS3_1
      have aS4_2 : S4 2 0 (-1) = 1 := by rw [qS4, if_neg (by omega)]; exact aS3_2
      refine lv_aload_n hx hb dX3_type_61 rfl (lv_at hl 1 rfl) ?_
      refine p_get (k := 1) hx hb hown hK hP aS4_1 rfl rfl rfl (lay_X3 hK) 1 66 (by decide) t_66 rfl rfl dX3_type_62 ?_
      refine q_nm (show S4 1 0 1 = (S 1 0 1) + 1 from by rw [qS4, if_pos ⟨rfl, rfl, rfl⟩]) ?_
      refine q_nm (show ((S 1 0 1) + 1 : Int) = S 1 0 1 + 1 from by omega) ?_
      subst hQm
      refine vx_ret ?_
      exact q_iret hx hb hr hlocks hP hS ⟨(by refine ⟨?_, ?_, ?_⟩ <;> first | trivial | assumption | omega | exact ⟨by assumption, by omega⟩ | exact ⟨by assumption, by assumption⟩ | exact ⟨by assumption, by omega, by omega⟩ | exact ⟨by assumption, by omega, by omega, by omega, by omega⟩ | exact ⟨by assumption, by assumption, by omega⟩), ⟨rfl, rfl, (by rw [← eS4, ← eS3])⟩⟩ (by decide) (by decide) dX3_type_65
    · -- 12 ≤ (S 1 0 1)
      subst hQm
      exact q_throw hx hb hfl hml hl.1 hown hK hZ (by decide) t_227 t_21 t_398 (at_S hK) ao_S hP hS dX3_type_29 dX3_type_32 dX3_type_33 dX3_type_35 dX3_type_38 hout (by decide) (by decide) (by decide) (by decide) hlocks (by exact Or.inr (Or.inl ⟨rfl, by first | trivial | assumption | omega | exact ⟨by assumption, by omega⟩ | exact ⟨by assumption, by assumption⟩ | exact ⟨by assumption, by omega, by omega⟩ | exact ⟨by assumption, by omega, by omega, by omega, by omega⟩ | exact ⟨by assumption, by assumption, by omega⟩, by first | omega | (intro y; omega) | (intro y; have := y.1; omega) | (intro y; have := y.2; omega) | (intro y; exact absurd y.1 (by assumption)) | (intro y; exact absurd y.2 (by assumption)) | (intro y; have := y.2.1; omega)| (intro y; exact absurd y.2.1 (by assumption))| (intro y; exact absurd y.2.2 (by assumption)) | (intro y; exact absurd y (by assumption))⟩)) (by decide) (by decide)
  · -- (sg z) = (-1)
    subst hQm
    exact q_throw hx hb hfl hml hl.1 hown hK hZ (by decide) t_206 t_20 t_397 (at_A hK) ao_A hP hS dX3_type_10 dX3_type_13 dX3_type_14 dX3_type_16 dX3_type_19 hout (by decide) (by decide) (by decide) (by decide) hlocks (by exact Or.inl ⟨rfl, by first | omega | (intro y; omega) | (intro y; have := y.1; omega) | (intro y; have := y.2; omega) | (intro y; exact absurd y.1 (by assumption)) | (intro y; exact absurd y.2 (by assumption)) | (intro y; have := y.2.1; omega)| (intro y; exact absurd y.2.1 (by assumption))| (intro y; exact absurd y.2.2 (by assumption)) | (intro y; exact absurd y (by assumption))⟩) (by decide) (by decide)

set_option maxHeartbeats 4000000 in
set_option maxRecDepth 100000 in
theorem c_X3_empty (l : Launch) (g : GT) (base : Nat) (ad : Nat → Nat → Nat) (S : St)  (hwc : wC S) : Met l yX3_empty [Cond.code yX3_empty cX3_empty 2 (some FieldType.int)] ({ frames := 0, cells := 0, slots := 0, locals := 0 }) (va_Pc [.ref (ad 1 0)] (PK g base ad S)) (gQ g base (an (some (.int (i32 (S 1 0 1)))) ad (st S 1 0 1 0))) 0 0 (fun q => base ≤ q) := by
  refine mk_m (own := RX3) (lv0 := [(0, .ref (ad 1 0))]) (by decide) rfl (Nat.le_of_ble_eq_true rfl) rfl ?_
  intro p e s m below meth cz av Qm hx hb hr hml hown hlocks hK hZ hP hQm ls hl
  have hS : va_S (fun q => base ≤ q) s.heap s.heap [] := va_S.rf
  have rS : ∀ (a1 b1 : Nat) (i1 : Int), rng (S a1 b1 i1) := fun a1 b1 i1 => hP.rg a1 b1 i1
  refine lv_aload_n hx hb dX3_empty_0 rfl (lv_at hl 0 rfl) ?_
  refine p_get (k := 1) hx hb hown hK hP hwc.h1 rfl rfl rfl (lay_X3 hK) 1 66 (by decide) t_66 rfl rfl dX3_empty_1 ?_
  refine lv_istore_n (lv' := [(1, .int (i32 (S 1 0 1))), (0, .ref (ad 1 0))]) hx hb dX3_empty_4 rfl hl (by decide) rfl (fun ls hl => ?_)
  refine lv_aload_n hx hb dX3_empty_5 rfl (lv_at hl 1 rfl) ?_
  refine lv_iconst (v := i32 (0)) hx hb dX3_empty_6 rfl ?_
  refine p_put (k := 1) hx hb hown hK hP hS hwc.h1 rfl rfl rfl (lay_X3 hK) tyX3 tyX3_ok nmX3 1 66 (by decide) t_66 rfl rfl (by decide +kernel) ⟨by decide, by decide⟩ (Nat.le_of_ble_eq_true rfl) (set_1_1 _ _ _ _) dX3_empty_7 (fun H locs hP hS => ?_)
  generalize eS1 : st S 1 0 1 0 = S1 at hP
  have qS1 : ∀ (a1 b1 : Nat) (i1 : Int), S1 a1 b1 i1 = if a1 = 1 ∧ b1 = 0 ∧ i1 = 1 then 0 else S a1 b1 i1 := fun a1 b1 i1 => by rw [← eS1]; exact st_at _ _ _ _ _ _ _ _
  have rS1 : ∀ (a1 b1 : Nat) (i1 : Int), rng (S1 a1 b1 i1) := fun a1 b1 i1 => hP.rg a1 b1 i1
  have aS1_1 : S1 1 0 (-1) = 1 := by rw [qS1, if_neg (by omega)]; exact hwc.h1
  refine lv_iload_n hx hb dX3_empty_10 rfl (lv_at hl 0 rfl) ?_
  subst hQm
  exact q_iret hx hb hr hlocks hP hS ⟨rfl, rfl, (by rw [← eS1])⟩ (by decide) (by decide) dX3_empty_11

set_option maxHeartbeats 4000000 in
set_option maxRecDepth 100000 in
theorem c_X3_hatch (l : Launch) (g : GT) (base : Nat) (ad : Nat → Nat → Nat) (S : St) (x u w : Int) (hfl : l.stackTraces = false) (hwc : wC S) (hrn : rng x) (hrn2 : rng u) (hrn3 : rng w) : vx_Met l yX3_hatch [Cond.code yX3_hatch cX3_hatch 5 (none : Option FieldType)] ({ frames := 7, cells := 3, slots := 18, locals := 112 }) (va_Pc [.ref (ad 1 0), .int (i32 (x)), .int (i32 (u)), .int (i32 (w))] (PK g base ad S)) (gQ g base (fun rr9 ad9 S9 => ((ceC S x ∧ (0 ≤ u ∧ u < 6) ∧ (0 ≤ w ∧ w < 6)) ∧ (True) ∧ (True)) ∧ an (none) ad (st (st S (4 + x.toNat) 0 3 u) (4 + x.toNat) 0 4 w) rr9 ad9 S9)) (xQ g base ad S (fun E => t3 eB "" "" (ceC S x ∧ (0 ≤ u ∧ u < 6) ∧ (0 ≤ w ∧ w < 6)) (True) (True) E)) 3 18 (fun q => base ≤ q) := by
  refine mk_mx (own := RX3) (lv0 := [(0, .ref (ad 1 0)), (1, .int (i32 (x))), (2, .int (i32 (u))), (3, .int (i32 (w)))]) (by decide) rfl (Nat.le_of_ble_eq_true rfl) rfl ?_
  intro p e s m below meth cz av Qm hx hb hr hml hown hlocks hout hK hZ hP hQm ls hl
  have hS : va_S (fun q => base ≤ q) s.heap s.heap [] := va_S.rf
  have rS : ∀ (a1 b1 : Nat) (i1 : Int), rng (S a1 b1 i1) := fun a1 b1 i1 => hP.rg a1 b1 i1
  refine lv_aload_n hx hb dX3_hatch_0 rfl (lv_at hl 0 rfl) ?_
  refine lv_iload_n hx hb dX3_hatch_1 rfl (lv_at hl 1 rfl) ?_
  refine q_callVx (k := 1) hx hb hml hl.1 hown hK hZ hP hS hwc.h1 rfl rfl rfl (c_X3_cartoonNumbered l g base ad S x hfl hwc.h1 hrn) t_409 t_4 (q_callB hK 407 15 410 t_407 t_15 t_410 f_yX3_cartoonNumbered ⟨by decide, by decide⟩) rfl rfl (Nat.le_of_ble_eq_true rfl) dX3_hatch_2 ⟨by decide, by decide⟩ (fun E ce q9 H locs hE hq9 hv9 hc9 hP hS => by subst hQm; exact q_out hout hlocks hq9 hv9 hc9 hP hS (by exact Or.inl ⟨hE.1, by intro y; first | exact hE.2 y | exact hE.2 y.1 | exact hE.2 y.2 | exact hE.2 y.2.1 | exact hE.2 y.2.2 | exact hE.2 y.1.1 | exact hE.2 y.1.2⟩) (by decide) (by decide)) (q_anc (fun hq1 H locs hP hS => ?_))
  have hc2 := hwc.ce hq1
  have hk2 := kd_c (x := x) (by have := hq1; unfold ceC at this; omega) (by have := hq1; unfold ceC at this; omega)
  generalize ho2 : 4 + Int.toNat x = ob2 at hc2 hk2 ⊢
  obtain ⟨ha2, hcw2, hch2⟩ := hc2
  refine lv_astore (lv' := [(4, .ref (ad ob2 0)), (0, .ref (ad 1 0)), (1, .int (i32 (x))), (2, .int (i32 (u))), (3, .int (i32 (w)))]) hx hb dX3_hatch_5 hl (by decide) rfl (fun ls hl => ?_)
  refine lv_iload_n hx hb dX3_hatch_7 rfl (lv_at hl 3 rfl) ?_
  refine q_callSx hx hb hml hl.1 hown hK hZ hP hS (c_X3_requireColour l g base ad S u hfl hrn2) t_136 (q_callB hK 135 15 137 t_135 t_15 t_137 f_yX3_requireColour ⟨by decide, by decide⟩) rfl rfl (Nat.le_of_ble_eq_true rfl) dX3_hatch_8 ⟨by decide, by decide⟩ (fun E ce q9 H locs hE hq9 hv9 hc9 hP hS => by subst hQm; exact q_out hout hlocks hq9 hv9 hc9 hP hS (by subst ho2; exact Or.inl ⟨hE.1, by intro y; first | exact hE.2 y | exact hE.2 y.1 | exact hE.2 y.2 | exact hE.2 y.2.1 | exact hE.2 y.2.2 | exact hE.2 y.1.1 | exact hE.2 y.1.2⟩) (by decide) (by decide)) (q_anc (fun hq2 H locs hP hS => ?_))
  refine lv_iload_n hx hb dX3_hatch_11 rfl (lv_at hl 4 rfl) ?_
  refine q_callSx hx hb hml hl.1 hown hK hZ hP hS (c_X3_requireColour l g base ad S w hfl hrn3) t_136 (q_callB hK 135 15 137 t_135 t_15 t_137 f_yX3_requireColour ⟨by decide, by decide⟩) rfl rfl (Nat.le_of_ble_eq_true rfl) dX3_hatch_12 ⟨by decide, by decide⟩ (fun E ce q9 H locs hE hq9 hv9 hc9 hP hS => by subst hQm; exact q_out hout hlocks hq9 hv9 hc9 hP hS (by subst ho2; exact Or.inl ⟨hE.1, by intro y; first | exact hE.2 y | exact hE.2 y.1 | exact hE.2 y.2 | exact hE.2 y.2.1 | exact hE.2 y.2.2 | exact hE.2 y.1.1 | exact hE.2 y.1.2⟩) (by decide) (by decide)) (q_anc (fun hq3 H locs hP hS => ?_))
  refine lv_aload hx hb dX3_hatch_15 (lv_at hl 0 rfl) ?_
  refine lv_iload_n hx hb dX3_hatch_17 rfl (lv_at hl 3 rfl) ?_
  refine lv_iload_n hx hb dX3_hatch_18 rfl (lv_at hl 4 rfl) ?_
  refine q_callV (k := 4) hx hb hml hl.1 hown hK hZ hP hS ha2 hk2 rfl rfl (c_X0_hatchBetween l g base ad S ob2 u w ha2 hk2 hrn2 hrn3) t_436 t_437 (q_callB hK 435 22 438 t_435 t_22 t_438 f_yX0_hatchBetween ⟨by decide, by decide⟩) rfl rfl (Nat.le_of_ble_eq_true rfl) dX3_hatch_19 ⟨by decide, by decide⟩  (q_an (fun H locs hP hS => ?_))
  generalize eS4 : st S ob2 0 3 u = S4 at hP
  have qS4 : ∀ (a1 b1 : Nat) (i1 : Int), S4 a1 b1 i1 = if a1 = ob2 ∧ b1 = 0 ∧ i1 = 3 then u else S a1 b1 i1 := fun a1 b1 i1 => by rw [← eS4]; exact st_at _ _ _ _ _ _ _ _
  have aS4_1 : S4 1 0 (-1) = 1 := by rw [qS4, if_neg (by omega)]; exact hwc.h1
  have aS4_2 : S4 2 0 (-1) = 1 := by rw [qS4, if_neg (by omega)]; exact hwc.h2
  have aS4_ob2 : S4 ob2 0 (-1) = 1 := by rw [qS4, if_neg (by omega)]; exact ha2
  generalize eS5 : st S4 ob2 0 4 w = S5 at hP
  have rS5 : ∀ (a1 b1 : Nat) (i1 : Int), rng (S5 a1 b1 i1) := fun a1 b1 i1 => hP.rg a1 b1 i1
  have qS5 : ∀ (a1 b1 : Nat) (i1 : Int), S5 a1 b1 i1 = if a1 = ob2 ∧ b1 = 0 ∧ i1 = 4 then w else S4 a1 b1 i1 := fun a1 b1 i1 => by rw [← eS5]; exact st_at _ _ _ _ _ _ _ _
  have aS5_1 : S5 1 0 (-1) = 1 := by rw [qS5, if_neg (by omega)]; exact aS4_1
  have aS5_2 : S5 2 0 (-1) = 1 := by rw [qS5, if_neg (by omega)]; exact aS4_2
  have aS5_ob2 : S5 ob2 0 (-1) = 1 := by rw [qS5, if_neg (by omega)]; exact aS4_ob2
  subst hQm
  refine vx_ret ?_
  exact q_vret hx hb hr hlocks hP hS ⟨(by subst ho2; refine ⟨?_, ?_, ?_⟩ <;> first | trivial | assumption | omega | exact ⟨by assumption, by omega⟩ | exact ⟨by assumption, by assumption⟩ | exact ⟨by assumption, by omega, by omega⟩ | exact ⟨by assumption, by omega, by omega, by omega, by omega⟩ | exact ⟨by assumption, by assumption, by omega⟩), ⟨rfl, rfl, (by rw [← eS5, ← eS4, ho2])⟩⟩ (by decide) (by decide) dX3_hatch_22

set_option maxHeartbeats 4000000 in
set_option maxRecDepth 100000 in
theorem c_X3_dye (l : Launch) (g : GT) (base : Nat) (ad : Nat → Nat → Nat) (S : St) (u n f : Int) (bl : Prop) (hfl : l.stackTraces = false) (hwc : wC S) (hrn : rng u) (hrn2 : rng n) (hrn3 : rng f) : vx_Met l yX3_dye [Cond.code yX3_dye cX3_dye 5 (some FieldType.int)] ({ frames := 7, cells := 2, slots := 12, locals := 110 }) (va_Pc [.ref (ad 1 0), .int (i32 (u)), .int (i32 (n)), .int (i32 (f)), .int (i32 (b2 (bl)))] (PK g base ad S)) (gQ g base (fun rr9 ad9 S9 => ((0 ≤ u ∧ u < 6) ∧ ((1 ≤ n ∧ n ≤ 999) ∧ (0 ≤ f ∧ f ≤ 9)) ∧ (S 2 0 0 < 20)) ∧ an (some (.int (i32 (S 2 0 0)))) ad (st (st (st (st (st (st S 2 2 (S 2 0 0) u) 2 3 (S 2 0 0) n) 2 4 (S 2 0 0) n) 2 5 (S 2 0 0) f) 2 6 (S 2 0 0) (b2 bl)) 2 0 0 (S 2 0 0 + 1)) rr9 ad9 S9)) (xQ g base ad S (fun E => t3 eB eA eS (0 ≤ u ∧ u < 6) ((1 ≤ n ∧ n ≤ 999) ∧ (0 ≤ f ∧ f ≤ 9)) (S 2 0 0 < 20) E)) 2 12 (fun q => base ≤ q) := by
  refine mk_mx (own := RX3) (lv0 := [(0, .ref (ad 1 0)), (1, .int (i32 (u))), (2, .int (i32 (n))), (3, .int (i32 (f))), (4, .int (i32 (b2 (bl))))]) (by decide) rfl (Nat.le_of_ble_eq_true rfl) rfl ?_
  intro p e s m below meth cz av Qm hx hb hr hml hown hlocks hout hK hZ hP hQm ls hl
  have hS : va_S (fun q => base ≤ q) s.heap s.heap [] := va_S.rf
  have rS : ∀ (a1 b1 : Nat) (i1 : Int), rng (S a1 b1 i1) := fun a1 b1 i1 => hP.rg a1 b1 i1
  obtain ⟨hwl1, hwl2⟩ := hwc.lc
  refine lv_iload_n hx hb dX3_dye_0 rfl (lv_at hl 1 rfl) ?_
  refine q_callSx hx hb hml hl.1 hown hK hZ hP hS (c_X3_requireColour l g base ad S u hfl hrn) t_136 (q_callB hK 135 15 137 t_135 t_15 t_137 f_yX3_requireColour ⟨by decide, by decide⟩) rfl rfl (Nat.le_of_ble_eq_true rfl) dX3_dye_1 ⟨by decide, by decide⟩ (fun E ce q9 H locs hE hq9 hv9 hc9 hP hS => by subst hQm; exact q_out hout hlocks hq9 hv9 hc9 hP hS (by exact Or.inl ⟨hE.1, by intro y; first | exact hE.2 y | exact hE.2 y.1 | exact hE.2 y.2 | exact hE.2 y.2.1 | exact hE.2 y.2.2 | exact hE.2 y.1.1 | exact hE.2 y.1.2⟩) (by decide) (by decide)) (q_anc (fun hq1 H locs hP hS => ?_))
  refine lv_iload_n hx hb dX3_dye_4 rfl (lv_at hl 2 rfl) ?_
  refine lv_iconst (v := i32 (1)) hx hb dX3_dye_5 rfl ?_
  refine q_icmp_lt (tgt := 16) hx hb hrn2 ⟨by decide, by decide⟩ dX3_dye_6 (by decide) (fun c_2 => ?_) (fun c_2 => ?_)
  · -- n < 1
    subst hQm
    exact q_throw hx hb hfl hml hl.1 hown hK hZ (by decide) t_206 t_20 t_215 (at_A hK) ao_A hP hS dX3_dye_16 dX3_dye_19 dX3_dye_20 dX3_dye_22 dX3_dye_25 hout (by decide) (by decide) (by decide) (by decide) hlocks (by exact Or.inr (Or.inl ⟨rfl, by first | trivial | assumption | omega | exact ⟨by assumption, by omega⟩ | exact ⟨by assumption, by assumption⟩ | exact ⟨by assumption, by omega, by omega⟩ | exact ⟨by assumption, by omega, by omega, by omega, by omega⟩ | exact ⟨by assumption, by assumption, by omega⟩, by first | omega | (intro y; omega) | (intro y; have := y.1; omega) | (intro y; have := y.2; omega) | (intro y; exact absurd y.1 (by assumption)) | (intro y; exact absurd y.2 (by assumption)) | (intro y; have := y.2.1; omega)| (intro y; exact absurd y.2.1 (by assumption))| (intro y; exact absurd y.2.2 (by assumption)) | (intro y; exact absurd y (by assumption))⟩)) (by decide) (by decide)
  · -- 1 ≤ n
    refine lv_iload_n hx hb dX3_dye_9 rfl (lv_at hl 2 rfl) ?_
    refine lv_sipush (v := i32 (999)) hx hb dX3_dye_10 (by decide) ?_
    refine q_icmp_le (tgt := 26) hx hb hrn2 ⟨by decide, by decide⟩ dX3_dye_13 (by decide) (fun c_3 => ?_) (fun c_3 => ?_)
    · -- n ≤ 999
      refine lv_iload_n hx hb dX3_dye_26 rfl (lv_at hl 3 rfl) ?_
      refine q_if_lt (tgt := 36) hx hb hrn3 dX3_dye_27 (by decide) (fun c_4 => ?_) (fun c_4 => ?_)
      · -- f < 0
        subst hQm
        exact q_throw hx hb hfl hml hl.1 hown hK hZ (by decide) t_206 t_20 t_222 (at_A hK) ao_A hP hS dX3_dye_36 dX3_dye_39 dX3_dye_40 dX3_dye_42 dX3_dye_45 hout (by decide) (by decide) (by decide) (by decide) hlocks (by exact Or.inr (Or.inl ⟨rfl, by first | trivial | assumption | omega | exact ⟨by assumption, by omega⟩ | exact ⟨by assumption, by assumption⟩ | exact ⟨by assumption, by omega, by omega⟩ | exact ⟨by assumption, by omega, by omega, by omega, by omega⟩ | exact ⟨by assumption, by assumption, by omega⟩, by first | omega | (intro y; omega) | (intro y; have := y.1; omega) | (intro y; have := y.2; omega) | (intro y; exact absurd y.1 (by assumption)) | (intro y; exact absurd y.2 (by assumption)) | (intro y; have := y.2.1; omega)| (intro y; exact absurd y.2.1 (by assumption))| (intro y; exact absurd y.2.2 (by assumption)) | (intro y; exact absurd y (by assumption))⟩)) (by decide) (by decide)
      · -- 0 ≤ f
        refine lv_iload_n hx hb dX3_dye_30 rfl (lv_at hl 3 rfl) ?_
        refine lv_bipush (v := i32 (9)) hx hb dX3_dye_31 (by decide) ?_
        refine q_icmp_le (tgt := 46) hx hb hrn3 ⟨by decide, by decide⟩ dX3_dye_33 (by decide) (fun c_5 => ?_) (fun c_5 => ?_)
        · -- f ≤ 9
          refine lv_aload_n hx hb dX3_dye_46 rfl (lv_at hl 0 rfl) ?_
          refine p_get (k := 1) hx hb hown hK hP hwc.h1 rfl rfl rfl (lay_X3 hK) 4 69 (by decide) t_69 rfl rfl dX3_dye_47 ?_
          refine q_callV (k := 2) hx hb hml hl.1 hown hK hZ hP hS hwc.h2 rfl rfl rfl (c_X1_count l g base ad S 2 hwc.h2 rfl) t_224 t_225 (q_callB hK 223 16 226 t_223 t_16 t_226 f_yX1_count ⟨by decide, by decide⟩) rfl rfl (Nat.le_of_ble_eq_true rfl) dX3_dye_50 ⟨by decide, by decide⟩  (q_an (fun H locs hP hS => ?_))
          refine lv_bipush (v := i32 (20)) hx hb dX3_dye_53 (by decide) ?_
          refine q_icmp_lt (tgt := 68) hx hb (hP.rg _ _ _) ⟨by decide, by decide⟩ dX3_dye_55 (by decide) (fun c_6 => ?_) (fun c_6 => ?_)
          · -- (S 2 0 0) < 20
            refine lv_aload_n hx hb dX3_dye_68 rfl (lv_at hl 0 rfl) ?_
            refine p_get (k := 1) hx hb hown hK hP hwc.h1 rfl rfl rfl (lay_X3 hK) 4 69 (by decide) t_69 rfl rfl dX3_dye_69 ?_
            refine lv_iload_n hx hb dX3_dye_72 rfl (lv_at hl 1 rfl) ?_
            refine lv_iload_n hx hb dX3_dye_73 rfl (lv_at hl 2 rfl) ?_
            refine lv_iload_n hx hb dX3_dye_74 rfl (lv_at hl 3 rfl) ?_
            refine lv_iload hx hb dX3_dye_75 (lv_at hl 4 rfl) ?_
            refine q_callV (k := 2) hx hb hml hl.1 hown hK hZ hP hS hwc.h2 rfl rfl rfl (c_X1_add l g base ad S u n f bl hwc.h2 hrn hrn2 hrn3 (by omega)) t_244 t_245 (q_callB hK 243 16 246 t_243 t_16 t_246 f_yX1_add ⟨by decide, by decide⟩) rfl rfl (Nat.le_of_ble_eq_true rfl) dX3_dye_77 ⟨by decide, by decide⟩  (q_an (fun H locs hP hS => ?_))
            generalize eS7 : st S 2 2 (S 2 0 0) u = S7 at hP
            have qS7 : ∀ (a1 b1 : Nat) (i1 : Int), S7 a1 b1 i1 = if a1 = 2 ∧ b1 = 2 ∧ i1 = S 2 0 0 then u else S a1 b1 i1 := fun a1 b1 i1 => by rw [← eS7]; exact st_at _ _ _ _ _ _ _ _
            have aS7_1 : S7 1 0 (-1) = 1 := by rw [qS7, if_neg (by omega)]; exact hwc.h1
            have aS7_2 : S7 2 0 (-1) = 1 := by rw [qS7, if_neg (by omega)]; exact hwc.h2
            generalize eS8 : st S7 2 3 (S 2 0 0) n = S8 at hP
            have qS8 : ∀ (a1 b1 : Nat) (i1 : Int), S8 a1 b1 i1 = if a1 = 2 ∧ b1 = 3 ∧ i1 = S 2 0 0 then n else S7 a1 b1 i1 := fun a1 b1 i1 => by rw [← eS8]; exact st_at _ _ _ _ _ _ _ _
            have aS8_1 : S8 1 0 (-1) = 1 := by rw [qS8, if_neg (by omega)]; exact aS7_1
            have aS8_2 : S8 2 0 (-1) = 1 := by rw [qS8, if_neg (by omega)]; exact aS7_2
            generalize eS9 : st S8 2 4 (S 2 0 0) n = S9 at hP
            have qS9 : ∀ (a1 b1 : Nat) (i1 : Int), S9 a1 b1 i1 = if a1 = 2 ∧ b1 = 4 ∧ i1 = S 2 0 0 then n else S8 a1 b1 i1 := fun a1 b1 i1 => by rw [← eS9]; exact st_at _ _ _ _ _ _ _ _
            have aS9_1 : S9 1 0 (-1) = 1 := by rw [qS9, if_neg (by omega)]; exact aS8_1
            have aS9_2 : S9 2 0 (-1) = 1 := by rw [qS9, if_neg (by omega)]; exact aS8_2
            generalize eS10 : st S9 2 5 (S 2 0 0) f = S10 at hP
            have qS10 : ∀ (a1 b1 : Nat) (i1 : Int), S10 a1 b1 i1 = if a1 = 2 ∧ b1 = 5 ∧ i1 = S 2 0 0 then f else S9 a1 b1 i1 := fun a1 b1 i1 => by rw [← eS10]; exact st_at _ _ _ _ _ _ _ _
            have aS10_1 : S10 1 0 (-1) = 1 := by rw [qS10, if_neg (by omega)]; exact aS9_1
            have aS10_2 : S10 2 0 (-1) = 1 := by rw [qS10, if_neg (by omega)]; exact aS9_2
            generalize eS11 : st S10 2 6 (S 2 0 0) (b2 bl) = S11 at hP
            have qS11 : ∀ (a1 b1 : Nat) (i1 : Int), S11 a1 b1 i1 = if a1 = 2 ∧ b1 = 6 ∧ i1 = S 2 0 0 then b2 bl else S10 a1 b1 i1 := fun a1 b1 i1 => by rw [← eS11]; exact st_at _ _ _ _ _ _ _ _
            have aS11_1 : S11 1 0 (-1) = 1 := by rw [qS11, if_neg (by omega)]; exact aS10_1
            have aS11_2 : S11 2 0 (-1) = 1 := by rw [qS11, if_neg (by omega)]; exact aS10_2
            generalize eS12 : st S11 2 0 0 (S 2 0 0 + 1) = S12 at hP
            have rS12 : ∀ (a1 b1 : Nat) (i1 : Int), rng (S12 a1 b1 i1) := fun a1 b1 i1 => hP.rg a1 b1 i1
            have qS12 : ∀ (a1 b1 : Nat) (i1 : Int), S12 a1 b1 i1 = if a1 = 2 ∧ b1 = 0 ∧ i1 = 0 then S 2 0 0 + 1 else S11 a1 b1 i1 := fun a1 b1 i1 => by rw [← eS12]; exact st_at _ _ _ _ _ _ _ _
            have aS12_1 : S12 1 0 (-1) = 1 := by rw [qS12, if_neg (by omega)]; exact aS11_1
            have aS12_2 : S12 2 0 (-1) = 1 := by rw [qS12, if_neg (by omega)]; exact aS11_2
            subst hQm
            refine vx_ret ?_
            exact q_iret hx hb hr hlocks hP hS ⟨(by refine ⟨?_, ?_, ?_⟩ <;> first | trivial | assumption | omega | exact ⟨by assumption, by omega⟩ | exact ⟨by assumption, by assumption⟩ | exact ⟨by assumption, by omega, by omega⟩ | exact ⟨by assumption, by omega, by omega, by omega, by omega⟩ | exact ⟨by assumption, by assumption, by omega⟩), ⟨rfl, rfl, (by rw [← eS12, ← eS11, ← eS10, ← eS9, ← eS8, ← eS7])⟩⟩ (by decide) (by decide) dX3_dye_80
          · -- 20 ≤ (S 2 0 0)
            subst hQm
            exact q_throw hx hb hfl hml hl.1 hown hK hZ (by decide) t_227 t_21 t_236 (at_S hK) ao_S hP hS dX3_dye_58 dX3_dye_61 dX3_dye_62 dX3_dye_64 dX3_dye_67 hout (by decide) (by decide) (by decide) (by decide) hlocks (by exact Or.inr (Or.inr ⟨rfl, by first | trivial | assumption | omega | exact ⟨by assumption, by omega⟩ | exact ⟨by assumption, by assumption⟩ | exact ⟨by assumption, by omega, by omega⟩ | exact ⟨by assumption, by omega, by omega, by omega, by omega⟩ | exact ⟨by assumption, by assumption, by omega⟩, by first | trivial | assumption | omega | exact ⟨by assumption, by omega⟩ | exact ⟨by assumption, by assumption⟩ | exact ⟨by assumption, by omega, by omega⟩ | exact ⟨by assumption, by omega, by omega, by omega, by omega⟩ | exact ⟨by assumption, by assumption, by omega⟩, by first | omega | (intro y; omega) | (intro y; have := y.1; omega) | (intro y; have := y.2; omega) | (intro y; exact absurd y.1 (by assumption)) | (intro y; exact absurd y.2 (by assumption)) | (intro y; have := y.2.1; omega)| (intro y; exact absurd y.2.1 (by assumption))| (intro y; exact absurd y.2.2 (by assumption)) | (intro y; exact absurd y (by assumption))⟩)) (by decide) (by decide)
        · -- 9 < f
          subst hQm
          exact q_throw hx hb hfl hml hl.1 hown hK hZ (by decide) t_206 t_20 t_222 (at_A hK) ao_A hP hS dX3_dye_36 dX3_dye_39 dX3_dye_40 dX3_dye_42 dX3_dye_45 hout (by decide) (by decide) (by decide) (by decide) hlocks (by exact Or.inr (Or.inl ⟨rfl, by first | trivial | assumption | omega | exact ⟨by assumption, by omega⟩ | exact ⟨by assumption, by assumption⟩ | exact ⟨by assumption, by omega, by omega⟩ | exact ⟨by assumption, by omega, by omega, by omega, by omega⟩ | exact ⟨by assumption, by assumption, by omega⟩, by first | omega | (intro y; omega) | (intro y; have := y.1; omega) | (intro y; have := y.2; omega) | (intro y; exact absurd y.1 (by assumption)) | (intro y; exact absurd y.2 (by assumption)) | (intro y; have := y.2.1; omega)| (intro y; exact absurd y.2.1 (by assumption))| (intro y; exact absurd y.2.2 (by assumption)) | (intro y; exact absurd y (by assumption))⟩)) (by decide) (by decide)
    · -- 999 < n
      subst hQm
      exact q_throw hx hb hfl hml hl.1 hown hK hZ (by decide) t_206 t_20 t_215 (at_A hK) ao_A hP hS dX3_dye_16 dX3_dye_19 dX3_dye_20 dX3_dye_22 dX3_dye_25 hout (by decide) (by decide) (by decide) (by decide) hlocks (by exact Or.inr (Or.inl ⟨rfl, by first | trivial | assumption | omega | exact ⟨by assumption, by omega⟩ | exact ⟨by assumption, by assumption⟩ | exact ⟨by assumption, by omega, by omega⟩ | exact ⟨by assumption, by omega, by omega, by omega, by omega⟩ | exact ⟨by assumption, by assumption, by omega⟩, by first | omega | (intro y; omega) | (intro y; have := y.1; omega) | (intro y; have := y.2; omega) | (intro y; exact absurd y.1 (by assumption)) | (intro y; exact absurd y.2 (by assumption)) | (intro y; have := y.2.1; omega)| (intro y; exact absurd y.2.1 (by assumption))| (intro y; exact absurd y.2.2 (by assumption)) | (intro y; exact absurd y (by assumption))⟩)) (by decide) (by decide)

set_option maxHeartbeats 4000000 in
set_option maxRecDepth 100000 in
theorem c_X3_left (l : Launch) (g : GT) (base : Nat) (ad : Nat → Nat → Nat) (S : St) (x : Int) (hfl : l.stackTraces = false) (hwc : wC S) (hrn : rng x) : vx_Met l yX3_left [Cond.code yX3_left cX3_left 2 (some FieldType.int)] ({ frames := 6, cells := 1, slots := 6, locals := 90 }) (va_Pc [.ref (ad 1 0), .int (i32 (x))] (PK g base ad S)) (gQ g base (fun rr9 ad9 S9 => ((0 ≤ x ∧ x < S 2 0 0) ∧ (True) ∧ (True)) ∧ an (some (.int (i32 (S 2 4 x)))) ad S rr9 ad9 S9)) (xQ g base ad S (fun E => t3 eB "" "" (0 ≤ x ∧ x < S 2 0 0) (True) (True) E)) 1 6 (fun q => base ≤ q) := by
  refine mk_mx (own := RX3) (lv0 := [(0, .ref (ad 1 0)), (1, .int (i32 (x)))]) (by decide) rfl (Nat.le_of_ble_eq_true rfl) rfl ?_
  intro p e s m below meth cz av Qm hx hb hr hml hown hlocks hout hK hZ hP hQm ls hl
  have hS : va_S (fun q => base ≤ q) s.heap s.heap [] := va_S.rf
  have rS : ∀ (a1 b1 : Nat) (i1 : Int), rng (S a1 b1 i1) := fun a1 b1 i1 => hP.rg a1 b1 i1
  obtain ⟨hwl1, hwl2⟩ := hwc.lc
  refine lv_iload_n hx hb dX3_left_0 rfl (lv_at hl 1 rfl) ?_
  refine q_if_lt (tgt := 15) hx hb hrn dX3_left_1 (by decide) (fun c_1 => ?_) (fun c_1 => ?_)
  · -- x < 0
    subst hQm
    exact q_throw hx hb hfl hml hl.1 hown hK hZ (by decide) t_138 t_23 t_258 (at_B hK) ao_B hP hS dX3_left_15 dX3_left_18 dX3_left_19 dX3_left_21 dX3_left_24 hout (by decide) (by decide) (by decide) (by decide) hlocks (by exact Or.inl ⟨rfl, by first | omega | (intro y; omega) | (intro y; have := y.1; omega) | (intro y; have := y.2; omega) | (intro y; exact absurd y.1 (by assumption)) | (intro y; exact absurd y.2 (by assumption)) | (intro y; have := y.2.1; omega)| (intro y; exact absurd y.2.1 (by assumption))| (intro y; exact absurd y.2.2 (by assumption)) | (intro y; exact absurd y (by assumption))⟩) (by decide) (by decide)
  · -- 0 ≤ x
    refine lv_iload_n hx hb dX3_left_4 rfl (lv_at hl 1 rfl) ?_
    refine lv_aload_n hx hb dX3_left_5 rfl (lv_at hl 0 rfl) ?_
    refine p_get (k := 1) hx hb hown hK hP hwc.h1 rfl rfl rfl (lay_X3 hK) 4 69 (by decide) t_69 rfl rfl dX3_left_6 ?_
    refine q_callV (k := 2) hx hb hml hl.1 hown hK hZ hP hS hwc.h2 rfl rfl rfl (c_X1_count l g base ad S 2 hwc.h2 rfl) t_224 t_225 (q_callB hK 223 16 226 t_223 t_16 t_226 f_yX1_count ⟨by decide, by decide⟩) rfl rfl (Nat.le_of_ble_eq_true rfl) dX3_left_9 ⟨by decide, by decide⟩  (q_an (fun H locs hP hS => ?_))
    refine q_icmp_lt (tgt := 25) hx hb hrn (hP.rg _ _ _) dX3_left_12 (by decide) (fun c_2 => ?_) (fun c_2 => ?_)
    · -- x < (S 2 0 0)
      refine lv_aload_n hx hb dX3_left_25 rfl (lv_at hl 0 rfl) ?_
      refine p_get (k := 1) hx hb hown hK hP hwc.h1 rfl rfl rfl (lay_X3 hK) 4 69 (by decide) t_69 rfl rfl dX3_left_26 ?_
      refine lv_iload_n hx hb dX3_left_29 rfl (lv_at hl 1 rfl) ?_
      refine q_callV (k := 2) hx hb hml hl.1 hown hK hZ hP hS hwc.h2 rfl rfl rfl (c_X1_threadsIn l g base ad S x hwc.h2 (by omega)) t_260 t_261 (q_callB hK 259 16 262 t_259 t_16 t_262 f_yX1_threadsIn ⟨by decide, by decide⟩) rfl rfl (Nat.le_of_ble_eq_true rfl) dX3_left_30 ⟨by decide, by decide⟩  (q_an (fun H locs hP hS => ?_))
      subst hQm
      refine vx_ret ?_
      exact q_iret hx hb hr hlocks hP hS ⟨(by refine ⟨?_, ?_, ?_⟩ <;> first | trivial | assumption | omega | exact ⟨by assumption, by omega⟩ | exact ⟨by assumption, by assumption⟩ | exact ⟨by assumption, by omega, by omega⟩ | exact ⟨by assumption, by omega, by omega, by omega, by omega⟩ | exact ⟨by assumption, by assumption, by omega⟩), ⟨rfl, rfl, rfl⟩⟩ (by decide) (by decide) dX3_left_33
    · -- (S 2 0 0) ≤ x
      subst hQm
      exact q_throw hx hb hfl hml hl.1 hown hK hZ (by decide) t_138 t_23 t_258 (at_B hK) ao_B hP hS dX3_left_15 dX3_left_18 dX3_left_19 dX3_left_21 dX3_left_24 hout (by decide) (by decide) (by decide) (by decide) hlocks (by exact Or.inl ⟨rfl, by first | omega | (intro y; omega) | (intro y; have := y.1; omega) | (intro y; have := y.2; omega) | (intro y; exact absurd y.1 (by assumption)) | (intro y; exact absurd y.2 (by assumption)) | (intro y; have := y.2.1; omega)| (intro y; exact absurd y.2.1 (by assumption))| (intro y; exact absurd y.2.2 (by assumption)) | (intro y; exact absurd y (by assumption))⟩) (by decide) (by decide)

set_option maxHeartbeats 4000000 in
set_option maxRecDepth 100000 in
theorem c_X3_isTrue (l : Launch) (g : GT) (base : Nat) (ad : Nat → Nat → Nat) (S : St) (x : Int) (hfl : l.stackTraces = false) (hwc : wC S) (hrn : rng x) : vx_Met l yX3_isTrue [Cond.code yX3_isTrue cX3_isTrue 2 (some FieldType.boolean)] ({ frames := 7, cells := 1, slots := 6, locals := 112 }) (va_Pc [.ref (ad 1 0), .int (i32 (x))] (PK g base ad S)) (gQ g base (fun rr9 ad9 S9 => ((peC S x) ∧ (True) ∧ (True)) ∧ an (some (.int (i32 (b2 (∀ j, 1 ≤ j → j < S (10 + x.toNat) 0 0 → S (10 + x.toNat) 8 (j - 1) + 1 = S (10 + x.toNat) 8 j))))) ad S rr9 ad9 S9)) (xQ g base ad S (fun E => t3 eB "" "" (peC S x) (True) (True) E)) 1 6 (fun q => base ≤ q) := by
  refine mk_mx (own := RX3) (lv0 := [(0, .ref (ad 1 0)), (1, .int (i32 (x)))]) (by decide) rfl (Nat.le_of_ble_eq_true rfl) rfl ?_
  intro p e s m below meth cz av Qm hx hb hr hml hown hlocks hout hK hZ hP hQm ls hl
  have hS : va_S (fun q => base ≤ q) s.heap s.heap [] := va_S.rf
  have rS : ∀ (a1 b1 : Nat) (i1 : Int), rng (S a1 b1 i1) := fun a1 b1 i1 => hP.rg a1 b1 i1
  refine lv_aload_n hx hb dX3_isTrue_0 rfl (lv_at hl 0 rfl) ?_
  refine lv_iload_n hx hb dX3_isTrue_1 rfl (lv_at hl 1 rfl) ?_
  refine q_callVx (k := 1) hx hb hml hl.1 hown hK hZ hP hS hwc.h1 rfl rfl rfl (c_X3_pieceNumbered l g base ad S x hfl hwc.h1 hrn) t_275 t_1 (q_callB hK 273 15 276 t_273 t_15 t_276 f_yX3_pieceNumbered ⟨by decide, by decide⟩) rfl rfl (Nat.le_of_ble_eq_true rfl) dX3_isTrue_2 ⟨by decide, by decide⟩ (fun E ce q9 H locs hE hq9 hv9 hc9 hP hS => by subst hQm; exact q_out hout hlocks hq9 hv9 hc9 hP hS (by exact Or.inl ⟨hE.1, by intro y; first | exact hE.2 y | exact hE.2 y.1 | exact hE.2 y.2 | exact hE.2 y.2.1 | exact hE.2 y.2.2 | exact hE.2 y.1.1 | exact hE.2 y.1.2⟩) (by decide) (by decide)) (q_anc (fun hq1 H locs hP hS => ?_))
  have hc2 := hwc.pe hq1
  have hk2 := kd_p (x := x) (by have := hq1; unfold peC at this; omega)
  generalize ho2 : 10 + Int.toNat x = ob2 at hc2 hk2 ⊢
  obtain ⟨ha2, hpw2, hph2, hpv2, hsh2, hor2, hro2, hlt2, h122⟩ := hc2
  refine q_callV (k := 5) hx hb hml hl.1 hown hK hZ hP hS ha2 hk2 rfl rfl (c_X2_isAllTrue l g base ad S ob2 ha2 hk2 (by omega) hor2) t_524 t_525 (q_callB hK 523 24 526 t_523 t_24 t_526 f_yX2_isAllTrue ⟨by decide, by decide⟩) rfl rfl (Nat.le_of_ble_eq_true rfl) dX3_isTrue_5 ⟨by decide, by decide⟩  (q_an (fun H locs hP hS => ?_))
  refine q_nm (b2_c (show (∀ j, 1 ≤ j → j < S ob2 0 0 → S ob2 8 (j - 1) + 1 = S ob2 8 j) ↔ (∀ j, 1 ≤ j → j < S (10 + x.toNat) 0 0 → S (10 + x.toNat) 8 (j - 1) + 1 = S (10 + x.toNat) 8 j) from by rw [ho2])) ?_
  subst hQm
  refine vx_ret ?_
  exact q_zret hx hb hr hlocks hP hS (b2_01 _) ⟨(by subst ho2; refine ⟨?_, ?_, ?_⟩ <;> first | trivial | assumption | omega | exact ⟨by assumption, by omega⟩ | exact ⟨by assumption, by assumption⟩ | exact ⟨by assumption, by omega, by omega⟩ | exact ⟨by assumption, by omega, by omega, by omega, by omega⟩ | exact ⟨by assumption, by assumption, by omega⟩), ⟨rfl, rfl, rfl⟩⟩ (by decide) (by decide) dX3_isTrue_8

set_option maxHeartbeats 4000000 in
set_option maxRecDepth 100000 in
theorem c_X3_sew (l : Launch) (g : GT) (base : Nat) (ad : Nat → Nat → Nat) (S : St) (x q : Int) (hfl : l.stackTraces = false) (hwc : wC S) (hrn : rng x) (hrn2 : rng q) : vx_Met l yX3_sew [Cond.code yX3_sew cX3_sew 5 (some FieldType.boolean)] ({ frames := 7, cells := 3, slots := 18, locals := 112 }) (va_Pc [.ref (ad 1 0), .int (i32 (x)), .int (i32 (q))] (PK g base ad S)) (gQ g base (fun rr9 ad9 S9 => ((peC S x ∧ (1 ≤ q ∧ q < S (10 + x.toNat) 0 0)) ∧ (dnC S (10 + x.toNat)) ∧ (True)) ∧ an (some (.int (i32 (b2 (slC S (10 + x.toNat) q))))) ad (st S (10 + x.toNat) 9 q 1) rr9 ad9 S9)) (xQ g base ad S (fun E => t3 eB eS "" (peC S x ∧ (1 ≤ q ∧ q < S (10 + x.toNat) 0 0)) (dnC S (10 + x.toNat)) (True) E)) 3 18 (fun q => base ≤ q) := by
  refine mk_mx (own := RX3) (lv0 := [(0, .ref (ad 1 0)), (1, .int (i32 (x))), (2, .int (i32 (q)))]) (by decide) rfl (Nat.le_of_ble_eq_true rfl) rfl ?_
  intro p e s m below meth cz av Qm hx hb hr hml hown hlocks hout hK hZ hP hQm ls hl
  have hS : va_S (fun q => base ≤ q) s.heap s.heap [] := va_S.rf
  have rS : ∀ (a1 b1 : Nat) (i1 : Int), rng (S a1 b1 i1) := fun a1 b1 i1 => hP.rg a1 b1 i1
  refine lv_aload_n hx hb dX3_sew_0 rfl (lv_at hl 0 rfl) ?_
  refine lv_iload_n hx hb dX3_sew_1 rfl (lv_at hl 1 rfl) ?_
  refine q_callVx (k := 1) hx hb hml hl.1 hown hK hZ hP hS hwc.h1 rfl rfl rfl (c_X3_pieceNumbered l g base ad S x hfl hwc.h1 hrn) t_275 t_1 (q_callB hK 273 15 276 t_273 t_15 t_276 f_yX3_pieceNumbered ⟨by decide, by decide⟩) rfl rfl (Nat.le_of_ble_eq_true rfl) dX3_sew_2 ⟨by decide, by decide⟩ (fun E ce q9 H locs hE hq9 hv9 hc9 hP hS => by subst hQm; exact q_out hout hlocks hq9 hv9 hc9 hP hS (by exact Or.inl ⟨hE.1, by intro y; first | exact hE.2 y | exact hE.2 y.1 | exact hE.2 y.2 | exact hE.2 y.2.1 | exact hE.2 y.2.2 | exact hE.2 y.1.1 | exact hE.2 y.1.2⟩) (by decide) (by decide)) (q_anc (fun hq1 H locs hP hS => ?_))
  have hc2 := hwc.pe hq1
  have hk2 := kd_p (x := x) (by have := hq1; unfold peC at this; omega)
  generalize ho2 : 10 + Int.toNat x = ob2 at hc2 hk2 ⊢
  obtain ⟨ha2, hpw2, hph2, hpv2, hsh2, hor2, hro2, hlt2, h122⟩ := hc2
  refine lv_astore_n (lv' := [(3, .ref (ad ob2 0)), (0, .ref (ad 1 0)), (1, .int (i32 (x))), (2, .int (i32 (q)))]) hx hb dX3_sew_5 rfl hl (by decide) rfl (fun ls hl => ?_)
  refine lv_aload_n hx hb dX3_sew_6 rfl (lv_at hl 0 rfl) ?_
  refine lv_iload_n hx hb dX3_sew_7 rfl (lv_at hl 3 rfl) ?_
  refine q_callSx hx hb hml hl.1 hown hK hZ hP hS (c_X3_requireSecondColumn l g base ad S ob2 q hfl ha2 hk2 hrn2) t_665 (q_callB hK 664 15 666 t_664 t_15 t_666 f_yX3_requireSecondColumn ⟨by decide, by decide⟩) rfl rfl (Nat.le_of_ble_eq_true rfl) dX3_sew_8 ⟨by decide, by decide⟩ (fun E ce q9 H locs hE hq9 hv9 hc9 hP hS => by subst hQm; exact q_out hout hlocks hq9 hv9 hc9 hP hS (by subst ho2; exact Or.inl ⟨hE.1, by intro y; first | exact hE.2 y | exact hE.2 y.1 | exact hE.2 y.2 | exact hE.2 y.2.1 | exact hE.2 y.2.2 | exact hE.2 y.1.1 | exact hE.2 y.1.2⟩) (by decide) (by decide)) (q_anc (fun hq2 H locs hP hS => ?_))
  refine lv_aload_n hx hb dX3_sew_11 rfl (lv_at hl 0 rfl) ?_
  refine q_callSx hx hb hml hl.1 hown hK hZ hP hS (c_X3_requireDone l g base ad S ob2 hfl ha2 hk2 (by omega) (by omega)) t_597 (q_callB hK 596 15 598 t_596 t_15 t_598 f_yX3_requireDone ⟨by decide, by decide⟩) rfl rfl (Nat.le_of_ble_eq_true rfl) dX3_sew_12 ⟨by decide, by decide⟩ (fun E ce q9 H locs hE hq9 hv9 hc9 hP hS => by subst hQm; exact q_out hout hlocks hq9 hv9 hc9 hP hS (by subst ho2; exact Or.inr (Or.inl ⟨hE.1, by first | trivial | assumption | omega | exact ⟨by assumption, by omega⟩ | exact ⟨by assumption, by assumption⟩ | exact ⟨by assumption, by omega, by omega⟩ | exact ⟨by assumption, by omega, by omega, by omega, by omega⟩ | exact ⟨by assumption, by assumption, by omega⟩, by intro y; first | exact hE.2 y | exact hE.2 y.1 | exact hE.2 y.2 | exact hE.2 y.2.1 | exact hE.2 y.2.2 | exact hE.2 y.1.1 | exact hE.2 y.1.2⟩)) (by decide) (by decide)) (q_anc (fun hq3 H locs hP hS => ?_))
  refine lv_aload_n hx hb dX3_sew_15 rfl (lv_at hl 0 rfl) ?_
  refine lv_iload_n hx hb dX3_sew_16 rfl (lv_at hl 3 rfl) ?_
  refine q_callV (k := 5) hx hb hml hl.1 hown hK hZ hP hS ha2 hk2 rfl rfl (c_X2_hasSlitAhead l g base ad S ob2 q ha2 hk2 (by omega) (by omega)) t_300 t_301 (q_callB hK 682 24 302 t_682 t_24 t_302 f_yX2_hasSlitAhead ⟨by decide, by decide⟩) rfl rfl (Nat.le_of_ble_eq_true rfl) dX3_sew_17 ⟨by decide, by decide⟩  (q_an (fun H locs hP hS => ?_))
  refine lv_istore (lv' := [(4, .int (i32 (b2 (slC S ob2 q)))), (3, .ref (ad ob2 0)), (0, .ref (ad 1 0)), (1, .int (i32 (x))), (2, .int (i32 (q)))]) hx hb dX3_sew_20 hl (by decide) rfl (fun ls hl => ?_)
  refine lv_aload_n hx hb dX3_sew_22 rfl (lv_at hl 1 rfl) ?_
  refine lv_iload_n hx hb dX3_sew_23 rfl (lv_at hl 4 rfl) ?_
  refine q_callV (k := 5) hx hb hml hl.1 hown hK hZ hP hS ha2 hk2 rfl rfl (c_X2_sewAhead l g base ad S ob2 q ha2 hk2 (by omega)) t_684 t_685 (q_callB hK 683 24 686 t_683 t_24 t_686 f_yX2_sewAhead ⟨by decide, by decide⟩) rfl rfl (Nat.le_of_ble_eq_true rfl) dX3_sew_24 ⟨by decide, by decide⟩  (q_an (fun H locs hP hS => ?_))
  generalize eS4 : st S ob2 9 q 1 = S4 at hP
  have rS4 : ∀ (a1 b1 : Nat) (i1 : Int), rng (S4 a1 b1 i1) := fun a1 b1 i1 => hP.rg a1 b1 i1
  have qS4 : ∀ (a1 b1 : Nat) (i1 : Int), S4 a1 b1 i1 = if a1 = ob2 ∧ b1 = 9 ∧ i1 = q then 1 else S a1 b1 i1 := fun a1 b1 i1 => by rw [← eS4]; exact st_at _ _ _ _ _ _ _ _
  have aS4_1 : S4 1 0 (-1) = 1 := by rw [qS4, if_neg (by omega)]; exact hwc.h1
  have aS4_2 : S4 2 0 (-1) = 1 := by rw [qS4, if_neg (by omega)]; exact hwc.h2
  have aS4_ob2 : S4 ob2 0 (-1) = 1 := by rw [qS4, if_neg (by omega)]; exact ha2
  refine lv_iload hx hb dX3_sew_27 (lv_at hl 0 rfl) ?_
  refine q_nm (b2_c (show (slC S ob2 q) ↔ (slC S (10 + x.toNat) q) from by rw [ho2])) ?_
  subst hQm
  refine vx_ret ?_
  exact q_zret hx hb hr hlocks hP hS (b2_01 _) ⟨(by subst ho2; refine ⟨?_, ?_, ?_⟩ <;> first | trivial | assumption | omega | exact ⟨by assumption, by omega⟩ | exact ⟨by assumption, by assumption⟩ | exact ⟨by assumption, by omega, by omega⟩ | exact ⟨by assumption, by omega, by omega, by omega, by omega⟩ | exact ⟨by assumption, by assumption, by omega⟩), ⟨rfl, rfl, (by rw [← eS4, ho2])⟩⟩ (by decide) (by decide) dX3_sew_29

set_option maxHeartbeats 4000000 in
set_option maxRecDepth 100000 in
theorem c_X3_light (l : Launch) (g : GT) (base : Nat) (ad : Nat → Nat → Nat) (S : St) (x t : Int) (hfl : l.stackTraces = false) (hwc : wC S) (hrn : rng x) (hrn2 : rng t) : vx_Met l yX3_light [Cond.code yX3_light cX3_light 4 (some FieldType.int)] ({ frames := 7, cells := 2, slots := 12, locals := 112 }) (va_Pc [.ref (ad 1 0), .int (i32 (x)), .int (i32 (t))] (PK g base ad S)) (gQ g base (fun rr9 ad9 S9 => ((peC S x) ∧ (1 ≤ t ∧ t ≤ 9999) ∧ (dnC S (10 + x.toNat))) ∧ an (some (.int (i32 (shC (ltS S (10 + x.toNat) t) (10 + x.toNat))))) ad (ltS S (10 + x.toNat) t) rr9 ad9 S9)) (xQ g base ad S (fun E => t3 eB eA eS (peC S x) (1 ≤ t ∧ t ≤ 9999) (dnC S (10 + x.toNat)) E)) 2 12 (fun q => base ≤ q) := by
  refine mk_mx (own := RX3) (lv0 := [(0, .ref (ad 1 0)), (1, .int (i32 (x))), (2, .int (i32 (t)))]) (by decide) rfl (Nat.le_of_ble_eq_true rfl) rfl ?_
  intro p e s m below meth cz av Qm hx hb hr hml hown hlocks hout hK hZ hP hQm ls hl
  have hS : va_S (fun q => base ≤ q) s.heap s.heap [] := va_S.rf
  have rS : ∀ (a1 b1 : Nat) (i1 : Int), rng (S a1 b1 i1) := fun a1 b1 i1 => hP.rg a1 b1 i1
  refine lv_aload_n hx hb dX3_light_0 rfl (lv_at hl 0 rfl) ?_
  refine lv_iload_n hx hb dX3_light_1 rfl (lv_at hl 1 rfl) ?_
  refine q_callVx (k := 1) hx hb hml hl.1 hown hK hZ hP hS hwc.h1 rfl rfl rfl (c_X3_pieceNumbered l g base ad S x hfl hwc.h1 hrn) t_275 t_1 (q_callB hK 273 15 276 t_273 t_15 t_276 f_yX3_pieceNumbered ⟨by decide, by decide⟩) rfl rfl (Nat.le_of_ble_eq_true rfl) dX3_light_2 ⟨by decide, by decide⟩ (fun E ce q9 H locs hE hq9 hv9 hc9 hP hS => by subst hQm; exact q_out hout hlocks hq9 hv9 hc9 hP hS (by exact Or.inl ⟨hE.1, by intro y; first | exact hE.2 y | exact hE.2 y.1 | exact hE.2 y.2 | exact hE.2 y.2.1 | exact hE.2 y.2.2 | exact hE.2 y.1.1 | exact hE.2 y.1.2⟩) (by decide) (by decide)) (q_anc (fun hq1 H locs hP hS => ?_))
  have hc2 := hwc.pe hq1
  have hk2 := kd_p (x := x) (by have := hq1; unfold peC at this; omega)
  generalize ho2 : 10 + Int.toNat x = ob2 at hc2 hk2 ⊢
  obtain ⟨ha2, hpw2, hph2, hpv2, hsh2, hor2, hro2, hlt2, h122⟩ := hc2
  refine lv_astore_n (lv' := [(3, .ref (ad ob2 0)), (0, .ref (ad 1 0)), (1, .int (i32 (x))), (2, .int (i32 (t)))]) hx hb dX3_light_5 rfl hl (by decide) rfl (fun ls hl => ?_)
  refine lv_iload_n hx hb dX3_light_6 rfl (lv_at hl 3 rfl) ?_
  refine lv_iconst (v := i32 (1)) hx hb dX3_light_7 rfl ?_
  refine q_icmp_lt (tgt := 18) hx hb hrn2 ⟨by decide, by decide⟩ dX3_light_8 (by decide) (fun c_2 => ?_) (fun c_2 => ?_)
  · -- t < 1
    subst hQm
    exact q_throw hx hb hfl hml hl.1 hown hK hZ (by decide) t_206 t_20 t_697 (at_A hK) ao_A hP hS dX3_light_18 dX3_light_21 dX3_light_22 dX3_light_24 dX3_light_27 hout (by decide) (by decide) (by decide) (by decide) hlocks (by subst ho2; exact Or.inr (Or.inl ⟨rfl, by first | trivial | assumption | omega | exact ⟨by assumption, by omega⟩ | exact ⟨by assumption, by assumption⟩ | exact ⟨by assumption, by omega, by omega⟩ | exact ⟨by assumption, by omega, by omega, by omega, by omega⟩ | exact ⟨by assumption, by assumption, by omega⟩, by first | omega | (intro y; omega) | (intro y; have := y.1; omega) | (intro y; have := y.2; omega) | (intro y; exact absurd y.1 (by assumption)) | (intro y; exact absurd y.2 (by assumption)) | (intro y; have := y.2.1; omega)| (intro y; exact absurd y.2.1 (by assumption))| (intro y; exact absurd y.2.2 (by assumption)) | (intro y; exact absurd y (by assumption))⟩)) (by decide) (by decide)
  · -- 1 ≤ t
    refine lv_iload_n hx hb dX3_light_11 rfl (lv_at hl 3 rfl) ?_
    refine lv_sipush (v := i32 (9999)) hx hb dX3_light_12 (by decide) ?_
    refine q_icmp_le (tgt := 28) hx hb hrn2 ⟨by decide, by decide⟩ dX3_light_15 (by decide) (fun c_3 => ?_) (fun c_3 => ?_)
    · -- t ≤ 9999
      refine lv_aload_n hx hb dX3_light_28 rfl (lv_at hl 0 rfl) ?_
      refine q_callSx hx hb hml hl.1 hown hK hZ hP hS (c_X3_requireDone l g base ad S ob2 hfl ha2 hk2 (by omega) (by omega)) t_597 (q_callB hK 596 15 598 t_596 t_15 t_598 f_yX3_requireDone ⟨by decide, by decide⟩) rfl rfl (Nat.le_of_ble_eq_true rfl) dX3_light_29 ⟨by decide, by decide⟩ (fun E ce q9 H locs hE hq9 hv9 hc9 hP hS => by subst hQm; exact q_out hout hlocks hq9 hv9 hc9 hP hS (by subst ho2; exact Or.inr (Or.inr ⟨hE.1, by first | trivial | assumption | omega | exact ⟨by assumption, by omega⟩ | exact ⟨by assumption, by assumption⟩ | exact ⟨by assumption, by omega, by omega⟩ | exact ⟨by assumption, by omega, by omega, by omega, by omega⟩ | exact ⟨by assumption, by assumption, by omega⟩, by first | trivial | assumption | omega | exact ⟨by assumption, by omega⟩ | exact ⟨by assumption, by assumption⟩ | exact ⟨by assumption, by omega, by omega⟩ | exact ⟨by assumption, by omega, by omega, by omega, by omega⟩ | exact ⟨by assumption, by assumption, by omega⟩, by intro y; first | exact hE.2 y | exact hE.2 y.1 | exact hE.2 y.2 | exact hE.2 y.2.1 | exact hE.2 y.2.2 | exact hE.2 y.1.1 | exact hE.2 y.1.2⟩)) (by decide) (by decide)) (q_anc (fun hq4 H locs hP hS => ?_))
      refine lv_aload_n hx hb dX3_light_32 rfl (lv_at hl 0 rfl) ?_
      refine lv_iload_n hx hb dX3_light_33 rfl (lv_at hl 3 rfl) ?_
      refine lv_aload_n hx hb dX3_light_34 rfl (lv_at hl 1 rfl) ?_
      refine p_get (k := 1) hx hb hown hK hP hwc.h1 rfl rfl rfl (lay_X3 hK) 4 69 (by decide) t_69 rfl rfl dX3_light_35 ?_
      refine q_callV (k := 5) hx hb hml hl.1 hown hK hZ hP hS ha2 hk2 rfl rfl (c_X2_fade l g base ad S ob2 t ha2 hk2 hwc.h2 (by omega) (by omega) hwc.lc (by omega) hwc.fd hsh2 (hlt2 hq4)) t_699 t_700 (q_callB hK 698 24 701 t_698 t_24 t_701 f_yX2_fade ⟨by decide, by decide⟩) rfl rfl (Nat.le_of_ble_eq_true rfl) dX3_light_38 ⟨by decide, by decide⟩  (q_an (fun H locs hP hS => ?_))
      generalize eS5 : clF S ob2 7 (fdU S ob2 t) (S ob2 0 0) (S ob2 0 1) 0 = S5 at hP
      have rS5 : ∀ (a1 b1 : Nat) (i1 : Int), rng (S5 a1 b1 i1) := fun a1 b1 i1 => hP.rg a1 b1 i1
      have qS5 : ∀ (a1 b1 : Nat) (i1 : Int), S5 a1 b1 i1 = clF S ob2 7 (fdU S ob2 t) (S ob2 0 0) (S ob2 0 1) 0 a1 b1 i1 := fun a1 b1 i1 => by rw [← eS5]
      have aS5_1 : S5 1 0 (-1) = 1 := by rw [qS5, clF_o (by decide)]; exact hwc.h1
      have aS5_2 : S5 2 0 (-1) = 1 := by rw [qS5, clF_o (by decide)]; exact hwc.h2
      have aS5_ob2 : S5 ob2 0 (-1) = 1 := by rw [qS5, clF_o (by decide)]; exact ha2
      refine lv_aload_n hx hb dX3_light_41 rfl (lv_at hl 0 rfl) ?_
      refine q_callV (k := 5) hx hb hml hl.1 hown hK hZ hP hS aS5_ob2 hk2 rfl rfl (c_X2_sumOfShades l g base ad S5 ob2 aS5_ob2 hk2 (by rw [qS5, clF_o (by decide)]; omega) (by rw [qS5, clF_o (by decide)]; omega)) t_320 t_321 (q_callB hK 319 24 322 t_319 t_24 t_322 f_yX2_sumOfShades ⟨by decide, by decide⟩) rfl rfl (Nat.le_of_ble_eq_true rfl) dX3_light_42 ⟨by decide, by decide⟩  (q_an (fun H locs hP hS => ?_))
      refine q_nm (show (shC S5 ob2 : Int) = shC (ltS S (10 + x.toNat) t) (10 + x.toNat) from by subst ho2; rw [← eS5]; rfl) ?_
      subst hQm
      refine vx_ret ?_
      exact q_iret hx hb hr hlocks hP hS ⟨(by subst ho2; refine ⟨?_, ?_, ?_⟩ <;> first | trivial | assumption | omega | exact ⟨by assumption, by omega⟩ | exact ⟨by assumption, by assumption⟩ | exact ⟨by assumption, by omega, by omega⟩ | exact ⟨by assumption, by omega, by omega, by omega, by omega⟩ | exact ⟨by assumption, by assumption, by omega⟩), ⟨rfl, rfl, (by rw [← eS5, ho2]; rfl)⟩⟩ (by decide) (by decide) dX3_light_45
    · -- 9999 < t
      subst hQm
      exact q_throw hx hb hfl hml hl.1 hown hK hZ (by decide) t_206 t_20 t_697 (at_A hK) ao_A hP hS dX3_light_18 dX3_light_21 dX3_light_22 dX3_light_24 dX3_light_27 hout (by decide) (by decide) (by decide) (by decide) hlocks (by subst ho2; exact Or.inr (Or.inl ⟨rfl, by first | trivial | assumption | omega | exact ⟨by assumption, by omega⟩ | exact ⟨by assumption, by assumption⟩ | exact ⟨by assumption, by omega, by omega⟩ | exact ⟨by assumption, by omega, by omega, by omega, by omega⟩ | exact ⟨by assumption, by assumption, by omega⟩, by first | omega | (intro y; omega) | (intro y; have := y.1; omega) | (intro y; have := y.2; omega) | (intro y; exact absurd y.1 (by assumption)) | (intro y; exact absurd y.2 (by assumption)) | (intro y; have := y.2.1; omega)| (intro y; exact absurd y.2.1 (by assumption))| (intro y; exact absurd y.2.2 (by assumption)) | (intro y; exact absurd y (by assumption))⟩)) (by decide) (by decide)

set_option maxHeartbeats 4000000 in
set_option maxRecDepth 100000 in
theorem c_X3_wash (l : Launch) (g : GT) (base : Nat) (ad : Nat → Nat → Nat) (S : St) (x : Int) (hfl : l.stackTraces = false) (hwc : wC S) (hrn : rng x) : vx_Met l yX3_wash [Cond.code yX3_wash cX3_wash 3 (some FieldType.int)] ({ frames := 7, cells := 2, slots := 12, locals := 113 }) (va_Pc [.ref (ad 1 0), .int (i32 (x))] (PK g base ad S)) (gQ g base (fun rr9 ad9 S9 => ((peC S x) ∧ (dnC S (10 + x.toNat)) ∧ (True)) ∧ an (some (.int (i32 (shC (waS S (10 + x.toNat)) (10 + x.toNat))))) ad (waS S (10 + x.toNat)) rr9 ad9 S9)) (xQ g base ad S (fun E => t3 eB eS "" (peC S x) (dnC S (10 + x.toNat)) (True) E)) 2 12 (fun q => base ≤ q) := by
  refine mk_mx (own := RX3) (lv0 := [(0, .ref (ad 1 0)), (1, .int (i32 (x)))]) (by decide) rfl (Nat.le_of_ble_eq_true rfl) rfl ?_
  intro p e s m below meth cz av Qm hx hb hr hml hown hlocks hout hK hZ hP hQm ls hl
  have hS : va_S (fun q => base ≤ q) s.heap s.heap [] := va_S.rf
  have rS : ∀ (a1 b1 : Nat) (i1 : Int), rng (S a1 b1 i1) := fun a1 b1 i1 => hP.rg a1 b1 i1
  refine lv_aload_n hx hb dX3_wash_0 rfl (lv_at hl 0 rfl) ?_
  refine lv_iload_n hx hb dX3_wash_1 rfl (lv_at hl 1 rfl) ?_
  refine q_callVx (k := 1) hx hb hml hl.1 hown hK hZ hP hS hwc.h1 rfl rfl rfl (c_X3_pieceNumbered l g base ad S x hfl hwc.h1 hrn) t_275 t_1 (q_callB hK 273 15 276 t_273 t_15 t_276 f_yX3_pieceNumbered ⟨by decide, by decide⟩) rfl rfl (Nat.le_of_ble_eq_true rfl) dX3_wash_2 ⟨by decide, by decide⟩ (fun E ce q9 H locs hE hq9 hv9 hc9 hP hS => by subst hQm; exact q_out hout hlocks hq9 hv9 hc9 hP hS (by exact Or.inl ⟨hE.1, by intro y; first | exact hE.2 y | exact hE.2 y.1 | exact hE.2 y.2 | exact hE.2 y.2.1 | exact hE.2 y.2.2 | exact hE.2 y.1.1 | exact hE.2 y.1.2⟩) (by decide) (by decide)) (q_anc (fun hq1 H locs hP hS => ?_))
  have hc2 := hwc.pe hq1
  have hk2 := kd_p (x := x) (by have := hq1; unfold peC at this; omega)
  generalize ho2 : 10 + Int.toNat x = ob2 at hc2 hk2 ⊢
  obtain ⟨ha2, hpw2, hph2, hpv2, hsh2, hor2, hro2, hlt2, h122⟩ := hc2
  refine lv_astore_n (lv' := [(2, .ref (ad ob2 0)), (0, .ref (ad 1 0)), (1, .int (i32 (x)))]) hx hb dX3_wash_5 rfl hl (by decide) rfl (fun ls hl => ?_)
  refine lv_aload_n hx hb dX3_wash_6 rfl (lv_at hl 0 rfl) ?_
  refine q_callSx hx hb hml hl.1 hown hK hZ hP hS (c_X3_requireDone l g base ad S ob2 hfl ha2 hk2 (by omega) (by omega)) t_597 (q_callB hK 596 15 598 t_596 t_15 t_598 f_yX3_requireDone ⟨by decide, by decide⟩) rfl rfl (Nat.le_of_ble_eq_true rfl) dX3_wash_7 ⟨by decide, by decide⟩ (fun E ce q9 H locs hE hq9 hv9 hc9 hP hS => by subst hQm; exact q_out hout hlocks hq9 hv9 hc9 hP hS (by subst ho2; exact Or.inr (Or.inl ⟨hE.1, by first | trivial | assumption | omega | exact ⟨by assumption, by omega⟩ | exact ⟨by assumption, by assumption⟩ | exact ⟨by assumption, by omega, by omega⟩ | exact ⟨by assumption, by omega, by omega, by omega, by omega⟩ | exact ⟨by assumption, by assumption, by omega⟩, by intro y; first | exact hE.2 y | exact hE.2 y.1 | exact hE.2 y.2 | exact hE.2 y.2.1 | exact hE.2 y.2.2 | exact hE.2 y.1.1 | exact hE.2 y.1.2⟩)) (by decide) (by decide)) (q_anc (fun hq2 H locs hP hS => ?_))
  refine lv_aload_n hx hb dX3_wash_10 rfl (lv_at hl 0 rfl) ?_
  refine lv_aload_n hx hb dX3_wash_11 rfl (lv_at hl 1 rfl) ?_
  refine p_get (k := 1) hx hb hown hK hP hwc.h1 rfl rfl rfl (lay_X3 hK) 4 69 (by decide) t_69 rfl rfl dX3_wash_12 ?_
  refine q_callV (k := 5) hx hb hml hl.1 hown hK hZ hP hS ha2 hk2 rfl rfl (c_X2_bleed l g base ad S ob2 ha2 hk2 hwc.h2 (by omega) (by omega) hwc.lc hsh2 (hlt2 hq2)) t_638 t_639 (q_callB hK 637 24 640 t_637 t_24 t_640 f_yX2_bleed ⟨by decide, by decide⟩) rfl rfl (Nat.le_of_ble_eq_true rfl) dX3_wash_15 ⟨by decide, by decide⟩  (q_an (fun H locs hP hS => ?_))
  generalize eS3 : bst S ob2 (nbK S ob2 (S ob2 0 1) 0) = S3 at hP
  have rS3 : ∀ (a1 b1 : Nat) (i1 : Int), rng (S3 a1 b1 i1) := fun a1 b1 i1 => hP.rg a1 b1 i1
  have qS3 : ∀ (a1 b1 : Nat) (i1 : Int), S3 a1 b1 i1 = bst S ob2 (nbK S ob2 (S ob2 0 1) 0) a1 b1 i1 := fun a1 b1 i1 => by rw [← eS3]
  have aS3_1 : S3 1 0 (-1) = 1 := by rw [qS3, bst_o (by decide)]; exact hwc.h1
  have aS3_2 : S3 2 0 (-1) = 1 := by rw [qS3, bst_o (by decide)]; exact hwc.h2
  have aS3_ob2 : S3 ob2 0 (-1) = 1 := by rw [qS3, bst_o (by decide)]; exact ha2
  refine lv_aload_n hx hb dX3_wash_18 rfl (lv_at hl 0 rfl) ?_
  refine q_callV (k := 5) hx hb hml hl.1 hown hK hZ hP hS aS3_ob2 hk2 rfl rfl (c_X2_sumOfShades l g base ad S3 ob2 aS3_ob2 hk2 (by rw [qS3, bst_o (by decide)]; omega) (by rw [qS3, bst_o (by decide)]; omega)) t_320 t_321 (q_callB hK 319 24 322 t_319 t_24 t_322 f_yX2_sumOfShades ⟨by decide, by decide⟩) rfl rfl (Nat.le_of_ble_eq_true rfl) dX3_wash_19 ⟨by decide, by decide⟩  (q_an (fun H locs hP hS => ?_))
  refine q_nm (show (shC S3 ob2 : Int) = shC (waS S (10 + x.toNat)) (10 + x.toNat) from by subst ho2; rw [← eS3]; rfl) ?_
  subst hQm
  refine vx_ret ?_
  exact q_iret hx hb hr hlocks hP hS ⟨(by subst ho2; refine ⟨?_, ?_, ?_⟩ <;> first | trivial | assumption | omega | exact ⟨by assumption, by omega⟩ | exact ⟨by assumption, by assumption⟩ | exact ⟨by assumption, by omega, by omega⟩ | exact ⟨by assumption, by omega, by omega, by omega, by omega⟩ | exact ⟨by assumption, by assumption, by omega⟩), ⟨rfl, rfl, (by rw [← eS3, ho2]; rfl)⟩⟩ (by decide) (by decide) dX3_wash_22

set_option maxHeartbeats 4000000 in
set_option maxRecDepth 100000 in
theorem c_X3_cell (l : Launch) (g : GT) (base : Nat) (ad : Nat → Nat → Nat) (S : St) (x r c w : Int) (hfl : l.stackTraces = false) (hwc : wC S) (hrn : rng x) (hrn2 : rng r) (hrn3 : rng c) (hrn4 : rng w) : vx_Met l yX3_cell [Cond.code yX3_cell cX3_cell 6 (some FieldType.int)] ({ frames := 7, cells := 2, slots := 12, locals := 112 }) (va_Pc [.ref (ad 1 0), .int (i32 (x)), .int (i32 (r)), .int (i32 (c)), .int (i32 (w))] (PK g base ad S)) (gQ g base (fun rr9 ad9 S9 => ((peC S x ∧ (0 ≤ r ∧ r < S (10 + x.toNat) 0 1 ∧ 0 ≤ c ∧ c < S (10 + x.toNat) 0 0)) ∧ (0 ≤ w ∧ w < 3) ∧ (True)) ∧ an (some (.int (i32 (ceF S (10 + x.toNat) r c w)))) ad S rr9 ad9 S9)) (xQ g base ad S (fun E => t3 eB eA "" (peC S x ∧ (0 ≤ r ∧ r < S (10 + x.toNat) 0 1 ∧ 0 ≤ c ∧ c < S (10 + x.toNat) 0 0)) (0 ≤ w ∧ w < 3) (True) E)) 2 12 (fun q => base ≤ q) := by
  refine mk_mx (own := RX3) (lv0 := [(0, .ref (ad 1 0)), (1, .int (i32 (x))), (2, .int (i32 (r))), (3, .int (i32 (c))), (4, .int (i32 (w)))]) (by decide) rfl (Nat.le_of_ble_eq_true rfl) rfl ?_
  intro p e s m below meth cz av Qm hx hb hr hml hown hlocks hout hK hZ hP hQm ls hl
  have hS : va_S (fun q => base ≤ q) s.heap s.heap [] := va_S.rf
  have rS : ∀ (a1 b1 : Nat) (i1 : Int), rng (S a1 b1 i1) := fun a1 b1 i1 => hP.rg a1 b1 i1
  refine lv_aload_n hx hb dX3_cell_0 rfl (lv_at hl 0 rfl) ?_
  refine lv_iload_n hx hb dX3_cell_1 rfl (lv_at hl 1 rfl) ?_
  refine q_callVx (k := 1) hx hb hml hl.1 hown hK hZ hP hS hwc.h1 rfl rfl rfl (c_X3_pieceNumbered l g base ad S x hfl hwc.h1 hrn) t_275 t_1 (q_callB hK 273 15 276 t_273 t_15 t_276 f_yX3_pieceNumbered ⟨by decide, by decide⟩) rfl rfl (Nat.le_of_ble_eq_true rfl) dX3_cell_2 ⟨by decide, by decide⟩ (fun E ce q9 H locs hE hq9 hv9 hc9 hP hS => by subst hQm; exact q_out hout hlocks hq9 hv9 hc9 hP hS (by exact Or.inl ⟨hE.1, by intro y; first | exact hE.2 y | exact hE.2 y.1 | exact hE.2 y.2 | exact hE.2 y.2.1 | exact hE.2 y.2.2 | exact hE.2 y.1.1 | exact hE.2 y.1.2⟩) (by decide) (by decide)) (q_anc (fun hq1 H locs hP hS => ?_))
  have hc2 := hwc.pe hq1
  have hk2 := kd_p (x := x) (by have := hq1; unfold peC at this; omega)
  generalize ho2 : 10 + Int.toNat x = ob2 at hc2 hk2 ⊢
  obtain ⟨ha2, hpw2, hph2, hpv2, hsh2, hor2, hro2, hlt2, h122⟩ := hc2
  refine lv_astore (lv' := [(5, .ref (ad ob2 0)), (0, .ref (ad 1 0)), (1, .int (i32 (x))), (2, .int (i32 (r))), (3, .int (i32 (c))), (4, .int (i32 (w)))]) hx hb dX3_cell_5 hl (by decide) rfl (fun ls hl => ?_)
  refine lv_aload hx hb dX3_cell_7 (lv_at hl 0 rfl) ?_
  refine lv_iload_n hx hb dX3_cell_9 rfl (lv_at hl 3 rfl) ?_
  refine lv_iload_n hx hb dX3_cell_10 rfl (lv_at hl 4 rfl) ?_
  refine q_callV (k := 5) hx hb hml hl.1 hown hK hZ hP hS ha2 hk2 rfl rfl (c_X2_holds l g base ad S ob2 r c ha2 hk2 hrn2 hrn3) t_339 t_340 (q_callB hK 338 24 341 t_338 t_24 t_341 f_yX2_holds ⟨by decide, by decide⟩) rfl rfl (Nat.le_of_ble_eq_true rfl) dX3_cell_11 ⟨by decide, by decide⟩  (q_an (fun H locs hP hS => ?_))
  refine q_if_neb (tgt := 27) hx hb dX3_cell_14 (by decide) (fun c_2 => ?_) (fun c_2 => ?_)
  · -- 0 ≤ r ∧ r < S ob2 0 1 ∧ 0 ≤ c ∧ c < S ob2 0 0
    refine lv_iload hx hb dX3_cell_27 (lv_at hl 5 rfl) ?_
    by_cases w_3_0 : w = 0
    · have hw : (i32 w).toInt = 0 := by rw [i32_toInt hrn4]; exact w_3_0
      refine lv_tableIn (off := 27) (tgt := 56) hx hb dX3_cell_29 (by rw [hw]; decide) (by rw [hw]; decide) (by rw [hw]; rfl) (by decide) ?_
      refine lv_aload hx hb dX3_cell_56 (lv_at hl 0 rfl) ?_
      refine lv_iload_n hx hb dX3_cell_58 rfl (lv_at hl 3 rfl) ?_
      refine lv_iload_n hx hb dX3_cell_59 rfl (lv_at hl 4 rfl) ?_
      refine q_callV (k := 5) hx hb hml hl.1 hown hK hZ hP hS ha2 hk2 rfl rfl (c_X2_colourAt l g base ad S ob2 r c ha2 hk2 (by omega) (by omega)) t_313 t_314 (q_callB hK 343 24 315 t_343 t_24 t_315 f_yX2_colourAt ⟨by decide, by decide⟩) rfl rfl (Nat.le_of_ble_eq_true rfl) dX3_cell_60 ⟨by decide, by decide⟩  (q_an (fun H locs hP hS => ?_))
      refine q_nm (show (S ob2 5 (r * 24 + c) : Int) = ceF S (10 + x.toNat) r c w from by rw [ho2, ceF_0 (by omega)]) ?_
      subst hQm
      refine vx_ret ?_
      exact q_iret hx hb hr hlocks hP hS ⟨(by subst ho2; refine ⟨?_, ?_, ?_⟩ <;> first | trivial | assumption | omega | exact ⟨by assumption, by omega⟩ | exact ⟨by assumption, by assumption⟩ | exact ⟨by assumption, by omega, by omega⟩ | exact ⟨by assumption, by omega, by omega, by omega, by omega⟩ | exact ⟨by assumption, by assumption, by omega⟩), ⟨rfl, rfl, rfl⟩⟩ (by decide) (by decide) dX3_cell_63
    by_cases w_3_1 : w = 1
    · have hw : (i32 w).toInt = 1 := by rw [i32_toInt hrn4]; exact w_3_1
      refine lv_tableIn (off := 35) (tgt := 64) hx hb dX3_cell_29 (by rw [hw]; decide) (by rw [hw]; decide) (by rw [hw]; rfl) (by decide) ?_
      refine lv_aload hx hb dX3_cell_64 (lv_at hl 0 rfl) ?_
      refine lv_iload_n hx hb dX3_cell_66 rfl (lv_at hl 3 rfl) ?_
      refine lv_iload_n hx hb dX3_cell_67 rfl (lv_at hl 4 rfl) ?_
      refine q_callV (k := 5) hx hb hml hl.1 hown hK hZ hP hS ha2 hk2 rfl rfl (c_X2_lotAt l g base ad S ob2 r c ha2 hk2 (by omega) (by omega)) t_99 t_100 (q_callB hK 344 24 101 t_344 t_24 t_101 f_yX2_lotAt ⟨by decide, by decide⟩) rfl rfl (Nat.le_of_ble_eq_true rfl) dX3_cell_68 ⟨by decide, by decide⟩  (q_an (fun H locs hP hS => ?_))
      refine q_nm (show (S ob2 6 (r * 24 + c) : Int) = ceF S (10 + x.toNat) r c w from by rw [ho2, ceF_1 (by omega)]) ?_
      subst hQm
      refine vx_ret ?_
      exact q_iret hx hb hr hlocks hP hS ⟨(by subst ho2; refine ⟨?_, ?_, ?_⟩ <;> first | trivial | assumption | omega | exact ⟨by assumption, by omega⟩ | exact ⟨by assumption, by assumption⟩ | exact ⟨by assumption, by omega, by omega⟩ | exact ⟨by assumption, by omega, by omega, by omega, by omega⟩ | exact ⟨by assumption, by assumption, by omega⟩), ⟨rfl, rfl, rfl⟩⟩ (by decide) (by decide) dX3_cell_71
    by_cases w_3_2 : w = 2
    · have hw : (i32 w).toInt = 2 := by rw [i32_toInt hrn4]; exact w_3_2
      refine lv_tableIn (off := 43) (tgt := 72) hx hb dX3_cell_29 (by rw [hw]; decide) (by rw [hw]; decide) (by rw [hw]; rfl) (by decide) ?_
      refine lv_aload hx hb dX3_cell_72 (lv_at hl 0 rfl) ?_
      refine lv_iload_n hx hb dX3_cell_74 rfl (lv_at hl 3 rfl) ?_
      refine lv_iload_n hx hb dX3_cell_75 rfl (lv_at hl 4 rfl) ?_
      refine q_callV (k := 5) hx hb hml hl.1 hown hK hZ hP hS ha2 hk2 rfl rfl (c_X2_shadeAt l g base ad S ob2 r c ha2 hk2 (by omega) (by omega)) t_324 t_325 (q_callB hK 345 24 326 t_345 t_24 t_326 f_yX2_shadeAt ⟨by decide, by decide⟩) rfl rfl (Nat.le_of_ble_eq_true rfl) dX3_cell_76 ⟨by decide, by decide⟩  (q_an (fun H locs hP hS => ?_))
      refine q_nm (show (S ob2 7 (r * 24 + c) : Int) = ceF S (10 + x.toNat) r c w from by rw [ho2, ceF_2 (by omega)]) ?_
      subst hQm
      refine vx_ret ?_
      exact q_iret hx hb hr hlocks hP hS ⟨(by subst ho2; refine ⟨?_, ?_, ?_⟩ <;> first | trivial | assumption | omega | exact ⟨by assumption, by omega⟩ | exact ⟨by assumption, by assumption⟩ | exact ⟨by assumption, by omega, by omega⟩ | exact ⟨by assumption, by omega, by omega, by omega, by omega⟩ | exact ⟨by assumption, by assumption, by omega⟩), ⟨rfl, rfl, rfl⟩⟩ (by decide) (by decide) dX3_cell_79
    have hdf : ∀ (H : Heap) (locs : List Loc), pic g base ad S H → va_S (fun q => base ≤ q) s.heap H locs → W p l e ({ frames := 7, cells := 2, slots := 12, locals := 112 } : Room) s m av below meth cz H locs 1 6 Qm (F0 m 80 ls ([])) := by
      intro H locs hP hS
      subst hQm
      exact q_throw hx hb hfl hml hl.1 hown hK hZ (by decide) t_206 t_20 t_346 (at_A hK) ao_A hP hS dX3_cell_80 dX3_cell_83 dX3_cell_84 dX3_cell_86 dX3_cell_89 hout (by decide) (by decide) (by decide) (by decide) hlocks (by subst ho2; exact Or.inr (Or.inl ⟨rfl, by first | trivial | assumption | omega | exact ⟨by assumption, by omega⟩ | exact ⟨by assumption, by assumption⟩ | exact ⟨by assumption, by omega, by omega⟩ | exact ⟨by assumption, by omega, by omega, by omega, by omega⟩ | exact ⟨by assumption, by assumption, by omega⟩, by first | omega | (intro y; omega) | (intro y; have := y.1; omega) | (intro y; have := y.2; omega) | (intro y; exact absurd y.1 (by assumption)) | (intro y; exact absurd y.2 (by assumption)) | (intro y; have := y.2.1; omega)| (intro y; exact absurd y.2.1 (by assumption))| (intro y; exact absurd y.2.2 (by assumption)) | (intro y; exact absurd y (by assumption))⟩)) (by decide) (by decide)
    exact lv_tableOut (tgt := 80) hx hb dX3_cell_29 (by rw [i32_toInt hrn4]; omega) (by decide) (hdf _ _ hP hS)
  · -- ¬ (0 ≤ r ∧ r < S ob2 0 1 ∧ 0 ≤ c ∧ c < S ob2 0 0)
    subst hQm
    exact q_throw hx hb hfl hml hl.1 hown hK hZ (by decide) t_138 t_23 t_342 (at_B hK) ao_B hP hS dX3_cell_17 dX3_cell_20 dX3_cell_21 dX3_cell_23 dX3_cell_26 hout (by decide) (by decide) (by decide) (by decide) hlocks (by subst ho2; exact Or.inl ⟨rfl, by first | omega | (intro y; omega) | (intro y; have := y.1; omega) | (intro y; have := y.2; omega) | (intro y; exact absurd y.1 (by assumption)) | (intro y; exact absurd y.2 (by assumption)) | (intro y; have := y.2.1; omega)| (intro y; exact absurd y.2.1 (by assumption))| (intro y; exact absurd y.2.2 (by assumption)) | (intro y; exact absurd y (by assumption))⟩) (by decide) (by decide)

set_option maxHeartbeats 4000000 in
set_option maxRecDepth 100000 in
theorem c_X3_pieceIs (l : Launch) (g : GT) (base : Nat) (ad : Nat → Nat → Nat) (S : St) (x w : Int) (hfl : l.stackTraces = false) (hwc : wC S) (hrn : rng x) (hrn2 : rng w) : vx_Met l yX3_pieceIs [Cond.code yX3_pieceIs cX3_pieceIs 4 (some FieldType.int)] ({ frames := 7, cells := 2, slots := 12, locals := 112 }) (va_Pc [.ref (ad 1 0), .int (i32 (x)), .int (i32 (w))] (PK g base ad S)) (gQ g base (fun rr9 ad9 S9 => ((peC S x) ∧ (0 ≤ w ∧ w < 6) ∧ (True)) ∧ an (some (.int (i32 (pcC S (10 + x.toNat) w)))) ad S rr9 ad9 S9)) (xQ g base ad S (fun E => t3 eB eA "" (peC S x) (0 ≤ w ∧ w < 6) (True) E)) 2 12 (fun q => base ≤ q) := by
  refine mk_mx (own := RX3) (lv0 := [(0, .ref (ad 1 0)), (1, .int (i32 (x))), (2, .int (i32 (w)))]) (by decide) rfl (Nat.le_of_ble_eq_true rfl) rfl ?_
  intro p e s m below meth cz av Qm hx hb hr hml hown hlocks hout hK hZ hP hQm ls hl
  have hS : va_S (fun q => base ≤ q) s.heap s.heap [] := va_S.rf
  have rS : ∀ (a1 b1 : Nat) (i1 : Int), rng (S a1 b1 i1) := fun a1 b1 i1 => hP.rg a1 b1 i1
  refine lv_aload_n hx hb dX3_pieceIs_0 rfl (lv_at hl 0 rfl) ?_
  refine lv_iload_n hx hb dX3_pieceIs_1 rfl (lv_at hl 1 rfl) ?_
  refine q_callVx (k := 1) hx hb hml hl.1 hown hK hZ hP hS hwc.h1 rfl rfl rfl (c_X3_pieceNumbered l g base ad S x hfl hwc.h1 hrn) t_275 t_1 (q_callB hK 273 15 276 t_273 t_15 t_276 f_yX3_pieceNumbered ⟨by decide, by decide⟩) rfl rfl (Nat.le_of_ble_eq_true rfl) dX3_pieceIs_2 ⟨by decide, by decide⟩ (fun E ce q9 H locs hE hq9 hv9 hc9 hP hS => by subst hQm; exact q_out hout hlocks hq9 hv9 hc9 hP hS (by exact Or.inl ⟨hE.1, by intro y; first | exact hE.2 y | exact hE.2 y.1 | exact hE.2 y.2 | exact hE.2 y.2.1 | exact hE.2 y.2.2 | exact hE.2 y.1.1 | exact hE.2 y.1.2⟩) (by decide) (by decide)) (q_anc (fun hq1 H locs hP hS => ?_))
  have hc2 := hwc.pe hq1
  have hk2 := kd_p (x := x) (by have := hq1; unfold peC at this; omega)
  generalize ho2 : 10 + Int.toNat x = ob2 at hc2 hk2 ⊢
  obtain ⟨ha2, hpw2, hph2, hpv2, hsh2, hor2, hro2, hlt2, h122⟩ := hc2
  refine lv_astore_n (lv' := [(3, .ref (ad ob2 0)), (0, .ref (ad 1 0)), (1, .int (i32 (x))), (2, .int (i32 (w)))]) hx hb dX3_pieceIs_5 rfl hl (by decide) rfl (fun ls hl => ?_)
  refine lv_iload_n hx hb dX3_pieceIs_6 rfl (lv_at hl 3 rfl) ?_
  by_cases w_2_0 : w = 0
  · have hw : (i32 w).toInt = 0 := by rw [i32_toInt hrn2]; exact w_2_0
    refine lv_tableIn (off := 37) (tgt := 44) hx hb dX3_pieceIs_7 (by rw [hw]; decide) (by rw [hw]; decide) (by rw [hw]; rfl) (by decide) ?_
    refine lv_aload_n hx hb dX3_pieceIs_44 rfl (lv_at hl 0 rfl) ?_
    refine q_callV (k := 5) hx hb hml hl.1 hown hK hZ hP hS ha2 hk2 rfl rfl (c_X2_width l g base ad S ob2 ha2 hk2) t_279 t_280 (q_callB hK 278 24 281 t_278 t_24 t_281 f_yX2_width ⟨by decide, by decide⟩) rfl rfl (Nat.le_of_ble_eq_true rfl) dX3_pieceIs_45 ⟨by decide, by decide⟩  (q_an (fun H locs hP hS => ?_))
    refine q_nm (show (S ob2 0 0 : Int) = pcC S (10 + x.toNat) w from by rw [ho2, pcC_0 (by omega)]) ?_
    subst hQm
    refine vx_ret ?_
    exact q_iret hx hb hr hlocks hP hS ⟨(by subst ho2; refine ⟨?_, ?_, ?_⟩ <;> first | trivial | assumption | omega | exact ⟨by assumption, by omega⟩ | exact ⟨by assumption, by assumption⟩ | exact ⟨by assumption, by omega, by omega⟩ | exact ⟨by assumption, by omega, by omega, by omega, by omega⟩ | exact ⟨by assumption, by assumption, by omega⟩), ⟨rfl, rfl, rfl⟩⟩ (by decide) (by decide) dX3_pieceIs_48
  by_cases w_2_1 : w = 1
  · have hw : (i32 w).toInt = 1 := by rw [i32_toInt hrn2]; exact w_2_1
    refine lv_tableIn (off := 42) (tgt := 49) hx hb dX3_pieceIs_7 (by rw [hw]; decide) (by rw [hw]; decide) (by rw [hw]; rfl) (by decide) ?_
    refine lv_aload_n hx hb dX3_pieceIs_49 rfl (lv_at hl 0 rfl) ?_
    refine q_callV (k := 5) hx hb hml hl.1 hown hK hZ hP hS ha2 hk2 rfl rfl (c_X2_height l g base ad S ob2 ha2 hk2) t_283 t_284 (q_callB hK 282 24 285 t_282 t_24 t_285 f_yX2_height ⟨by decide, by decide⟩) rfl rfl (Nat.le_of_ble_eq_true rfl) dX3_pieceIs_50 ⟨by decide, by decide⟩  (q_an (fun H locs hP hS => ?_))
    refine q_nm (show (S ob2 0 1 : Int) = pcC S (10 + x.toNat) w from by rw [ho2, pcC_1 (by omega)]) ?_
    subst hQm
    refine vx_ret ?_
    exact q_iret hx hb hr hlocks hP hS ⟨(by subst ho2; refine ⟨?_, ?_, ?_⟩ <;> first | trivial | assumption | omega | exact ⟨by assumption, by omega⟩ | exact ⟨by assumption, by assumption⟩ | exact ⟨by assumption, by omega, by omega⟩ | exact ⟨by assumption, by omega, by omega, by omega, by omega⟩ | exact ⟨by assumption, by assumption, by omega⟩), ⟨rfl, rfl, rfl⟩⟩ (by decide) (by decide) dX3_pieceIs_53
  by_cases w_2_2 : w = 2
  · have hw : (i32 w).toInt = 2 := by rw [i32_toInt hrn2]; exact w_2_2
    refine lv_tableIn (off := 47) (tgt := 54) hx hb dX3_pieceIs_7 (by rw [hw]; decide) (by rw [hw]; decide) (by rw [hw]; rfl) (by decide) ?_
    refine lv_aload_n hx hb dX3_pieceIs_54 rfl (lv_at hl 0 rfl) ?_
    refine q_callV (k := 5) hx hb hml hl.1 hown hK hZ hP hS ha2 hk2 rfl rfl (c_X2_countWoven l g base ad S ob2 ha2 hk2 (by omega) (by omega)) t_287 t_288 (q_callB hK 286 24 289 t_286 t_24 t_289 f_yX2_countWoven ⟨by decide, by decide⟩) rfl rfl (Nat.le_of_ble_eq_true rfl) dX3_pieceIs_55 ⟨by decide, by decide⟩  (q_an (fun H locs hP hS => ?_))
    refine q_nm (show (wnC S ob2 : Int) = pcC S (10 + x.toNat) w from by rw [ho2, pcC_2 (by omega)]) ?_
    subst hQm
    refine vx_ret ?_
    exact q_iret hx hb hr hlocks hP hS ⟨(by subst ho2; refine ⟨?_, ?_, ?_⟩ <;> first | trivial | assumption | omega | exact ⟨by assumption, by omega⟩ | exact ⟨by assumption, by assumption⟩ | exact ⟨by assumption, by omega, by omega⟩ | exact ⟨by assumption, by omega, by omega, by omega, by omega⟩ | exact ⟨by assumption, by assumption, by omega⟩), ⟨rfl, rfl, rfl⟩⟩ (by decide) (by decide) dX3_pieceIs_58
  by_cases w_2_3 : w = 3
  · have hw : (i32 w).toInt = 3 := by rw [i32_toInt hrn2]; exact w_2_3
    refine lv_tableIn (off := 52) (tgt := 59) hx hb dX3_pieceIs_7 (by rw [hw]; decide) (by rw [hw]; decide) (by rw [hw]; rfl) (by decide) ?_
    refine lv_aload_n hx hb dX3_pieceIs_59 rfl (lv_at hl 0 rfl) ?_
    refine q_callV (k := 5) hx hb hml hl.1 hown hK hZ hP hS ha2 hk2 rfl rfl (c_X2_isDone l g base ad S ob2 ha2 hk2 (by omega) (by omega)) t_291 t_292 (q_callB hK 290 24 293 t_290 t_24 t_293 f_yX2_isDone ⟨by decide, by decide⟩) rfl rfl (Nat.le_of_ble_eq_true rfl) dX3_pieceIs_60 ⟨by decide, by decide⟩  (q_an (fun H locs hP hS => ?_))
    have J71 : ∀ (H : Heap) (locs : List Loc), pic g base ad S H → va_S (fun q => base ≤ q) s.heap H locs → W p l e ({ frames := 7, cells := 2, slots := 12, locals := 112 } : Room) s m av below meth cz H locs 1 6 Qm (F0 m 71 ls (Value.int (i32 (b2 ((wnC S ob2 = S ob2 0 0 * S ob2 0 1)))) :: [])) := by
      intro H locs hP hS
      refine q_nm (show (b2 ((wnC S ob2 = S ob2 0 0 * S ob2 0 1)) : Int) = pcC S (10 + x.toNat) w from by rw [ho2, pcC_3 (by omega)]; rfl) ?_
      subst hQm
      refine vx_ret ?_
      exact q_iret hx hb hr hlocks hP hS ⟨(by subst ho2; refine ⟨?_, ?_, ?_⟩ <;> first | trivial | assumption | omega | exact ⟨by assumption, by omega⟩ | exact ⟨by assumption, by assumption⟩ | exact ⟨by assumption, by omega, by omega⟩ | exact ⟨by assumption, by omega, by omega, by omega, by omega⟩ | exact ⟨by assumption, by assumption, by omega⟩), ⟨rfl, rfl, rfl⟩⟩ (by decide) (by decide) dX3_pieceIs_71
    refine q_if_eqb (tgt := 70) hx hb dX3_pieceIs_63 (by decide) (fun c_3 => ?_) (fun c_3 => ?_)
    · -- ¬ (wnC S ob2 = S ob2 0 0 * S ob2 0 1)
      refine lv_iconst (v := i32 (0)) hx hb dX3_pieceIs_70 rfl ?_
      refine q_nm (b2_f (show ¬ ((wnC S ob2 = S ob2 0 0 * S ob2 0 1)) from by first | omega | (simp only [*]; done) | simp_all)).symm ?_
      exact J71 _ _ hP hS
    · -- wnC S ob2 = S ob2 0 0 * S ob2 0 1
      refine lv_iconst (v := i32 (1)) hx hb dX3_pieceIs_66 rfl ?_
      refine lv_goto (tgt := 71) hx hb dX3_pieceIs_67 (by decide) ?_
      refine q_nm (b2_t (show (wnC S ob2 = S ob2 0 0 * S ob2 0 1) from by first | omega | (simp only [*]; done) | simp_all)).symm ?_
      exact J71 _ _ hP hS
  by_cases w_2_4 : w = 4
  · have hw : (i32 w).toInt = 4 := by rw [i32_toInt hrn2]; exact w_2_4
    refine lv_tableIn (off := 65) (tgt := 72) hx hb dX3_pieceIs_7 (by rw [hw]; decide) (by rw [hw]; decide) (by rw [hw]; rfl) (by decide) ?_
    refine lv_aload_n hx hb dX3_pieceIs_72 rfl (lv_at hl 0 rfl) ?_
    refine q_callV (k := 5) hx hb hml hl.1 hown hK hZ hP hS ha2 hk2 rfl rfl (c_X2_isDone l g base ad S ob2 ha2 hk2 (by omega) (by omega)) t_291 t_292 (q_callB hK 290 24 293 t_290 t_24 t_293 f_yX2_isDone ⟨by decide, by decide⟩) rfl rfl (Nat.le_of_ble_eq_true rfl) dX3_pieceIs_73 ⟨by decide, by decide⟩  (q_an (fun H locs hP hS => ?_))
    refine q_if_eqb (tgt := 86) hx hb dX3_pieceIs_76 (by decide) (fun c_4 => ?_) (fun c_4 => ?_)
    · -- ¬ (wnC S ob2 = S ob2 0 0 * S ob2 0 1)
      refine lv_iconst (v := i32 (0)) hx hb dX3_pieceIs_86 rfl ?_
      refine q_nm (show (0 : Int) = pcC S (10 + x.toNat) w from by rw [ho2, pcC_4 (by omega)]; exact (cif_f (by unfold dnC; exact c_4)).symm) ?_
      subst hQm
      refine vx_ret ?_
      exact q_iret hx hb hr hlocks hP hS ⟨(by subst ho2; refine ⟨?_, ?_, ?_⟩ <;> first | trivial | assumption | omega | exact ⟨by assumption, by omega⟩ | exact ⟨by assumption, by assumption⟩ | exact ⟨by assumption, by omega, by omega⟩ | exact ⟨by assumption, by omega, by omega, by omega, by omega⟩ | exact ⟨by assumption, by assumption, by omega⟩), ⟨rfl, rfl, rfl⟩⟩ (by decide) (by decide) dX3_pieceIs_87
    · -- wnC S ob2 = S ob2 0 0 * S ob2 0 1
      refine lv_aload_n hx hb dX3_pieceIs_79 rfl (lv_at hl 0 rfl) ?_
      refine q_callV (k := 5) hx hb hml hl.1 hown hK hZ hP hS ha2 hk2 rfl rfl (c_X2_countSlits l g base ad S ob2 ha2 hk2 (by omega) (by omega)) t_296 t_297 (q_callB hK 295 24 298 t_295 t_24 t_298 f_yX2_countSlits ⟨by decide, by decide⟩) rfl rfl (Nat.le_of_ble_eq_true rfl) dX3_pieceIs_80 ⟨by decide, by decide⟩  (q_an (fun H locs hP hS => ?_))
      refine lv_goto (tgt := 87) hx hb dX3_pieceIs_83 (by decide) ?_
      refine q_nm (show (snC S ob2 : Int) = pcC S (10 + x.toNat) w from by rw [ho2, pcC_4 (by omega)]; exact (cif_t (by unfold dnC; exact c_4)).symm) ?_
      subst hQm
      refine vx_ret ?_
      exact q_iret hx hb hr hlocks hP hS ⟨(by subst ho2; refine ⟨?_, ?_, ?_⟩ <;> first | trivial | assumption | omega | exact ⟨by assumption, by omega⟩ | exact ⟨by assumption, by assumption⟩ | exact ⟨by assumption, by omega, by omega⟩ | exact ⟨by assumption, by omega, by omega, by omega, by omega⟩ | exact ⟨by assumption, by assumption, by omega⟩), ⟨rfl, rfl, rfl⟩⟩ (by decide) (by decide) dX3_pieceIs_87
  by_cases w_2_5 : w = 5
  · have hw : (i32 w).toInt = 5 := by rw [i32_toInt hrn2]; exact w_2_5
    refine lv_tableIn (off := 81) (tgt := 88) hx hb dX3_pieceIs_7 (by rw [hw]; decide) (by rw [hw]; decide) (by rw [hw]; rfl) (by decide) ?_
    refine lv_aload_n hx hb dX3_pieceIs_88 rfl (lv_at hl 0 rfl) ?_
    refine q_callV (k := 5) hx hb hml hl.1 hown hK hZ hP hS ha2 hk2 rfl rfl (c_X2_sumOfShades l g base ad S ob2 ha2 hk2 (by omega) (by omega)) t_320 t_321 (q_callB hK 319 24 322 t_319 t_24 t_322 f_yX2_sumOfShades ⟨by decide, by decide⟩) rfl rfl (Nat.le_of_ble_eq_true rfl) dX3_pieceIs_89 ⟨by decide, by decide⟩  (q_an (fun H locs hP hS => ?_))
    refine q_nm (show (shC S ob2 : Int) = pcC S (10 + x.toNat) w from by rw [ho2, pcC_5 (by omega)]) ?_
    subst hQm
    refine vx_ret ?_
    exact q_iret hx hb hr hlocks hP hS ⟨(by subst ho2; refine ⟨?_, ?_, ?_⟩ <;> first | trivial | assumption | omega | exact ⟨by assumption, by omega⟩ | exact ⟨by assumption, by assumption⟩ | exact ⟨by assumption, by omega, by omega⟩ | exact ⟨by assumption, by omega, by omega, by omega, by omega⟩ | exact ⟨by assumption, by assumption, by omega⟩), ⟨rfl, rfl, rfl⟩⟩ (by decide) (by decide) dX3_pieceIs_92
  have hdf : ∀ (H : Heap) (locs : List Loc), pic g base ad S H → va_S (fun q => base ≤ q) s.heap H locs → W p l e ({ frames := 7, cells := 2, slots := 12, locals := 112 } : Room) s m av below meth cz H locs 1 6 Qm (F0 m 93 ls ([])) := by
    intro H locs hP hS
    subst hQm
    exact q_throw hx hb hfl hml hl.1 hown hK hZ (by decide) t_206 t_20 t_327 (at_A hK) ao_A hP hS dX3_pieceIs_93 dX3_pieceIs_96 dX3_pieceIs_97 dX3_pieceIs_99 dX3_pieceIs_102 hout (by decide) (by decide) (by decide) (by decide) hlocks (by subst ho2; exact Or.inr (Or.inl ⟨rfl, by first | trivial | assumption | omega | exact ⟨by assumption, by omega⟩ | exact ⟨by assumption, by assumption⟩ | exact ⟨by assumption, by omega, by omega⟩ | exact ⟨by assumption, by omega, by omega, by omega, by omega⟩ | exact ⟨by assumption, by assumption, by omega⟩, by first | omega | (intro y; omega) | (intro y; have := y.1; omega) | (intro y; have := y.2; omega) | (intro y; exact absurd y.1 (by assumption)) | (intro y; exact absurd y.2 (by assumption)) | (intro y; have := y.2.1; omega)| (intro y; exact absurd y.2.1 (by assumption))| (intro y; exact absurd y.2.2 (by assumption)) | (intro y; exact absurd y (by assumption))⟩)) (by decide) (by decide)
  exact lv_tableOut (tgt := 93) hx hb dX3_pieceIs_7 (by rw [i32_toInt hrn2]; omega) (by decide) (hdf _ _ hP hS)
