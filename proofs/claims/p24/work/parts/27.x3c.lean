set_option maxHeartbeats 4000000 in
set_option maxRecDepth 100000 in
theorem c_X3_row (l : Launch) (g : GT) (base : Nat) (ad : Nat → Nat → Nat) (S : St) (x : Int) (hfl : l.stackTraces = false) (hwc : wC S) (hrn : rng x) : vx_Met l yX3_row [Cond.code yX3_row cX3_row 3 (some FieldType.int)] ({ frames := 7, cells := 2, slots := 12, locals := 112 }) (va_Pc [.ref (ad 1 0), .int (i32 (x))] (PK g base ad S)) (gQ g base (fun rr9 ad9 S9 => ((ceC S x) ∧ (S 1 0 1 = S (4 + x.toNat) 0 0 ∧ S (4 + x.toNat) 0 1 < 10) ∧ (True)) ∧ an (some (.int (i32 (S (4 + x.toNat) 0 1 + 1)))) ad (st (st (adF S (4 + x.toNat) (S (4 + x.toNat) 0 0)) (4 + x.toNat) 0 1 (S (4 + x.toNat) 0 1 + 1)) 1 0 1 0) rr9 ad9 S9)) (xQ g base ad S (fun E => t3 eB eS "" (ceC S x) (S 1 0 1 = S (4 + x.toNat) 0 0 ∧ S (4 + x.toNat) 0 1 < 10) (True) E)) 2 12 (fun q => base ≤ q) := by
  refine mk_mx (own := RX3) (lv0 := [(0, .ref (ad 1 0)), (1, .int (i32 (x)))]) (by decide) rfl (Nat.le_of_ble_eq_true rfl) rfl ?_
  intro p e s m below meth cz av Qm hx hb hr hml hown hlocks hout hK hZ hP hQm ls hl
  have hS : va_S (fun q => base ≤ q) s.heap s.heap [] := va_S.rf
  have rS : ∀ (a1 b1 : Nat) (i1 : Int), rng (S a1 b1 i1) := fun a1 b1 i1 => hP.rg a1 b1 i1
  refine lv_aload_n hx hb dX3_row_0 rfl (lv_at hl 0 rfl) ?_
  refine lv_iload_n hx hb dX3_row_1 rfl (lv_at hl 1 rfl) ?_
  refine q_callVx (k := 1) hx hb hml hl.1 hown hK hZ hP hS hwc.h1 rfl rfl rfl (c_X3_cartoonNumbered l g base ad S x hfl hwc.h1 hrn) t_409 t_4 (q_callB hK 407 15 410 t_407 t_15 t_410 f_yX3_cartoonNumbered ⟨by decide, by decide⟩) rfl rfl (Nat.le_of_ble_eq_true rfl) dX3_row_2 ⟨by decide, by decide⟩ (fun E ce q9 H locs hE hq9 hv9 hc9 hP hS => by subst hQm; exact q_out hout hlocks hq9 hv9 hc9 hP hS (by exact Or.inl ⟨hE.1, by intro y; first | exact hE.2 y | exact hE.2 y.1 | exact hE.2 y.2 | exact hE.2 y.2.1 | exact hE.2 y.2.2 | exact hE.2 y.1.1 | exact hE.2 y.1.2⟩) (by decide) (by decide)) (q_anc (fun hq1 H locs hP hS => ?_))
  have hc2 := hwc.ce hq1
  have hk2 := kd_c (x := x) (by have := hq1; unfold ceC at this; omega) (by have := hq1; unfold ceC at this; omega)
  generalize ho2 : 4 + Int.toNat x = ob2 at hc2 hk2 ⊢
  obtain ⟨ha2, hcw2, hch2⟩ := hc2
  refine lv_astore_n (lv' := [(2, .ref (ad ob2 0)), (0, .ref (ad 1 0)), (1, .int (i32 (x)))]) hx hb dX3_row_5 rfl hl (by decide) rfl (fun ls hl => ?_)
  refine lv_aload_n hx hb dX3_row_6 rfl (lv_at hl 1 rfl) ?_
  refine p_get (k := 1) hx hb hown hK hP hwc.h1 rfl rfl rfl (lay_X3 hK) 1 66 (by decide) t_66 rfl rfl dX3_row_7 ?_
  refine lv_aload_n hx hb dX3_row_10 rfl (lv_at hl 0 rfl) ?_
  refine q_callV (k := 4) hx hb hml hl.1 hown hK hZ hP hS ha2 hk2 rfl rfl (c_X0_width l g base ad S ob2 ha2 hk2) t_413 t_414 (q_callB hK 412 22 415 t_412 t_22 t_415 f_yX0_width ⟨by decide, by decide⟩) rfl rfl (Nat.le_of_ble_eq_true rfl) dX3_row_11 ⟨by decide, by decide⟩  (q_an (fun H locs hP hS => ?_))
  refine q_icmp_eq (tgt := 27) hx hb (hP.rg _ _ _) (hP.rg _ _ _) dX3_row_14 (by decide) (fun c_2 => ?_) (fun c_2 => ?_)
  · -- (S 1 0 1) = (S ob2 0 0)
    refine lv_aload_n hx hb dX3_row_27 rfl (lv_at hl 0 rfl) ?_
    refine q_callV (k := 4) hx hb hml hl.1 hown hK hZ hP hS ha2 hk2 rfl rfl (c_X0_height l g base ad S ob2 ha2 hk2) t_418 t_419 (q_callB hK 417 22 420 t_417 t_22 t_420 f_yX0_height ⟨by decide, by decide⟩) rfl rfl (Nat.le_of_ble_eq_true rfl) dX3_row_28 ⟨by decide, by decide⟩  (q_an (fun H locs hP hS => ?_))
    refine lv_bipush (v := i32 (10)) hx hb dX3_row_31 (by decide) ?_
    refine q_icmp_lt (tgt := 46) hx hb (hP.rg _ _ _) ⟨by decide, by decide⟩ dX3_row_33 (by decide) (fun c_3 => ?_) (fun c_3 => ?_)
    · -- (S ob2 0 1) < 10
      refine lv_aload_n hx hb dX3_row_46 rfl (lv_at hl 0 rfl) ?_
      refine lv_aload_n hx hb dX3_row_47 rfl (lv_at hl 1 rfl) ?_
      refine p_get (k := 1) hx hb hown hK hP hwc.h1 rfl rfl rfl (lay_X3 hK) 0 65 (by decide) t_65 rfl rfl dX3_row_48 ?_
      refine q_callV (k := 4) hx hb hml hl.1 hown hK hZ hP hS ha2 hk2 rfl rfl (c_X0_addRow l g base ad S ob2 ha2 hk2 hwc.h1 (by omega) (by omega)) t_423 t_424 (q_callB hK 422 22 425 t_422 t_22 t_425 f_yX0_addRow ⟨by decide, by decide⟩) rfl rfl (Nat.le_of_ble_eq_true rfl) dX3_row_51 ⟨by decide, by decide⟩  (q_an (fun H locs hP hS => ?_))
      generalize eS4 : adF S ob2 (S ob2 0 0) = S4 at hP
      have qS4 : ∀ (a1 b1 : Nat) (i1 : Int), S4 a1 b1 i1 = adF S ob2 (S ob2 0 0) a1 b1 i1 := fun a1 b1 i1 => by rw [← eS4]
      have aS4_1 : S4 1 0 (-1) = 1 := by rw [qS4, adF_o (by decide)]; exact hwc.h1
      have aS4_2 : S4 2 0 (-1) = 1 := by rw [qS4, adF_o (by decide)]; exact hwc.h2
      have aS4_ob2 : S4 ob2 0 (-1) = 1 := by rw [qS4, adF_o (by decide)]; exact ha2
      generalize eS5 : st S4 ob2 0 1 (S ob2 0 1 + 1) = S5 at hP
      have rS5 : ∀ (a1 b1 : Nat) (i1 : Int), rng (S5 a1 b1 i1) := fun a1 b1 i1 => hP.rg a1 b1 i1
      have qS5 : ∀ (a1 b1 : Nat) (i1 : Int), S5 a1 b1 i1 = if a1 = ob2 ∧ b1 = 0 ∧ i1 = 1 then S ob2 0 1 + 1 else S4 a1 b1 i1 := fun a1 b1 i1 => by rw [← eS5]; exact st_at _ _ _ _ _ _ _ _
      have aS5_1 : S5 1 0 (-1) = 1 := by rw [qS5, if_neg (by omega)]; exact aS4_1
      have aS5_2 : S5 2 0 (-1) = 1 := by rw [qS5, if_neg (by omega)]; exact aS4_2
      have aS5_ob2 : S5 ob2 0 (-1) = 1 := by rw [qS5, if_neg (by omega)]; exact aS4_ob2
      refine lv_aload_n hx hb dX3_row_54 rfl (lv_at hl 1 rfl) ?_
      refine lv_iconst (v := i32 (0)) hx hb dX3_row_55 rfl ?_
      refine p_put (k := 1) hx hb hown hK hP hS aS5_1 rfl rfl rfl (lay_X3 hK) tyX3 tyX3_ok nmX3 1 66 (by decide) t_66 rfl rfl (by decide +kernel) ⟨by decide, by decide⟩ (Nat.le_of_ble_eq_true rfl) (set_1_1 _ _ _ _) dX3_row_56 (fun H locs hP hS => ?_)
      generalize eS6 : st S5 1 0 1 0 = S6 at hP
      have qS6 : ∀ (a1 b1 : Nat) (i1 : Int), S6 a1 b1 i1 = if a1 = 1 ∧ b1 = 0 ∧ i1 = 1 then 0 else S5 a1 b1 i1 := fun a1 b1 i1 => by rw [← eS6]; exact st_at _ _ _ _ _ _ _ _
      have rS6 : ∀ (a1 b1 : Nat) (i1 : Int), rng (S6 a1 b1 i1) := fun a1 b1 i1 => hP.rg a1 b1 i1
      have aS6_1 : S6 1 0 (-1) = 1 := by rw [qS6, if_neg (by omega)]; exact aS5_1
      have aS6_2 : S6 2 0 (-1) = 1 := by rw [qS6, if_neg (by omega)]; exact aS5_2
      have aS6_ob2 : S6 ob2 0 (-1) = 1 := by rw [qS6, if_neg (by omega)]; exact aS5_ob2
      refine lv_aload_n hx hb dX3_row_59 rfl (lv_at hl 0 rfl) ?_
      refine q_callV (k := 4) hx hb hml hl.1 hown hK hZ hP hS aS6_ob2 hk2 rfl rfl (c_X0_height l g base ad S6 ob2 aS6_ob2 hk2) t_418 t_419 (q_callB hK 417 22 420 t_417 t_22 t_420 f_yX0_height ⟨by decide, by decide⟩) rfl rfl (Nat.le_of_ble_eq_true rfl) dX3_row_60 ⟨by decide, by decide⟩  (q_an (fun H locs hP hS => ?_))
      refine q_nm (show (S6 ob2 0 1 : Int) = S (4 + x.toNat) 0 1 + 1 from by rw [qS6, if_neg (by omega), qS5, if_pos ⟨rfl, rfl, rfl⟩, ho2]) ?_
      subst hQm
      refine vx_ret ?_
      exact q_iret hx hb hr hlocks hP hS ⟨(by subst ho2; refine ⟨?_, ?_, ?_⟩ <;> first | trivial | assumption | omega | exact ⟨by assumption, by omega⟩ | exact ⟨by assumption, by assumption⟩ | exact ⟨by assumption, by omega, by omega⟩ | exact ⟨by assumption, by omega, by omega, by omega, by omega⟩ | exact ⟨by assumption, by assumption, by omega⟩), ⟨rfl, rfl, (by subst ho2; rw [← eS6, ← eS5, ← eS4])⟩⟩ (by decide) (by decide) dX3_row_63
    · -- 10 ≤ (S ob2 0 1)
      subst hQm
      exact q_throw hx hb hfl hml hl.1 hown hK hZ (by decide) t_227 t_21 t_421 (at_S hK) ao_S hP hS dX3_row_36 dX3_row_39 dX3_row_40 dX3_row_42 dX3_row_45 hout (by decide) (by decide) (by decide) (by decide) hlocks (by subst ho2; exact Or.inr (Or.inl ⟨rfl, by first | trivial | assumption | omega | exact ⟨by assumption, by omega⟩ | exact ⟨by assumption, by assumption⟩ | exact ⟨by assumption, by omega, by omega⟩ | exact ⟨by assumption, by omega, by omega, by omega, by omega⟩ | exact ⟨by assumption, by assumption, by omega⟩, by first | omega | (intro y; omega) | (intro y; have := y.1; omega) | (intro y; have := y.2; omega) | (intro y; exact absurd y.1 (by assumption)) | (intro y; exact absurd y.2 (by assumption)) | (intro y; have := y.2.1; omega)| (intro y; exact absurd y.2.1 (by assumption))| (intro y; exact absurd y.2.2 (by assumption)) | (intro y; exact absurd y (by assumption))⟩)) (by decide) (by decide)
  · -- (S 1 0 1) ≠ (S ob2 0 0)
    subst hQm
    exact q_throw hx hb hfl hml hl.1 hown hK hZ (by decide) t_227 t_21 t_416 (at_S hK) ao_S hP hS dX3_row_17 dX3_row_20 dX3_row_21 dX3_row_23 dX3_row_26 hout (by decide) (by decide) (by decide) (by decide) hlocks (by subst ho2; exact Or.inr (Or.inl ⟨rfl, by first | trivial | assumption | omega | exact ⟨by assumption, by omega⟩ | exact ⟨by assumption, by assumption⟩ | exact ⟨by assumption, by omega, by omega⟩ | exact ⟨by assumption, by omega, by omega, by omega, by omega⟩ | exact ⟨by assumption, by assumption, by omega⟩, by first | omega | (intro y; omega) | (intro y; have := y.1; omega) | (intro y; have := y.2; omega) | (intro y; exact absurd y.1 (by assumption)) | (intro y; exact absurd y.2 (by assumption)) | (intro y; have := y.2.1; omega)| (intro y; exact absurd y.2.1 (by assumption))| (intro y; exact absurd y.2.2 (by assumption)) | (intro y; exact absurd y (by assumption))⟩)) (by decide) (by decide)

set_option maxHeartbeats 4000000 in
set_option maxRecDepth 100000 in
theorem c_X3_match (l : Launch) (g : GT) (base : Nat) (ad : Nat → Nat → Nat) (S : St) (x z : Int) (hfl : l.stackTraces = false) (hwc : wC S) (hrn : rng x) (hrn2 : rng z) : vx_Met l yX3_match [Cond.code yX3_match cX3_match 5 (some FieldType.int)] ({ frames := 8, cells := 4, slots := 24, locals := 133 }) (va_Pc [.ref (ad 1 0), .int (i32 (x)), .int (i32 (z))] (PK g base ad S)) (gQ g base (fun rr9 ad9 S9 => ((peC S x ∧ peC S z) ∧ (x ≠ z) ∧ (dnC S (10 + x.toNat) ∧ dnC S (10 + z.toNat))) ∧ an (some (.int (i32 (mtC S (10 + x.toNat) (10 + z.toNat))))) ad S rr9 ad9 S9)) (xQ g base ad S (fun E => t3 eB eA eS (peC S x ∧ peC S z) (x ≠ z) (dnC S (10 + x.toNat) ∧ dnC S (10 + z.toNat)) E)) 4 24 (fun q => base ≤ q) := by
  refine mk_mx (own := RX3) (lv0 := [(0, .ref (ad 1 0)), (1, .int (i32 (x))), (2, .int (i32 (z)))]) (by decide) rfl (Nat.le_of_ble_eq_true rfl) rfl ?_
  intro p e s m below meth cz av Qm hx hb hr hml hown hlocks hout hK hZ hP hQm ls hl
  have hS : va_S (fun q => base ≤ q) s.heap s.heap [] := va_S.rf
  have rS : ∀ (a1 b1 : Nat) (i1 : Int), rng (S a1 b1 i1) := fun a1 b1 i1 => hP.rg a1 b1 i1
  refine lv_aload_n hx hb dX3_match_0 rfl (lv_at hl 0 rfl) ?_
  refine lv_iload_n hx hb dX3_match_1 rfl (lv_at hl 1 rfl) ?_
  refine q_callVx (k := 1) hx hb hml hl.1 hown hK hZ hP hS hwc.h1 rfl rfl rfl (c_X3_pieceNumbered l g base ad S x hfl hwc.h1 hrn) t_275 t_1 (q_callB hK 273 15 276 t_273 t_15 t_276 f_yX3_pieceNumbered ⟨by decide, by decide⟩) rfl rfl (Nat.le_of_ble_eq_true rfl) dX3_match_2 ⟨by decide, by decide⟩ (fun E ce q9 H locs hE hq9 hv9 hc9 hP hS => by subst hQm; exact q_out hout hlocks hq9 hv9 hc9 hP hS (by exact Or.inl ⟨hE.1, by intro y; first | exact hE.2 y | exact hE.2 y.1 | exact hE.2 y.2 | exact hE.2 y.2.1 | exact hE.2 y.2.2 | exact hE.2 y.1.1 | exact hE.2 y.1.2⟩) (by decide) (by decide)) (q_anc (fun hq1 H locs hP hS => ?_))
  have hc2 := hwc.pe hq1
  have hk2 := kd_p (x := x) (by have := hq1; unfold peC at this; omega)
  generalize ho2 : 10 + Int.toNat x = ob2 at hc2 hk2 ⊢
  obtain ⟨ha2, hpw2, hph2, hpv2, hsh2, hor2, hro2, hlt2, h122⟩ := hc2
  refine lv_astore_n (lv' := [(3, .ref (ad ob2 0)), (0, .ref (ad 1 0)), (1, .int (i32 (x))), (2, .int (i32 (z)))]) hx hb dX3_match_5 rfl hl (by decide) rfl (fun ls hl => ?_)
  refine lv_aload_n hx hb dX3_match_6 rfl (lv_at hl 1 rfl) ?_
  refine lv_iload_n hx hb dX3_match_7 rfl (lv_at hl 3 rfl) ?_
  refine q_callVx (k := 1) hx hb hml hl.1 hown hK hZ hP hS hwc.h1 rfl rfl rfl (c_X3_pieceNumbered l g base ad S z hfl hwc.h1 hrn2) t_275 t_1 (q_callB hK 273 15 276 t_273 t_15 t_276 f_yX3_pieceNumbered ⟨by decide, by decide⟩) rfl rfl (Nat.le_of_ble_eq_true rfl) dX3_match_8 ⟨by decide, by decide⟩ (fun E ce q9 H locs hE hq9 hv9 hc9 hP hS => by subst hQm; exact q_out hout hlocks hq9 hv9 hc9 hP hS (by subst ho2; exact Or.inl ⟨hE.1, by intro y; first | exact hE.2 y | exact hE.2 y.1 | exact hE.2 y.2 | exact hE.2 y.2.1 | exact hE.2 y.2.2 | exact hE.2 y.1.1 | exact hE.2 y.1.2⟩) (by decide) (by decide)) (q_anc (fun hq2 H locs hP hS => ?_))
  have hc8 := hwc.pe hq2
  have hk8 := kd_p (x := z) (by have := hq2; unfold peC at this; omega)
  generalize ho8 : 10 + Int.toNat z = ob8 at hc8 hk8 ⊢
  obtain ⟨ha8, hpw8, hph8, hpv8, hsh8, hor8, hro8, hlt8, h128⟩ := hc8
  refine lv_astore (lv' := [(4, .ref (ad ob8 0)), (3, .ref (ad ob2 0)), (0, .ref (ad 1 0)), (1, .int (i32 (x))), (2, .int (i32 (z)))]) hx hb dX3_match_11 hl (by decide) rfl (fun ls hl => ?_)
  refine lv_iload_n hx hb dX3_match_13 rfl (lv_at hl 3 rfl) ?_
  refine lv_iload_n hx hb dX3_match_14 rfl (lv_at hl 4 rfl) ?_
  refine lv_aload_n hx hb dX3_match_15 rfl (lv_at hl 1 rfl) ?_
  refine lv_aload hx hb dX3_match_16 (lv_at hl 0 rfl) ?_
  refine q_callSx hx hb hml hl.1 hown hK hZ hP hS (c_X3_requireTwoDone l g base ad S x z ob2 ob8 hfl hrn hrn2 ha2 hk2 (by omega) (by omega) ha8 hk8 (by omega) (by omega)) t_593 (q_callB hK 592 15 594 t_592 t_15 t_594 f_yX3_requireTwoDone ⟨by decide, by decide⟩) rfl rfl (Nat.le_of_ble_eq_true rfl) dX3_match_18 ⟨by decide, by decide⟩ (fun E ce q9 H locs hE hq9 hv9 hc9 hP hS => by subst hQm; exact q_out hout hlocks hq9 hv9 hc9 hP hS (by subst ho2; subst ho8; rcases hE with ⟨h1, h2⟩ | ⟨h1, h2, h3⟩; (exact Or.inr (Or.inl ⟨h1, ⟨by assumption, by assumption⟩, fun y => y h2⟩)); exact Or.inr (Or.inr ⟨h1, ⟨by assumption, by assumption⟩, h2, h3⟩)) (by decide) (by decide)) (q_anc (fun hq3 H locs hP hS => ?_))
  refine lv_aload_n hx hb dX3_match_21 rfl (lv_at hl 1 rfl) ?_
  refine q_callV (k := 5) hx hb hml hl.1 hown hK hZ hP hS ha2 hk2 rfl rfl (c_X2_height l g base ad S ob2 ha2 hk2) t_283 t_284 (q_callB hK 282 24 285 t_282 t_24 t_285 f_yX2_height ⟨by decide, by decide⟩) rfl rfl (Nat.le_of_ble_eq_true rfl) dX3_match_22 ⟨by decide, by decide⟩  (q_an (fun H locs hP hS => ?_))
  refine lv_aload hx hb dX3_match_25 (lv_at hl 0 rfl) ?_
  refine q_callV (k := 5) hx hb hml hl.1 hown hK hZ hP hS ha8 hk8 rfl rfl (c_X2_height l g base ad S ob8 ha8 hk8) t_283 t_284 (q_callB hK 282 24 285 t_282 t_24 t_285 f_yX2_height ⟨by decide, by decide⟩) rfl rfl (Nat.le_of_ble_eq_true rfl) dX3_match_27 ⟨by decide, by decide⟩  (q_an (fun H locs hP hS => ?_))
  refine q_icmp_eq (tgt := 35) hx hb (hP.rg _ _ _) (hP.rg _ _ _) dX3_match_30 (by decide) (fun c_4 => ?_) (fun c_4 => ?_)
  · -- (S ob2 0 1) = (S ob8 0 1)
    refine lv_aload_n hx hb dX3_match_35 rfl (lv_at hl 1 rfl) ?_
    refine lv_aload hx hb dX3_match_36 (lv_at hl 0 rfl) ?_
    refine q_callV (k := 5) hx hb hml hl.1 hown hK hZ hP hS ha2 hk2 rfl rfl (c_X2_countMatching l g base ad S ob2 ob8 ha2 hk2 ha8 hk8 (by omega) (by omega)) t_601 t_602 (q_callB hK 600 24 603 t_600 t_24 t_603 f_yX2_countMatching ⟨by decide, by decide⟩) rfl rfl (Nat.le_of_ble_eq_true rfl) dX3_match_38 ⟨by decide, by decide⟩  (q_an (fun H locs hP hS => ?_))
    refine q_nm (show (mcC S ob2 ob8 : Int) = mtC S (10 + x.toNat) (10 + z.toNat) from by subst ho2; subst ho8; unfold mtC; first | (rw [cif_t (by assumption)]; done) | (rw [cif_f (by assumption)]; done)) ?_
    subst hQm
    refine vx_ret ?_
    exact q_iret hx hb hr hlocks hP hS ⟨(by subst ho2; subst ho8; exact ⟨⟨by assumption, by assumption⟩, hq3.1, hq3.2⟩), ⟨rfl, rfl, rfl⟩⟩ (by decide) (by decide) dX3_match_41
  · -- (S ob2 0 1) ≠ (S ob8 0 1)
    refine lv_iconst (v := i32 (-1)) hx hb dX3_match_33 rfl ?_
    refine q_nm (show (-1 : Int) = mtC S (10 + x.toNat) (10 + z.toNat) from by subst ho2; subst ho8; unfold mtC; first | (rw [cif_t (by assumption)]; done) | (rw [cif_f (by assumption)]; done)) ?_
    subst hQm
    refine vx_ret ?_
    exact q_iret hx hb hr hlocks hP hS ⟨(by subst ho2; subst ho8; exact ⟨⟨by assumption, by assumption⟩, hq3.1, hq3.2⟩), ⟨rfl, rfl, rfl⟩⟩ (by decide) (by decide) dX3_match_34

set_option maxHeartbeats 4000000 in
set_option maxRecDepth 100000 in
theorem c_X3_likeness (l : Launch) (g : GT) (base : Nat) (ad : Nat → Nat → Nat) (S : St) (x z : Int) (hfl : l.stackTraces = false) (hwc : wC S) (hrn : rng x) (hrn2 : rng z) : vx_Met l yX3_likeness [Cond.code yX3_likeness cX3_likeness 5 (some FieldType.int)] ({ frames := 7, cells := 2, slots := 12, locals := 112 }) (va_Pc [.ref (ad 1 0), .int (i32 (x)), .int (i32 (z))] (PK g base ad S)) (gQ g base (fun rr9 ad9 S9 => ((peC S x ∧ ceC S z) ∧ (True) ∧ (True)) ∧ an (some (.int (i32 (lnC S (10 + x.toNat) (4 + z.toNat))))) ad S rr9 ad9 S9)) (xQ g base ad S (fun E => t3 eB "" "" (peC S x ∧ ceC S z) (True) (True) E)) 2 12 (fun q => base ≤ q) := by
  refine mk_mx (own := RX3) (lv0 := [(0, .ref (ad 1 0)), (1, .int (i32 (x))), (2, .int (i32 (z)))]) (by decide) rfl (Nat.le_of_ble_eq_true rfl) rfl ?_
  intro p e s m below meth cz av Qm hx hb hr hml hown hlocks hout hK hZ hP hQm ls hl
  have hS : va_S (fun q => base ≤ q) s.heap s.heap [] := va_S.rf
  have rS : ∀ (a1 b1 : Nat) (i1 : Int), rng (S a1 b1 i1) := fun a1 b1 i1 => hP.rg a1 b1 i1
  refine lv_aload_n hx hb dX3_likeness_0 rfl (lv_at hl 0 rfl) ?_
  refine lv_iload_n hx hb dX3_likeness_1 rfl (lv_at hl 1 rfl) ?_
  refine q_callVx (k := 1) hx hb hml hl.1 hown hK hZ hP hS hwc.h1 rfl rfl rfl (c_X3_pieceNumbered l g base ad S x hfl hwc.h1 hrn) t_275 t_1 (q_callB hK 273 15 276 t_273 t_15 t_276 f_yX3_pieceNumbered ⟨by decide, by decide⟩) rfl rfl (Nat.le_of_ble_eq_true rfl) dX3_likeness_2 ⟨by decide, by decide⟩ (fun E ce q9 H locs hE hq9 hv9 hc9 hP hS => by subst hQm; exact q_out hout hlocks hq9 hv9 hc9 hP hS (by exact Or.inl ⟨hE.1, by intro y; first | exact hE.2 y | exact hE.2 y.1 | exact hE.2 y.2 | exact hE.2 y.2.1 | exact hE.2 y.2.2 | exact hE.2 y.1.1 | exact hE.2 y.1.2⟩) (by decide) (by decide)) (q_anc (fun hq1 H locs hP hS => ?_))
  have hc2 := hwc.pe hq1
  have hk2 := kd_p (x := x) (by have := hq1; unfold peC at this; omega)
  generalize ho2 : 10 + Int.toNat x = ob2 at hc2 hk2 ⊢
  obtain ⟨ha2, hpw2, hph2, hpv2, hsh2, hor2, hro2, hlt2, h122⟩ := hc2
  refine lv_astore_n (lv' := [(3, .ref (ad ob2 0)), (0, .ref (ad 1 0)), (1, .int (i32 (x))), (2, .int (i32 (z)))]) hx hb dX3_likeness_5 rfl hl (by decide) rfl (fun ls hl => ?_)
  refine lv_aload_n hx hb dX3_likeness_6 rfl (lv_at hl 1 rfl) ?_
  refine lv_iload_n hx hb dX3_likeness_7 rfl (lv_at hl 3 rfl) ?_
  refine q_callVx (k := 1) hx hb hml hl.1 hown hK hZ hP hS hwc.h1 rfl rfl rfl (c_X3_cartoonNumbered l g base ad S z hfl hwc.h1 hrn2) t_409 t_4 (q_callB hK 407 15 410 t_407 t_15 t_410 f_yX3_cartoonNumbered ⟨by decide, by decide⟩) rfl rfl (Nat.le_of_ble_eq_true rfl) dX3_likeness_8 ⟨by decide, by decide⟩ (fun E ce q9 H locs hE hq9 hv9 hc9 hP hS => by subst hQm; exact q_out hout hlocks hq9 hv9 hc9 hP hS (by subst ho2; exact Or.inl ⟨hE.1, by intro y; first | exact hE.2 y | exact hE.2 y.1 | exact hE.2 y.2 | exact hE.2 y.2.1 | exact hE.2 y.2.2 | exact hE.2 y.1.1 | exact hE.2 y.1.2⟩) (by decide) (by decide)) (q_anc (fun hq2 H locs hP hS => ?_))
  have hc8 := hwc.ce hq2
  have hk8 := kd_c (x := z) (by have := hq2; unfold ceC at this; omega) (by have := hq2; unfold ceC at this; omega)
  generalize ho8 : 4 + Int.toNat z = ob8 at hc8 hk8 ⊢
  obtain ⟨ha8, hcw8, hch8⟩ := hc8
  refine lv_astore (lv' := [(4, .ref (ad ob8 0)), (3, .ref (ad ob2 0)), (0, .ref (ad 1 0)), (1, .int (i32 (x))), (2, .int (i32 (z)))]) hx hb dX3_likeness_11 hl (by decide) rfl (fun ls hl => ?_)
  refine lv_aload_n hx hb dX3_likeness_13 rfl (lv_at hl 1 rfl) ?_
  refine q_callV (k := 5) hx hb hml hl.1 hown hK hZ hP hS ha2 hk2 rfl rfl (c_X2_height l g base ad S ob2 ha2 hk2) t_283 t_284 (q_callB hK 282 24 285 t_282 t_24 t_285 f_yX2_height ⟨by decide, by decide⟩) rfl rfl (Nat.le_of_ble_eq_true rfl) dX3_likeness_14 ⟨by decide, by decide⟩  (q_an (fun H locs hP hS => ?_))
  refine lv_aload hx hb dX3_likeness_17 (lv_at hl 0 rfl) ?_
  refine q_callV (k := 4) hx hb hml hl.1 hown hK hZ hP hS ha8 hk8 rfl rfl (c_X0_height l g base ad S ob8 ha8 hk8) t_418 t_419 (q_callB hK 417 22 420 t_417 t_22 t_420 f_yX0_height ⟨by decide, by decide⟩) rfl rfl (Nat.le_of_ble_eq_true rfl) dX3_likeness_19 ⟨by decide, by decide⟩  (q_an (fun H locs hP hS => ?_))
  refine q_icmp_ne (tgt := 37) hx hb (hP.rg _ _ _) (hP.rg _ _ _) dX3_likeness_22 (by decide) (fun c_3 => ?_) (fun c_3 => ?_)
  · -- (S ob2 0 1) ≠ (S ob8 0 1)
    refine lv_iconst (v := i32 (-1)) hx hb dX3_likeness_37 rfl ?_
    refine q_nm (show (-1 : Int) = lnC S (10 + x.toNat) (4 + z.toNat) from by subst ho2; subst ho8; unfold lnC; first | (rw [cif_t ⟨by assumption, by assumption⟩]; done) | (rw [cif_f (fun y => absurd y.1 (by assumption))]; done) | (rw [cif_f (fun y => absurd y.2 (by assumption))]; done)) ?_
    subst hQm
    refine vx_ret ?_
    exact q_iret hx hb hr hlocks hP hS ⟨(by subst ho2; subst ho8; refine ⟨?_, ?_, ?_⟩ <;> first | trivial | assumption | omega | exact ⟨by assumption, by omega⟩ | exact ⟨by assumption, by assumption⟩ | exact ⟨by assumption, by omega, by omega⟩ | exact ⟨by assumption, by omega, by omega, by omega, by omega⟩ | exact ⟨by assumption, by assumption, by omega⟩), ⟨rfl, rfl, rfl⟩⟩ (by decide) (by decide) dX3_likeness_38
  · -- (S ob2 0 1) = (S ob8 0 1)
    refine lv_aload_n hx hb dX3_likeness_25 rfl (lv_at hl 1 rfl) ?_
    refine q_callV (k := 5) hx hb hml hl.1 hown hK hZ hP hS ha2 hk2 rfl rfl (c_X2_width l g base ad S ob2 ha2 hk2) t_279 t_280 (q_callB hK 278 24 281 t_278 t_24 t_281 f_yX2_width ⟨by decide, by decide⟩) rfl rfl (Nat.le_of_ble_eq_true rfl) dX3_likeness_26 ⟨by decide, by decide⟩  (q_an (fun H locs hP hS => ?_))
    refine lv_aload hx hb dX3_likeness_29 (lv_at hl 0 rfl) ?_
    refine q_callV (k := 4) hx hb hml hl.1 hown hK hZ hP hS ha8 hk8 rfl rfl (c_X0_width l g base ad S ob8 ha8 hk8) t_413 t_414 (q_callB hK 412 22 415 t_412 t_22 t_415 f_yX0_width ⟨by decide, by decide⟩) rfl rfl (Nat.le_of_ble_eq_true rfl) dX3_likeness_31 ⟨by decide, by decide⟩  (q_an (fun H locs hP hS => ?_))
    refine q_icmp_eq (tgt := 39) hx hb (hP.rg _ _ _) (hP.rg _ _ _) dX3_likeness_34 (by decide) (fun c_4 => ?_) (fun c_4 => ?_)
    · -- (S ob2 0 0) = (S ob8 0 0)
      refine lv_aload_n hx hb dX3_likeness_39 rfl (lv_at hl 1 rfl) ?_
      refine lv_aload hx hb dX3_likeness_40 (lv_at hl 0 rfl) ?_
      refine lv_iconst (v := i32 (0)) hx hb dX3_likeness_42 rfl ?_
      refine W.eq (g2 := F0 m 43 ls (Value.int (i32 (b2 (False))) :: Value.ref (ad ob8 0) :: Value.ref (ad ob2 0) :: [])) (by simp only [b2_t trivial, b2_f not_false] <;> rfl) ?_
      refine q_callV (k := 5) hx hb hml hl.1 hown hK hZ hP hS ha2 hk2 rfl rfl (c_X2_countLike l g base ad S ob2 ob8 False ha2 hk2 ha8 hk8 (by omega) (by omega) (by omega)) t_512 t_513 (q_callB hK 511 24 514 t_511 t_24 t_514 f_yX2_countLike ⟨by decide, by decide⟩) rfl rfl (Nat.le_of_ble_eq_true rfl) dX3_likeness_43 ⟨by decide, by decide⟩  (q_an (fun H locs hP hS => ?_))
      refine lv_aload_n hx hb dX3_likeness_46 rfl (lv_at hl 1 rfl) ?_
      refine lv_aload hx hb dX3_likeness_47 (lv_at hl 0 rfl) ?_
      refine lv_iconst (v := i32 (1)) hx hb dX3_likeness_49 rfl ?_
      refine W.eq (g2 := F0 m 50 ls (Value.int (i32 (b2 (True))) :: Value.ref (ad ob8 0) :: Value.ref (ad ob2 0) :: Value.int (i32 (lkC S ob2 ob8 False)) :: [])) (by simp only [b2_t trivial, b2_f not_false] <;> rfl) ?_
      refine q_callV (k := 5) hx hb hml hl.1 hown hK hZ hP hS ha2 hk2 rfl rfl (c_X2_countLike l g base ad S ob2 ob8 True ha2 hk2 ha8 hk8 (by omega) (by omega) (by omega)) t_512 t_513 (q_callB hK 511 24 514 t_511 t_24 t_514 f_yX2_countLike ⟨by decide, by decide⟩) rfl rfl (Nat.le_of_ble_eq_true rfl) dX3_likeness_50 ⟨by decide, by decide⟩  (q_an (fun H locs hP hS => ?_))
      refine q_max hx hb hown hK hml hl.1 t_MXL515 ⟨by decide, Nat.le_of_ble_eq_true rfl⟩ (by decide) (by decide) (lkC_r (by omega) (by omega)) (lkC_r (by omega) (by omega)) dX3_likeness_53 ?_
      refine q_nm (show (if (lkC S ob2 ob8 False) < (lkC S ob2 ob8 True) then (lkC S ob2 ob8 True) else (lkC S ob2 ob8 False) : Int) = lnC S (10 + x.toNat) (4 + z.toNat) from by subst ho2; subst ho8; unfold lnC; first | (rw [cif_t ⟨by assumption, by assumption⟩]; done) | (rw [cif_f (fun y => absurd y.1 (by assumption))]; done) | (rw [cif_f (fun y => absurd y.2 (by assumption))]; done)) ?_
      subst hQm
      refine vx_ret ?_
      exact q_iret hx hb hr hlocks hP hS ⟨(by subst ho2; subst ho8; refine ⟨?_, ?_, ?_⟩ <;> first | trivial | assumption | omega | exact ⟨by assumption, by omega⟩ | exact ⟨by assumption, by assumption⟩ | exact ⟨by assumption, by omega, by omega⟩ | exact ⟨by assumption, by omega, by omega, by omega, by omega⟩ | exact ⟨by assumption, by assumption, by omega⟩), ⟨rfl, rfl, rfl⟩⟩ (by decide) (by decide) dX3_likeness_56
    · -- (S ob2 0 0) ≠ (S ob8 0 0)
      refine lv_iconst (v := i32 (-1)) hx hb dX3_likeness_37 rfl ?_
      refine q_nm (show (-1 : Int) = lnC S (10 + x.toNat) (4 + z.toNat) from by subst ho2; subst ho8; unfold lnC; first | (rw [cif_t ⟨by assumption, by assumption⟩]; done) | (rw [cif_f (fun y => absurd y.1 (by assumption))]; done) | (rw [cif_f (fun y => absurd y.2 (by assumption))]; done)) ?_
      subst hQm
      refine vx_ret ?_
      exact q_iret hx hb hr hlocks hP hS ⟨(by subst ho2; subst ho8; refine ⟨?_, ?_, ?_⟩ <;> first | trivial | assumption | omega | exact ⟨by assumption, by omega⟩ | exact ⟨by assumption, by assumption⟩ | exact ⟨by assumption, by omega, by omega⟩ | exact ⟨by assumption, by omega, by omega, by omega, by omega⟩ | exact ⟨by assumption, by assumption, by omega⟩), ⟨rfl, rfl, rfl⟩⟩ (by decide) (by decide) dX3_likeness_38

set_option maxHeartbeats 4000000 in
set_option maxRecDepth 100000 in
theorem c_X3_weave (l : Launch) (g : GT) (base : Nat) (ad : Nat → Nat → Nat) (S : St) (x w : Int) (hfl : l.stackTraces = false) (hwc : wC S) (hrn : rng x) (hrn2 : rng w) : vx_Met l yX3_weave [Cond.code yX3_weave cX3_weave 4 (some FieldType.int)] ({ frames := 7, cells := 2, slots := 12, locals := 112 }) (va_Pc [.ref (ad 1 0), .int (i32 (x)), .int (i32 (w))] (PK g base ad S)) (gQ g base (fun rr9 ad9 S9 => ((peC S x ∧ (0 ≤ w ∧ w < S (10 + x.toNat) 0 2)) ∧ (maC S (10 + x.toNat) w ∧ tsC S (10 + x.toNat) w) ∧ (True)) ∧ an (some (.int (i32 (S (10 + x.toNat) 4 w)))) ad (wvS S (10 + x.toNat) w) rr9 ad9 S9)) (xQ g base ad S (fun E => t3 eB eS "" (peC S x ∧ (0 ≤ w ∧ w < S (10 + x.toNat) 0 2)) (maC S (10 + x.toNat) w ∧ tsC S (10 + x.toNat) w) (True) E)) 2 12 (fun q => base ≤ q) := by
  refine mk_mx (own := RX3) (lv0 := [(0, .ref (ad 1 0)), (1, .int (i32 (x))), (2, .int (i32 (w)))]) (by decide) rfl (Nat.le_of_ble_eq_true rfl) rfl ?_
  intro p e s m below meth cz av Qm hx hb hr hml hown hlocks hout hK hZ hP hQm ls hl
  have hS : va_S (fun q => base ≤ q) s.heap s.heap [] := va_S.rf
  have rS : ∀ (a1 b1 : Nat) (i1 : Int), rng (S a1 b1 i1) := fun a1 b1 i1 => hP.rg a1 b1 i1
  refine lv_aload_n hx hb dX3_weave_0 rfl (lv_at hl 0 rfl) ?_
  refine lv_iload_n hx hb dX3_weave_1 rfl (lv_at hl 1 rfl) ?_
  refine q_callVx (k := 1) hx hb hml hl.1 hown hK hZ hP hS hwc.h1 rfl rfl rfl (c_X3_pieceNumbered l g base ad S x hfl hwc.h1 hrn) t_275 t_1 (q_callB hK 273 15 276 t_273 t_15 t_276 f_yX3_pieceNumbered ⟨by decide, by decide⟩) rfl rfl (Nat.le_of_ble_eq_true rfl) dX3_weave_2 ⟨by decide, by decide⟩ (fun E ce q9 H locs hE hq9 hv9 hc9 hP hS => by subst hQm; exact q_out hout hlocks hq9 hv9 hc9 hP hS (by exact Or.inl ⟨hE.1, by intro y; first | exact hE.2 y | exact hE.2 y.1 | exact hE.2 y.2 | exact hE.2 y.2.1 | exact hE.2 y.2.2 | exact hE.2 y.1.1 | exact hE.2 y.1.2⟩) (by decide) (by decide)) (q_anc (fun hq1 H locs hP hS => ?_))
  have hc2 := hwc.pe hq1
  have hk2 := kd_p (x := x) (by have := hq1; unfold peC at this; omega)
  generalize ho2 : 10 + Int.toNat x = ob2 at hc2 hk2 ⊢
  obtain ⟨ha2, hpw2, hph2, hpv2, hsh2, hor2, hro2, hlt2, h122⟩ := hc2
  refine lv_astore_n (lv' := [(3, .ref (ad ob2 0)), (0, .ref (ad 1 0)), (1, .int (i32 (x))), (2, .int (i32 (w)))]) hx hb dX3_weave_5 rfl hl (by decide) rfl (fun ls hl => ?_)
  refine lv_iload_n hx hb dX3_weave_6 rfl (lv_at hl 3 rfl) ?_
  refine q_if_lt (tgt := 18) hx hb hrn2 dX3_weave_7 (by decide) (fun c_2 => ?_) (fun c_2 => ?_)
  · -- w < 0
    subst hQm
    exact q_throw hx hb hfl hml hl.1 hown hK hZ (by decide) t_138 t_23 t_545 (at_B hK) ao_B hP hS dX3_weave_18 dX3_weave_21 dX3_weave_22 dX3_weave_24 dX3_weave_27 hout (by decide) (by decide) (by decide) (by decide) hlocks (by subst ho2; exact Or.inl ⟨rfl, by first | omega | (intro y; omega) | (intro y; have := y.1; omega) | (intro y; have := y.2; omega) | (intro y; exact absurd y.1 (by assumption)) | (intro y; exact absurd y.2 (by assumption)) | (intro y; have := y.2.1; omega)| (intro y; exact absurd y.2.1 (by assumption))| (intro y; exact absurd y.2.2 (by assumption)) | (intro y; exact absurd y (by assumption))⟩) (by decide) (by decide)
  · -- 0 ≤ w
    refine lv_iload_n hx hb dX3_weave_10 rfl (lv_at hl 3 rfl) ?_
    refine lv_aload_n hx hb dX3_weave_11 rfl (lv_at hl 0 rfl) ?_
    refine q_callV (k := 5) hx hb hml hl.1 hown hK hZ hP hS ha2 hk2 rfl rfl (c_X2_weavers l g base ad S ob2 ha2 hk2) t_542 t_543 (q_callB hK 541 24 544 t_541 t_24 t_544 f_yX2_weavers ⟨by decide, by decide⟩) rfl rfl (Nat.le_of_ble_eq_true rfl) dX3_weave_12 ⟨by decide, by decide⟩  (q_an (fun H locs hP hS => ?_))
    refine q_icmp_lt (tgt := 28) hx hb hrn2 (hP.rg _ _ _) dX3_weave_15 (by decide) (fun c_3 => ?_) (fun c_3 => ?_)
    · -- w < (S ob2 0 2)
      refine lv_aload_n hx hb dX3_weave_28 rfl (lv_at hl 0 rfl) ?_
      refine lv_iload_n hx hb dX3_weave_29 rfl (lv_at hl 3 rfl) ?_
      refine q_callV (k := 5) hx hb hml hl.1 hown hK hZ hP hS ha2 hk2 rfl rfl (c_X2_hasWovenAll l g base ad S ob2 w ha2 hk2 (by omega)) t_547 t_548 (q_callB hK 546 24 549 t_546 t_24 t_549 f_yX2_hasWovenAll ⟨by decide, by decide⟩) rfl rfl (Nat.le_of_ble_eq_true rfl) dX3_weave_30 ⟨by decide, by decide⟩  (q_an (fun H locs hP hS => ?_))
      refine q_if_eqb (tgt := 46) hx hb dX3_weave_33 (by decide) (fun c_4 => ?_) (fun c_4 => ?_)
      · -- ¬ (S ob2 0 1 ≤ S ob2 4 w)
        refine lv_aload_n hx hb dX3_weave_46 rfl (lv_at hl 0 rfl) ?_
        refine lv_iload_n hx hb dX3_weave_47 rfl (lv_at hl 3 rfl) ?_
        refine q_callV (k := 5) hx hb hml hl.1 hown hK hZ hP hS ha2 hk2 rfl rfl (c_X2_isAboveNeighbour l g base ad S ob2 w ha2 hk2 (by omega) (by omega)) t_552 t_553 (q_callB hK 551 24 554 t_551 t_24 t_554 f_yX2_isAboveNeighbour ⟨by decide, by decide⟩) rfl rfl (Nat.le_of_ble_eq_true rfl) dX3_weave_48 ⟨by decide, by decide⟩  (q_an (fun H locs hP hS => ?_))
        refine q_if_eqb (tgt := 64) hx hb dX3_weave_51 (by decide) (fun c_5 => ?_) (fun c_5 => ?_)
        · -- ¬ ((0 < w ∧ S ob2 4 (w - 1) < S ob2 4 w) ∨ (w < S ob2 0 2 - 1 ∧ S ob2 4 (w + 1) < S ob2 4 w))
          have z12 := h122 w (by omega) (by omega) (by omega)
          obtain ⟨z13, z14⟩ := hro2 w (by omega) (by omega)
          refine lv_aload_n hx hb dX3_weave_64 rfl (lv_at hl 0 rfl) ?_
          refine lv_iload_n hx hb dX3_weave_65 rfl (lv_at hl 3 rfl) ?_
          refine lv_aload_n hx hb dX3_weave_66 rfl (lv_at hl 1 rfl) ?_
          refine p_get (k := 1) hx hb hown hK hP hwc.h1 rfl rfl rfl (lay_X3 hK) 4 69 (by decide) t_69 rfl rfl dX3_weave_67 ?_
          refine q_callV (k := 5) hx hb hml hl.1 hown hK hZ hP hS ha2 hk2 rfl rfl (c_X2_threadsSuffice l g base ad S ob2 w ha2 hk2 hwc.h2 (by omega) (by omega) (by omega) (by omega) hwc.lc hwc.lf) t_557 t_558 (q_callB hK 556 24 559 t_556 t_24 t_559 f_yX2_threadsSuffice ⟨by decide, by decide⟩) rfl rfl (Nat.le_of_ble_eq_true rfl) dX3_weave_70 ⟨by decide, by decide⟩  (q_an (fun H locs hP hS => ?_))
          refine q_if_neb (tgt := 86) hx hb dX3_weave_73 (by decide) (fun c_6 => ?_) (fun c_6 => ?_)
          · -- ∀ j, 0 ≤ j → j < 6 → niC S ob2 w j ≤ thC S j
            refine lv_aload_n hx hb dX3_weave_86 rfl (lv_at hl 0 rfl) ?_
            refine lv_iload_n hx hb dX3_weave_87 rfl (lv_at hl 3 rfl) ?_
            refine lv_aload_n hx hb dX3_weave_88 rfl (lv_at hl 1 rfl) ?_
            refine p_get (k := 1) hx hb hown hK hP hwc.h1 rfl rfl rfl (lay_X3 hK) 4 69 (by decide) t_69 rfl rfl dX3_weave_89 ?_
            refine q_callV (k := 5) hx hb hml hl.1 hown hK hZ hP hS ha2 hk2 rfl rfl (c_X2_weaveRow l g base ad S ob2 w ha2 hk2 hwc.h2 (by omega) (by omega) (by omega) (by omega) hwc.lc) t_575 t_576 (q_callB hK 574 24 577 t_574 t_24 t_577 f_yX2_weaveRow ⟨by decide, by decide⟩) rfl rfl (Nat.le_of_ble_eq_true rfl) dX3_weave_92 ⟨by decide, by decide⟩  (q_an (fun H locs hP hS => ?_))
            generalize eS7 : wrI S ob2 (S ob2 4 w) (fcC S ob2 w) (fcC S ob2 (w + 1) - fcC S ob2 w).toNat = S7 at hP
            have qS7 : ∀ (a1 b1 : Nat) (i1 : Int), S7 a1 b1 i1 = wrI S ob2 (S ob2 4 w) (fcC S ob2 w) (fcC S ob2 (w + 1) - fcC S ob2 w).toNat a1 b1 i1 := fun a1 b1 i1 => by rw [← eS7]
            have aS7_1 : S7 1 0 (-1) = 1 := by rw [qS7, wrI_o (by omega) (by omega) (by omega)]; exact hwc.h1
            have aS7_2 : S7 2 0 (-1) = 1 := by rw [qS7, wrI_o (by omega) (by omega) (by omega)]; exact hwc.h2
            have aS7_ob2 : S7 ob2 0 (-1) = 1 := by rw [qS7, wrI_o (by omega) (by omega) (by omega)]; exact ha2
            generalize eS8 : st S7 ob2 4 w (S ob2 4 w + 1) = S8 at hP
            have rS8 : ∀ (a1 b1 : Nat) (i1 : Int), rng (S8 a1 b1 i1) := fun a1 b1 i1 => hP.rg a1 b1 i1
            have qS8 : ∀ (a1 b1 : Nat) (i1 : Int), S8 a1 b1 i1 = if a1 = ob2 ∧ b1 = 4 ∧ i1 = w then S ob2 4 w + 1 else S7 a1 b1 i1 := fun a1 b1 i1 => by rw [← eS8]; exact st_at _ _ _ _ _ _ _ _
            have aS8_1 : S8 1 0 (-1) = 1 := by rw [qS8, if_neg (by omega)]; exact aS7_1
            have aS8_2 : S8 2 0 (-1) = 1 := by rw [qS8, if_neg (by omega)]; exact aS7_2
            have aS8_ob2 : S8 ob2 0 (-1) = 1 := by rw [qS8, if_neg (by omega)]; exact aS7_ob2
            refine q_nm (show (S ob2 4 w : Int) = S (10 + x.toNat) 4 w from by rw [ho2]) ?_
            subst hQm
            refine vx_ret ?_
            exact q_iret hx hb hr hlocks hP hS ⟨(by subst ho2; exact ⟨⟨by assumption, by omega, by omega⟩, ⟨⟨by omega, by assumption⟩, by unfold tsC; assumption⟩, trivial⟩), ⟨rfl, rfl, (by subst ho2; rw [← eS8, ← eS7]; rfl)⟩⟩ (by decide) (by decide) dX3_weave_95
          · -- ¬ (∀ j, 0 ≤ j → j < 6 → niC S ob2 w j ≤ thC S j)
            subst hQm
            exact q_throw hx hb hfl hml hl.1 hown hK hZ (by decide) t_227 t_21 t_573 (at_S hK) ao_S hP hS dX3_weave_76 dX3_weave_79 dX3_weave_80 dX3_weave_82 dX3_weave_85 hout (by decide) (by decide) (by decide) (by decide) hlocks (by subst ho2; exact Or.inr (Or.inl ⟨rfl, ⟨by assumption, by omega, by omega⟩, fun y => absurd y.2 c_6⟩)) (by decide) (by decide)
        · -- (0 < w ∧ S ob2 4 (w - 1) < S ob2 4 w) ∨ (w < S ob2 0 2 - 1 ∧ S ob2 4 (w + 1) < S ob2 4 w)
          subst hQm
          exact q_throw hx hb hfl hml hl.1 hown hK hZ (by decide) t_227 t_21 t_555 (at_S hK) ao_S hP hS dX3_weave_54 dX3_weave_57 dX3_weave_58 dX3_weave_60 dX3_weave_63 hout (by decide) (by decide) (by decide) (by decide) hlocks (by subst ho2; exact Or.inr (Or.inl ⟨rfl, ⟨by assumption, by omega, by omega⟩, fun y => absurd c_5 y.1.2⟩)) (by decide) (by decide)
      · -- S ob2 0 1 ≤ S ob2 4 w
        subst hQm
        exact q_throw hx hb hfl hml hl.1 hown hK hZ (by decide) t_227 t_21 t_550 (at_S hK) ao_S hP hS dX3_weave_36 dX3_weave_39 dX3_weave_40 dX3_weave_42 dX3_weave_45 hout (by decide) (by decide) (by decide) (by decide) hlocks (by subst ho2; exact Or.inr (Or.inl ⟨rfl, ⟨by assumption, by omega, by omega⟩, fun y => absurd y.1.1 (by omega)⟩)) (by decide) (by decide)
    · -- (S ob2 0 2) ≤ w
      subst hQm
      exact q_throw hx hb hfl hml hl.1 hown hK hZ (by decide) t_138 t_23 t_545 (at_B hK) ao_B hP hS dX3_weave_18 dX3_weave_21 dX3_weave_22 dX3_weave_24 dX3_weave_27 hout (by decide) (by decide) (by decide) (by decide) hlocks (by subst ho2; exact Or.inl ⟨rfl, by first | omega | (intro y; omega) | (intro y; have := y.1; omega) | (intro y; have := y.2; omega) | (intro y; exact absurd y.1 (by assumption)) | (intro y; exact absurd y.2 (by assumption)) | (intro y; have := y.2.1; omega)| (intro y; exact absurd y.2.1 (by assumption))| (intro y; exact absurd y.2.2 (by assumption)) | (intro y; exact absurd y (by assumption))⟩) (by decide) (by decide)

set_option maxHeartbeats 4000000 in
set_option maxRecDepth 100000 in
theorem c_X3_gold (l : Launch) (g : GT) (base : Nat) (ad : Nat → Nat → Nat) (S : St)  (hwc : wC S) : Met l yX3_gold [Cond.code yX3_gold cX3_gold 4 (some FieldType.int)] ({ frames := 3, cells := 0, slots := 0, locals := 67 }) (va_Pc [.ref (ad 1 0)] (PK g base ad S)) (gQ g base (an (some (.int (i32 (gdC S)))) ad S)) 0 0 (fun q => base ≤ q) := by
  refine mk_m (own := RX3) (lv0 := [(0, .ref (ad 1 0))]) (by decide) rfl (Nat.le_of_ble_eq_true rfl) rfl ?_
  intro p e s m below meth cz av Qm hx hb hr hml hown hlocks hK hZ hP hQm ls hl
  have hS : va_S (fun q => base ≤ q) s.heap s.heap [] := va_S.rf
  have rS : ∀ (a1 b1 : Nat) (i1 : Int), rng (S a1 b1 i1) := fun a1 b1 i1 => hP.rg a1 b1 i1
  refine lv_iconst (v := i32 (0)) hx hb dX3_gold_0 rfl ?_
  refine lv_istore_n (lv' := [(1, .int (i32 (0))), (0, .ref (ad 1 0))]) hx hb dX3_gold_1 rfl hl (by decide) rfl (fun ls hl => ?_)
  refine lv_iconst (v := i32 (0)) hx hb dX3_gold_2 rfl ?_
  refine lv_istore_n (lv' := [(2, .int (i32 (0))), (1, .int (i32 (0))), (0, .ref (ad 1 0))]) hx hb dX3_gold_3 rfl hl (by decide) rfl (fun ls hl => ?_)
  have L4 : ∀ (k : Nat) (t n : Int) (H : Heap) (locs : List Loc) (ls : Array Slot), (0 ≤ n ∧ n ≤ 20) → (t = sm (fun k => cif (S 1 6 k = 1) (woC S (10 + k.toNat) 5) 0) n.toNat) → (20 : Int) - n < (k : Int) → pic g base ad S H → va_S (fun q => base ≤ q) s.heap H locs → lv_has ls 4 [(2, .int (i32 (n))), (1, .int (i32 (t))), (0, .ref (ad 1 0))] → W p l e ({ frames := 3, cells := 0, slots := 0, locals := 67 } : Room) s m av below meth cz H locs 0 0 Qm (F0 m 4 ls []) := by
    intro k
    induction k with
    | zero => intro t n H locs ls zn zt hmu _ _ _; exact absurd hmu (by omega)
    | succ k ih4 =>
      intro t n H locs ls zn zt hmu hP hS hl
      refine lv_iload_n hx hb dX3_gold_4 rfl (lv_at hl 0 rfl) ?_
      refine lv_aload_n hx hb dX3_gold_5 rfl (lv_at hl 2 rfl) ?_
      refine p_get (k := 1) hx hb hown hK hP hwc.h1 rfl rfl rfl (lay_X3 hK) 5 70 (by decide) t_70 rfl rfl dX3_gold_6 ?_
      refine p_alen (k := 1) (r := 6) (q := 4) (n := 20) hx hb hK hP hwc.h1 rfl rfl (by decide) (by decide) dX3_gold_9 ?_
      refine q_icmp_ge (tgt := 38) hx hb ⟨by omega, by omega⟩ ⟨by decide, by decide⟩ dX3_gold_10 (by decide) (fun c_1 => ?_) (fun c_1 => ?_)
      · -- 20 ≤ n
        refine lv_iload_n hx hb dX3_gold_38 rfl (lv_at hl 1 rfl) ?_
        refine q_nm (show (t : Int) = gdC S from by rw [zt, show n = 20 from by omega]; rfl) ?_
        subst hQm
        exact q_iret hx hb hr hlocks hP hS ⟨rfl, rfl, rfl⟩ (by decide) (by decide) dX3_gold_39
      · -- n < 20
        refine lv_aload_n hx hb dX3_gold_13 rfl (lv_at hl 2 rfl) ?_
        refine p_get (k := 1) hx hb hown hK hP hwc.h1 rfl rfl rfl (lay_X3 hK) 5 70 (by decide) t_70 rfl rfl dX3_gold_14 ?_
        refine lv_iload_n hx hb dX3_gold_17 rfl (lv_at hl 0 rfl) ?_
        refine p_aldP (k := 1) (r := 6) (n := 20) hx hb hK hP hwc.h1 rfl rfl (by decide) (by decide) (by omega) (by omega) dX3_gold_18 ?_
        by_cases f_2 : S 1 6 n = 1
        · rw [if_pos f_2]
          have hp9 : peC S n := ⟨by omega, by omega, f_2⟩
          have hc9 := hwc.pe hp9
          have hk9 := kd_p (x := n) (by omega)
          generalize ho9 : 10 + Int.toNat n = ob9 at hc9 hk9 ⊢
          obtain ⟨ha9, hpw9, hph9, hpv9, hsh9, hor9, hro9, hlt9, h129⟩ := hc9
          refine lv_astore_n (lv' := [(3, .ref (ad ob9 0)), (2, .int (i32 (n))), (1, .int (i32 (t))), (0, .ref (ad 1 0))]) hx hb dX3_gold_19 rfl hl (by decide) rfl (fun ls hl => ?_)
          refine lv_aload_n hx hb dX3_gold_20 rfl (lv_at hl 0 rfl) ?_
          refine lv_ifnull hx hb dX3_gold_21 ?_
          refine lv_iload_n hx hb dX3_gold_24 rfl (lv_at hl 2 rfl) ?_
          refine lv_aload_n hx hb dX3_gold_25 rfl (lv_at hl 0 rfl) ?_
          refine lv_iconst (v := i32 (5)) hx hb dX3_gold_26 rfl ?_
          refine q_callV (k := 5) hx hb hml hl.1 hown hK hZ hP hS ha9 hk9 rfl rfl (c_X2_countWovenOf l g base ad S ob9 5 ha9 hk9 (by omega) (by omega) ⟨by decide, by decide⟩) t_711 t_712 (q_callB hK 710 24 713 t_710 t_24 t_713 f_yX2_countWovenOf ⟨by decide, by decide⟩) rfl rfl (Nat.le_of_ble_eq_true rfl) dX3_gold_27 ⟨by decide, by decide⟩  (q_an (fun H locs hP hS => ?_))
          refine q_iadd hx hb dX3_gold_30 ?_
          refine lv_istore_n (lv' := [(1, .int (i32 (t + (woC S ob9 5)))), (3, .ref (ad ob9 0)), (2, .int (i32 (n))), (0, .ref (ad 1 0))]) hx hb dX3_gold_31 rfl hl (by decide) rfl (fun ls hl => ?_)
          refine lv_iinc (v := i32 (n + 1)) (lv' := [(2, .int (i32 (n + 1))), (1, .int (i32 (t + (woC S ob9 5)))), (3, .ref (ad ob9 0)), (0, .ref (ad 1 0))]) hx hb dX3_gold_32 hl (k := 2) rfl (i32_add _ _) (by decide) rfl (fun ls hl => ?_)
          refine lv_goto (tgt := 4) hx hb dX3_gold_35 (by decide) ?_
          exact ih4 (t + (woC S ob9 5)) (n + 1) _ _ _ (by omega) (by rw [sm_1 _ zn.1, ← zt]; rw [cif_t f_2, ho9]) (by omega) hP hS (lv_sub hl [0, 1, 3] rfl)
        · rw [if_neg f_2]
          refine lv_astore_nN (lv' := [(3, .null), (2, .int (i32 (n))), (1, .int (i32 (t))), (0, .ref (ad 1 0))]) hx hb dX3_gold_19 rfl hl (by decide) rfl (fun ls hl => ?_)
          refine lv_aload_nN hx hb dX3_gold_20 rfl (lv_at hl 0 rfl) ?_
          refine lv_ifnullN (tgt := 32) hx hb dX3_gold_21 (by decide) ?_
          refine lv_iinc (v := i32 (n + 1)) (lv' := [(2, .int (i32 (n + 1))), (3, .null), (1, .int (i32 (t))), (0, .ref (ad 1 0))]) hx hb dX3_gold_32 hl (k := 1) rfl (i32_add _ _) (by decide) rfl (fun ls hl => ?_)
          refine lv_goto (tgt := 4) hx hb dX3_gold_35 (by decide) ?_
          exact ih4 t (n + 1) _ _ _ (by omega) (by rw [sm_1 _ zn.1, ← zt]; rw [cif_f f_2]; omega) (by omega) hP hS (lv_sub hl [0, 2, 3] rfl)
  exact L4 (((20 : Int) - 0) + 1).toNat 0 0 _ _ _ (by omega) (by rfl) (by omega) hP hS (lv_sub hl [0, 1, 2] rfl)

set_option maxHeartbeats 4000000 in
set_option maxRecDepth 100000 in
theorem c_X3_balances (l : Launch) (g : GT) (base : Nat) (ad : Nat → Nat → Nat) (S : St)  (hwc : wC S) : Met l yX3_balances [Cond.code yX3_balances cX3_balances 3 (some FieldType.boolean)] ({ frames := 3, cells := 0, slots := 0, locals := 67 }) (va_Pc [.ref (ad 1 0)] (PK g base ad S)) (gQ g base (an (some (.int (i32 (b2 (∀ j, 0 ≤ j → j < 20 → tbC S 20 j = S 2 3 j - S 2 4 j))))) ad (blS S 20))) 0 0 (fun q => base ≤ q) := by
  refine mk_m (own := RX3) (lv0 := [(0, .ref (ad 1 0))]) (by decide) rfl (Nat.le_of_ble_eq_true rfl) rfl ?_
  intro p e s m below meth cz av Qm hx hb hr hml hown hlocks hK hZ hP hQm ls hl
  have hS : va_S (fun q => base ≤ q) s.heap s.heap [] := va_S.rf
  have rS : ∀ (a1 b1 : Nat) (i1 : Int), rng (S a1 b1 i1) := fun a1 b1 i1 => hP.rg a1 b1 i1
  refine lv_iconst (v := i32 (0)) hx hb dX3_balances_0 rfl ?_
  refine lv_istore_n (lv' := [(1, .int (i32 (0))), (0, .ref (ad 1 0))]) hx hb dX3_balances_1 rfl hl (by decide) rfl (fun ls hl => ?_)
  have L2 : ∀ (k : Nat) (j : Int) (Sa : St) (H : Heap) (locs : List Loc) (ls : Array Slot), (0 ≤ j ∧ j ≤ 20) → (∀ (a1 b1 : Nat) (i1 : Int), Sa a1 b1 i1 = if a1 = 1 ∧ b1 = 8 ∧ 0 ≤ i1 ∧ i1 < j then 0 else S a1 b1 i1) → (20 : Int) - j < (k : Int) → pic g base ad Sa H → va_S (fun q => base ≤ q) s.heap H locs → lv_has ls 3 [(1, .int (i32 (j))), (0, .ref (ad 1 0))] → W p l e ({ frames := 3, cells := 0, slots := 0, locals := 67 } : Room) s m av below meth cz H locs 0 0 Qm (F0 m 2 ls []) := by
    intro k
    induction k with
    | zero => intro j Sa H locs ls zj zS hmu _ _ _; exact absurd hmu (by omega)
    | succ k ih2 =>
      intro j Sa H locs ls zj zS hmu hP hS hl
      have aSa_1 : Sa 1 0 (-1) = 1 := by rw [zS, if_neg (by omega)]; exact hwc.h1
      have aSa_2 : Sa 2 0 (-1) = 1 := by rw [zS, if_neg (by omega)]; exact hwc.h2
      have rSa : ∀ (a1 b1 : Nat) (i1 : Int), rng (Sa a1 b1 i1) := fun a1 b1 i1 => hP.rg a1 b1 i1
      refine lv_iload_n hx hb dX3_balances_2 rfl (lv_at hl 0 rfl) ?_
      refine lv_aload_n hx hb dX3_balances_3 rfl (lv_at hl 1 rfl) ?_
      refine p_get (k := 1) hx hb hown hK hP aSa_1 rfl rfl rfl (lay_X3 hK) 7 72 (by decide) t_72 rfl rfl dX3_balances_4 ?_
      refine p_alen (k := 1) (r := 8) (q := 0) (n := 20) hx hb hK hP aSa_1 rfl rfl (by decide) (by decide) dX3_balances_7 ?_
      refine q_icmp_ge (tgt := 24) hx hb ⟨by omega, by omega⟩ ⟨by decide, by decide⟩ dX3_balances_8 (by decide) (fun c_1 => ?_) (fun c_1 => ?_)
      · -- 20 ≤ j
        refine lv_iconst (v := i32 (0)) hx hb dX3_balances_24 rfl ?_
        refine lv_istore_n (lv' := [(1, .int (i32 (0))), (0, .ref (ad 1 0))]) hx hb dX3_balances_25 rfl hl (by decide) rfl (fun ls hl => ?_)
        have L26 : ∀ (k : Nat) (n : Int) (Sb : St) (H : Heap) (locs : List Loc) (ls : Array Slot), (0 ≤ n ∧ n ≤ 20) → (∀ (a1 b1 : Nat) (i1 : Int), Sb a1 b1 i1 = blS S n a1 b1 i1) → (20 : Int) - n < (k : Int) → pic g base ad Sb H → va_S (fun q => base ≤ q) s.heap H locs → lv_has ls 3 [(1, .int (i32 (n))), (0, .ref (ad 1 0))] → W p l e ({ frames := 3, cells := 0, slots := 0, locals := 67 } : Room) s m av below meth cz H locs 0 0 Qm (F0 m 26 ls []) := by
          intro k
          induction k with
          | zero => intro n Sb H locs ls zn zT hmu _ _ _; exact absurd hmu (by omega)
          | succ k ih26 =>
            intro n Sb H locs ls zn zT hmu hP hS hl
            have aSb_1 : Sb 1 0 (-1) = 1 := by rw [zT, blS_o (by omega)]; exact hwc.h1
            have aSb_2 : Sb 2 0 (-1) = 1 := by rw [zT, blS_o (by omega)]; exact hwc.h2
            have rSb : ∀ (a1 b1 : Nat) (i1 : Int), rng (Sb a1 b1 i1) := fun a1 b1 i1 => hP.rg a1 b1 i1
            refine lv_iload_n hx hb dX3_balances_26 rfl (lv_at hl 0 rfl) ?_
            refine lv_aload_n hx hb dX3_balances_27 rfl (lv_at hl 1 rfl) ?_
            refine p_get (k := 1) hx hb hown hK hP aSb_1 rfl rfl rfl (lay_X3 hK) 5 70 (by decide) t_70 rfl rfl dX3_balances_28 ?_
            refine p_alen (k := 1) (r := 6) (q := 4) (n := 20) hx hb hK hP aSb_1 rfl rfl (by decide) (by decide) dX3_balances_31 ?_
            refine q_icmp_ge (tgt := 60) hx hb ⟨by omega, by omega⟩ ⟨by decide, by decide⟩ dX3_balances_32 (by decide) (fun c_2 => ?_) (fun c_2 => ?_)
            · -- 20 ≤ n
              refine lv_iconst (v := i32 (0)) hx hb dX3_balances_60 rfl ?_
              refine lv_istore_n (lv' := [(1, .int (i32 (0))), (0, .ref (ad 1 0))]) hx hb dX3_balances_61 rfl hl (by decide) rfl (fun ls hl => ?_)
              have L62 : ∀ (k : Nat) (d : Int) (Sd : St) (H : Heap) (locs : List Loc) (ls : Array Slot), (0 ≤ d ∧ d ≤ 20) → (∀ (a1 b1 : Nat) (i1 : Int), Sd a1 b1 i1 = blS S 20 a1 b1 i1) → (∀ j, 0 ≤ j → j < d → tbC S 20 j = S 2 3 j - S 2 4 j) → (20 : Int) - d < (k : Int) → pic g base ad Sd H → va_S (fun q => base ≤ q) s.heap H locs → lv_has ls 3 [(1, .int (i32 (d))), (0, .ref (ad 1 0))] → W p l e ({ frames := 3, cells := 0, slots := 0, locals := 67 } : Room) s m av below meth cz H locs 0 0 Qm (F0 m 62 ls []) := by
                intro k
                induction k with
                | zero => intro d Sd H locs ls zd zU za hmu _ _ _; exact absurd hmu (by omega)
                | succ k ih62 =>
                  intro d Sd H locs ls zd zU za hmu hP hS hl
                  have aSd_1 : Sd 1 0 (-1) = 1 := by rw [zU, blS_o (by omega)]; exact hwc.h1
                  have aSd_2 : Sd 2 0 (-1) = 1 := by rw [zU, blS_o (by omega)]; exact hwc.h2
                  have rSd : ∀ (a1 b1 : Nat) (i1 : Int), rng (Sd a1 b1 i1) := fun a1 b1 i1 => hP.rg a1 b1 i1
                  refine lv_iload_n hx hb dX3_balances_62 rfl (lv_at hl 0 rfl) ?_
                  refine lv_aload_n hx hb dX3_balances_63 rfl (lv_at hl 1 rfl) ?_
                  refine p_get (k := 1) hx hb hown hK hP aSd_1 rfl rfl rfl (lay_X3 hK) 7 72 (by decide) t_72 rfl rfl dX3_balances_64 ?_
                  refine p_alen (k := 1) (r := 8) (q := 0) (n := 20) hx hb hK hP aSd_1 rfl rfl (by decide) (by decide) dX3_balances_67 ?_
                  refine q_icmp_ge (tgt := 96) hx hb ⟨by omega, by omega⟩ ⟨by decide, by decide⟩ dX3_balances_68 (by decide) (fun c_3 => ?_) (fun c_3 => ?_)
                  · -- 20 ≤ d
                    refine lv_iconst (v := i32 (1)) hx hb dX3_balances_96 rfl ?_
                    refine q_nm (b2_t (show ∀ j, 0 ≤ j → j < 20 → tbC S 20 j = S 2 3 j - S 2 4 j from by exact fun j h0 h1 => za j h0 (by omega))).symm ?_
                    subst hQm
                    exact q_zret hx hb hr hlocks hP hS (b2_01 _) ⟨rfl, rfl, (by funext a1 b1 i1; rw [zU])⟩ (by decide) (by decide) dX3_balances_97
                  · -- d < 20
                    refine lv_aload_n hx hb dX3_balances_71 rfl (lv_at hl 1 rfl) ?_
                    refine p_get (k := 1) hx hb hown hK hP aSd_1 rfl rfl rfl (lay_X3 hK) 7 72 (by decide) t_72 rfl rfl dX3_balances_72 ?_
                    refine lv_iload_n hx hb dX3_balances_75 rfl (lv_at hl 0 rfl) ?_
                    refine p_iald (k := 1) (r := 8) (n := 20) hx hb hK hP aSd_1 rfl rfl (by decide) (by decide) (by omega) (by omega) dX3_balances_76 ?_
                    refine lv_aload_n hx hb dX3_balances_77 rfl (lv_at hl 1 rfl) ?_
                    refine p_get (k := 1) hx hb hown hK hP aSd_1 rfl rfl rfl (lay_X3 hK) 4 69 (by decide) t_69 rfl rfl dX3_balances_78 ?_
                    refine lv_iload_n hx hb dX3_balances_81 rfl (lv_at hl 0 rfl) ?_
                    refine q_callV (k := 2) hx hb hml hl.1 hown hK hZ hP hS aSd_2 rfl rfl rfl (c_X1_threadsGivenBy l g base ad Sd d aSd_2 (by omega)) t_112 t_113 (q_callB hK 111 16 114 t_111 t_16 t_114 f_yX1_threadsGivenBy ⟨by decide, by decide⟩) rfl rfl (Nat.le_of_ble_eq_true rfl) dX3_balances_82 ⟨by decide, by decide⟩  (q_an (fun H locs hP hS => ?_))
                    have w1 : Sd 2 3 d = S 2 3 d := by rw [zU, blS_o (by omega)]
                    have w2 : Sd 2 4 d = S 2 4 d := by rw [zU, blS_o (by omega)]
                    have w8 : Sd 1 8 d = tbC S 20 d := by rw [zU]; unfold blS; rw [if_pos ⟨rfl, rfl, zd.1, by omega⟩]
                    have w9 := tb_b (S := S) (fun x q => hwc.pe q) d 20 (by decide)
                    obtain ⟨w3, w4⟩ := hwc.lf d zd.1 (by omega)
                    obtain ⟨w5, w6⟩ := hwc.fi d zd.1 (by omega)
                    refine q_icmp_eq (tgt := 90) hx hb (hP.rg _ _ _) ⟨by omega, by omega⟩ dX3_balances_85 (by decide) (fun c_4 => ?_) (fun c_4 => ?_)
                    · -- (Sd 1 8 d) = (Sd 2 3 d - Sd 2 4 d)
                      refine lv_iinc (v := i32 (d + 1)) (lv' := [(1, .int (i32 (d + 1))), (0, .ref (ad 1 0))]) hx hb dX3_balances_90 hl (k := 0) rfl (i32_add _ _) (by decide) rfl (fun ls hl => ?_)
                      refine lv_goto (tgt := 62) hx hb dX3_balances_93 (by decide) ?_
                      exact ih62 (d + 1) Sd _ _ _ (by omega) (by exact zU) (by intro j h0 h1; by_cases hj : j = d; (rw [hj, ← w8, ← w1, ← w2]; exact c_4); exact za j h0 (by omega)) (by omega) hP hS (lv_sub hl [0, 1] rfl)
                    · -- (Sd 1 8 d) ≠ (Sd 2 3 d - Sd 2 4 d)
                      refine lv_iconst (v := i32 (0)) hx hb dX3_balances_88 rfl ?_
                      refine q_nm (b2_f (show ¬ (∀ j, 0 ≤ j → j < 20 → tbC S 20 j = S 2 3 j - S 2 4 j) from by exact fun y => absurd (y d zd.1 (by omega)) (by rw [← w8, ← w1, ← w2]; exact c_4))).symm ?_
                      subst hQm
                      exact q_zret hx hb hr hlocks hP hS (b2_01 _) ⟨rfl, rfl, (by funext a1 b1 i1; rw [zU])⟩ (by decide) (by decide) dX3_balances_89
              exact L62 (((20 : Int) - 0) + 1).toNat 0 Sb _ _ _ (by omega) (by exact fun a b i => by rw [zT, show n = 20 from by omega]) (by intro j h0 h1; omega) (by omega) hP hS (lv_sub hl [0, 1] rfl)
            · -- n < 20
              refine lv_aload_n hx hb dX3_balances_35 rfl (lv_at hl 1 rfl) ?_
              refine p_get (k := 1) hx hb hown hK hP aSb_1 rfl rfl rfl (lay_X3 hK) 5 70 (by decide) t_70 rfl rfl dX3_balances_36 ?_
              refine lv_iload_n hx hb dX3_balances_39 rfl (lv_at hl 0 rfl) ?_
              refine p_aldP (k := 1) (r := 6) (n := 20) hx hb hK hP aSb_1 rfl rfl (by decide) (by decide) (by omega) (by omega) dX3_balances_40 ?_
              by_cases f_5 : Sb 1 6 n = 1
              · rw [if_pos f_5]
                have w16 : S 1 6 n = 1 := by have := f_5; rw [zT, blS_o (by omega)] at this; exact this
                have hp9 : peC S n := ⟨by omega, by omega, w16⟩
                have hc9 := hwc.pe hp9
                have hk9 := kd_p (x := n) (by omega)
                generalize ho9 : 10 + Int.toNat n = ob9 at hc9 hk9 ⊢
                obtain ⟨ha9, hpw9, hph9, hpv9, hsh9, hor9, hro9, hlt9, h129⟩ := hc9
                have haB9 : Sb ob9 0 (-1) = 1 := by rw [zT, blS_o (by omega)]; exact ha9
                refine lv_astore_n (lv' := [(2, .ref (ad ob9 0)), (1, .int (i32 (n))), (0, .ref (ad 1 0))]) hx hb dX3_balances_41 rfl hl (by decide) rfl (fun ls hl => ?_)
                refine lv_aload_n hx hb dX3_balances_42 rfl (lv_at hl 0 rfl) ?_
                refine lv_ifnull hx hb dX3_balances_43 ?_
                refine lv_aload_n hx hb dX3_balances_46 rfl (lv_at hl 0 rfl) ?_
                refine lv_aload_n hx hb dX3_balances_47 rfl (lv_at hl 2 rfl) ?_
                refine p_get (k := 1) hx hb hown hK hP aSb_1 rfl rfl rfl (lay_X3 hK) 7 72 (by decide) t_72 rfl rfl dX3_balances_48 ?_
                refine q_callV (k := 5) hx hb hml hl.1 hown hK hZ hP hS haB9 hk9 rfl rfl (c_X2_addThreadsTo l g base ad Sb ob9 haB9 hk9 aSb_1 (by rw [zT, blS_o (by omega)]; omega) (by rw [zT, blS_o (by omega)]; omega) (fun j h0 h1 => by rw [zT]; unfold blS; rw [if_pos ⟨rfl, rfl, h0, h1⟩]; have := tb_b (S := S) (fun x q => hwc.pe q) j n (by omega); omega)) t_95 t_96 (q_callB hK 94 24 97 t_94 t_24 t_97 f_yX2_addThreadsTo ⟨by decide, by decide⟩) rfl rfl (Nat.le_of_ble_eq_true rfl) dX3_balances_51 ⟨by decide, by decide⟩  (q_an (fun H locs hP hS => ?_))
                generalize eS6 : atF Sb ob9 (Sb ob9 0 1) 0 = S6 at hP
                have rS6 : ∀ (a1 b1 : Nat) (i1 : Int), rng (S6 a1 b1 i1) := fun a1 b1 i1 => hP.rg a1 b1 i1
                have qS6 : ∀ (a1 b1 : Nat) (i1 : Int), S6 a1 b1 i1 = atF Sb ob9 (Sb ob9 0 1) 0 a1 b1 i1 := fun a1 b1 i1 => by rw [← eS6]
                have aS6_1 : S6 1 0 (-1) = 1 := by rw [qS6, atF_o (by omega)]; exact aSb_1
                have aS6_2 : S6 2 0 (-1) = 1 := by rw [qS6, atF_o (by omega)]; exact aSb_2
                have aS6_ob9 : S6 ob9 0 (-1) = 1 := by rw [qS6, atF_o (by omega)]; exact haB9
                refine lv_iinc (v := i32 (n + 1)) (lv' := [(1, .int (i32 (n + 1))), (2, .ref (ad ob9 0)), (0, .ref (ad 1 0))]) hx hb dX3_balances_54 hl (k := 1) rfl (i32_add _ _) (by decide) rfl (fun ls hl => ?_)
                refine lv_goto (tgt := 26) hx hb dX3_balances_57 (by decide) ?_
                exact ih26 (n + 1) S6 _ _ _ (by omega) (by exact bl_s zT zn.1 w16 ho9 qS6) (by omega) hP hS (lv_sub hl [0, 2] rfl)
              · rw [if_neg f_5]
                refine lv_astore_nN (lv' := [(2, .null), (1, .int (i32 (n))), (0, .ref (ad 1 0))]) hx hb dX3_balances_41 rfl hl (by decide) rfl (fun ls hl => ?_)
                refine lv_aload_nN hx hb dX3_balances_42 rfl (lv_at hl 0 rfl) ?_
                refine lv_ifnullN (tgt := 54) hx hb dX3_balances_43 (by decide) ?_
                refine lv_iinc (v := i32 (n + 1)) (lv' := [(1, .int (i32 (n + 1))), (2, .null), (0, .ref (ad 1 0))]) hx hb dX3_balances_54 hl (k := 1) rfl (i32_add _ _) (by decide) rfl (fun ls hl => ?_)
                refine lv_goto (tgt := 26) hx hb dX3_balances_57 (by decide) ?_
                exact ih26 (n + 1) Sb _ _ _ (by omega) (by exact bl_u zT zn.1 (fun y => f_5 (by rw [zT, blS_o (by omega)]; exact y))) (by omega) hP hS (lv_sub hl [0, 2] rfl)
        exact L26 (((20 : Int) - 0) + 1).toNat 0 Sa _ _ _ (by omega) (by exact bl_f zS (by omega)) (by omega) hP hS (lv_sub hl [0, 1] rfl)
      · -- j < 20
        refine lv_aload_n hx hb dX3_balances_11 rfl (lv_at hl 1 rfl) ?_
        refine p_get (k := 1) hx hb hown hK hP aSa_1 rfl rfl rfl (lay_X3 hK) 7 72 (by decide) t_72 rfl rfl dX3_balances_12 ?_
        refine lv_iload_n hx hb dX3_balances_15 rfl (lv_at hl 0 rfl) ?_
        refine lv_iconst (v := i32 (0)) hx hb dX3_balances_16 rfl ?_
        refine p_iast (k := 1) (r := 8) (n := 20) hx hb hK hP hS aSa_1 rfl rfl (by decide) (by decide) (by omega) (by omega) ⟨by decide, by decide⟩ dX3_balances_17 (fun H locs hP hS => ?_)
        generalize eS7 : st Sa 1 8 j 0 = S7 at hP
        have qS7 : ∀ (a1 b1 : Nat) (i1 : Int), S7 a1 b1 i1 = if a1 = 1 ∧ b1 = 8 ∧ i1 = j then 0 else Sa a1 b1 i1 := fun a1 b1 i1 => by rw [← eS7]; exact st_at _ _ _ _ _ _ _ _
        have rS7 : ∀ (a1 b1 : Nat) (i1 : Int), rng (S7 a1 b1 i1) := fun a1 b1 i1 => hP.rg a1 b1 i1
        have aS7_1 : S7 1 0 (-1) = 1 := by rw [qS7, if_neg (by omega)]; exact aSa_1
        have aS7_2 : S7 2 0 (-1) = 1 := by rw [qS7, if_neg (by omega)]; exact aSa_2
        refine lv_iinc (v := i32 (j + 1)) (lv' := [(1, .int (i32 (j + 1))), (0, .ref (ad 1 0))]) hx hb dX3_balances_18 hl (k := 0) rfl (i32_add _ _) (by decide) rfl (fun ls hl => ?_)
        refine lv_goto (tgt := 2) hx hb dX3_balances_21 (by decide) ?_
        exact ih2 (j + 1) S7 _ _ _ (by omega) (by exact bl_z zS zj.1 qS7) (by omega) hP hS (lv_sub hl [0, 1] rfl)
  exact L2 (((20 : Int) - 0) + 1).toNat 0 S _ _ _ (by omega) (by intro a1 b1 i1; rw [if_neg (by omega)]) (by omega) hP hS (lv_sub hl [0, 1] rfl)
