set_option maxHeartbeats 4000000 in
set_option maxRecDepth 100000 in
theorem c_X3_dropPiece (l : Launch) (g : GT) (base : Nat) (ad : Nat → Nat → Nat) (S : St) (z : Int) (hala : S 1 0 (-1) = 1) (hzz : 0 ≤ z ∧ z < 20) : Met l yX3_dropPiece [Cond.code yX3_dropPiece cX3_dropPiece 2 (none : Option FieldType)] ({ frames := 0, cells := 0, slots := 0, locals := 0 }) (va_Pc [.ref (ad 1 0), .int (i32 (z))] (PK g base ad S)) (gQ g base (an (none) ad (st S 1 6 z 0))) 0 0 (fun q => base ≤ q) := by
  refine mk_m (own := RX3) (lv0 := [(0, .ref (ad 1 0)), (1, .int (i32 (z)))]) (by decide) rfl (Nat.le_of_ble_eq_true rfl) rfl ?_
  intro p e s m below meth cz av Qm hx hb hr hml hown hlocks hK hZ hP hQm ls hl
  have hS : va_S (fun q => base ≤ q) s.heap s.heap [] := va_S.rf
  have rS : ∀ (a1 b1 : Nat) (i1 : Int), rng (S a1 b1 i1) := fun a1 b1 i1 => hP.rg a1 b1 i1
  refine lv_iload_n hx hb dX3_dropPiece_0 rfl (lv_at hl 1 rfl) ?_
  refine q_if_lt (tgt := 20) hx hb ⟨by omega, by omega⟩ dX3_dropPiece_1 (by decide) (fun c_1 => ?_) (fun c_1 => ?_)
  · -- z < 0
    subst hQm
    exact q_vret hx hb hr hlocks hP hS ⟨rfl, rfl, (by exfalso; omega)⟩ (by decide) (by decide) dX3_dropPiece_20
  · -- 0 ≤ z
    refine lv_iload_n hx hb dX3_dropPiece_4 rfl (lv_at hl 1 rfl) ?_
    refine lv_aload_n hx hb dX3_dropPiece_5 rfl (lv_at hl 0 rfl) ?_
    refine p_get (k := 1) hx hb hown hK hP hala rfl rfl rfl (lay_X3 hK) 5 70 (by decide) t_70 rfl rfl dX3_dropPiece_6 ?_
    refine p_alen (k := 1) (r := 6) (q := 4) (n := 20) hx hb hK hP hala rfl rfl (by decide) (by decide) dX3_dropPiece_9 ?_
    refine q_icmp_ge (tgt := 20) hx hb ⟨by omega, by omega⟩ ⟨by decide, by decide⟩ dX3_dropPiece_10 (by decide) (fun c_2 => ?_) (fun c_2 => ?_)
    · -- 20 ≤ z
      subst hQm
      exact q_vret hx hb hr hlocks hP hS ⟨rfl, rfl, (by exfalso; omega)⟩ (by decide) (by decide) dX3_dropPiece_20
    · -- z < 20
      refine lv_aload_n hx hb dX3_dropPiece_13 rfl (lv_at hl 0 rfl) ?_
      refine p_get (k := 1) hx hb hown hK hP hala rfl rfl rfl (lay_X3 hK) 5 70 (by decide) t_70 rfl rfl dX3_dropPiece_14 ?_
      refine lv_iload_n hx hb dX3_dropPiece_17 rfl (lv_at hl 1 rfl) ?_
      refine lv_null hx hb dX3_dropPiece_18 ?_
      refine p_aastN (k := 1) (r := 6) (n := 20) hx hb hK hP hS hala rfl rfl (by decide) (by decide) (by omega) (by omega) dX3_dropPiece_19 (fun H locs hP hS => ?_)
      generalize eS3 : st S 1 6 z 0 = S3 at hP
      have qS3 : ∀ (a1 b1 : Nat) (i1 : Int), S3 a1 b1 i1 = if a1 = 1 ∧ b1 = 6 ∧ i1 = z then 0 else S a1 b1 i1 := fun a1 b1 i1 => by rw [← eS3]; exact st_at _ _ _ _ _ _ _ _
      have rS3 : ∀ (a1 b1 : Nat) (i1 : Int), rng (S3 a1 b1 i1) := fun a1 b1 i1 => hP.rg a1 b1 i1
      have aS3_1 : S3 1 0 (-1) = 1 := by rw [qS3, if_neg (by omega)]; exact hala
      subst hQm
      exact q_vret hx hb hr hlocks hP hS ⟨rfl, rfl, (by rw [← eS3])⟩ (by decide) (by decide) dX3_dropPiece_20

set_option maxHeartbeats 4000000 in
set_option maxRecDepth 100000 in
theorem c_X3_keepPiece (l : Launch) (g : GT) (base : Nat) (ad : Nat → Nat → Nat) (S : St) (o : Nat) (hala : S 1 0 (-1) = 1) (halx : S o 0 (-1) = 1) (hoo : o = 10 + (S 1 0 6).toNat) (hct : 0 ≤ S 1 0 6 ∧ S 1 0 6 < 20) : Met l yX3_keepPiece [Cond.code yX3_keepPiece cX3_keepPiece 3 (some FieldType.int)] ({ frames := 0, cells := 0, slots := 0, locals := 0 }) (va_Pc [.ref (ad 1 0), .ref (ad o 0)] (PK g base ad S)) (gQ g base (an (some (.int (i32 (S 1 0 6)))) ad (st (st S 1 6 (S 1 0 6) 1) 1 0 6 (S 1 0 6 + 1)))) 0 0 (fun q => base ≤ q) := by
  refine mk_m (own := RX3) (lv0 := [(0, .ref (ad 1 0)), (1, .ref (ad o 0))]) (by decide) rfl (Nat.le_of_ble_eq_true rfl) rfl ?_
  intro p e s m below meth cz av Qm hx hb hr hml hown hlocks hK hZ hP hQm ls hl
  have hS : va_S (fun q => base ≤ q) s.heap s.heap [] := va_S.rf
  have rS : ∀ (a1 b1 : Nat) (i1 : Int), rng (S a1 b1 i1) := fun a1 b1 i1 => hP.rg a1 b1 i1
  refine lv_aload_n hx hb dX3_keepPiece_0 rfl (lv_at hl 0 rfl) ?_
  refine p_get (k := 1) hx hb hown hK hP hala rfl rfl rfl (lay_X3 hK) 6 71 (by decide) t_71 rfl rfl dX3_keepPiece_1 ?_
  refine lv_istore_n (lv' := [(2, .int (i32 (S 1 0 6))), (0, .ref (ad 1 0)), (1, .ref (ad o 0))]) hx hb dX3_keepPiece_4 rfl hl (by decide) rfl (fun ls hl => ?_)
  refine lv_iload_n hx hb dX3_keepPiece_5 rfl (lv_at hl 0 rfl) ?_
  refine q_if_lt (tgt := 35) hx hb (hP.rg _ _ _) dX3_keepPiece_6 (by decide) (fun c_1 => ?_) (fun c_1 => ?_)
  · -- (S 1 0 6) < 0
    refine lv_iload_n hx hb dX3_keepPiece_35 rfl (lv_at hl 0 rfl) ?_
    subst hQm
    exact q_iret hx hb hr hlocks hP hS ⟨rfl, rfl, (by exfalso; omega)⟩ (by decide) (by decide) dX3_keepPiece_36
  · -- 0 ≤ (S 1 0 6)
    refine lv_iload_n hx hb dX3_keepPiece_9 rfl (lv_at hl 0 rfl) ?_
    refine lv_aload_n hx hb dX3_keepPiece_10 rfl (lv_at hl 1 rfl) ?_
    refine p_get (k := 1) hx hb hown hK hP hala rfl rfl rfl (lay_X3 hK) 5 70 (by decide) t_70 rfl rfl dX3_keepPiece_11 ?_
    refine p_alen (k := 1) (r := 6) (q := 4) (n := 20) hx hb hK hP hala rfl rfl (by decide) (by decide) dX3_keepPiece_14 ?_
    refine q_icmp_ge (tgt := 35) hx hb (hP.rg _ _ _) ⟨by decide, by decide⟩ dX3_keepPiece_15 (by decide) (fun c_2 => ?_) (fun c_2 => ?_)
    · -- 20 ≤ (S 1 0 6)
      refine lv_iload_n hx hb dX3_keepPiece_35 rfl (lv_at hl 0 rfl) ?_
      subst hQm
      exact q_iret hx hb hr hlocks hP hS ⟨rfl, rfl, (by exfalso; omega)⟩ (by decide) (by decide) dX3_keepPiece_36
    · -- (S 1 0 6) < 20
      refine lv_aload_n hx hb dX3_keepPiece_18 rfl (lv_at hl 1 rfl) ?_
      refine p_get (k := 1) hx hb hown hK hP hala rfl rfl rfl (lay_X3 hK) 5 70 (by decide) t_70 rfl rfl dX3_keepPiece_19 ?_
      refine lv_iload_n hx hb dX3_keepPiece_22 rfl (lv_at hl 0 rfl) ?_
      refine lv_aload_n hx hb dX3_keepPiece_23 rfl (lv_at hl 2 rfl) ?_
      rw [hoo]
      refine p_aastP (k := 1) (r := 6) (n := 20) hx hb hK hP hS hala rfl rfl (by decide) (by decide) (by omega) (by omega) (hoo ▸ halx) (kd_p (by omega)) dX3_keepPiece_24 (fun H locs hP hS => ?_)
      generalize eS3 : st S 1 6 (S 1 0 6) 1 = S3 at hP
      have qS3 : ∀ (a1 b1 : Nat) (i1 : Int), S3 a1 b1 i1 = if a1 = 1 ∧ b1 = 6 ∧ i1 = S 1 0 6 then 1 else S a1 b1 i1 := fun a1 b1 i1 => by rw [← eS3]; exact st_at _ _ _ _ _ _ _ _
      have rS3 : ∀ (a1 b1 : Nat) (i1 : Int), rng (S3 a1 b1 i1) := fun a1 b1 i1 => hP.rg a1 b1 i1
      have aS3_1 : S3 1 0 (-1) = 1 := by rw [qS3, if_neg (by omega)]; exact hala
      have aS3_o : S3 o 0 (-1) = 1 := by rw [qS3, if_neg (by omega)]; exact halx
      refine lv_aload_n hx hb dX3_keepPiece_25 rfl (lv_at hl 1 rfl) ?_
      refine lv_dup hx hb dX3_keepPiece_26 rfl ?_
      refine p_get (k := 1) hx hb hown hK hP aS3_1 rfl rfl rfl (lay_X3 hK) 6 71 (by decide) t_71 rfl rfl dX3_keepPiece_27 ?_
      refine q_nm (show S3 1 0 6 = S 1 0 6 from by rw [qS3, if_neg (by omega)]) ?_
      refine lv_iconst (v := i32 (1)) hx hb dX3_keepPiece_30 rfl ?_
      refine q_iadd hx hb dX3_keepPiece_31 ?_
      refine p_put (k := 1) hx hb hown hK hP hS aS3_1 rfl rfl rfl (lay_X3 hK) tyX3 tyX3_ok nmX3 6 71 (by decide) t_71 rfl rfl (by decide +kernel) ⟨by omega, by omega⟩ (Nat.le_of_ble_eq_true rfl) (set_1_6 _ _ _ _) dX3_keepPiece_32 (fun H locs hP hS => ?_)
      generalize eS4 : st S3 1 0 6 ((S 1 0 6) + 1) = S4 at hP
      have qS4 : ∀ (a1 b1 : Nat) (i1 : Int), S4 a1 b1 i1 = if a1 = 1 ∧ b1 = 0 ∧ i1 = 6 then (S 1 0 6) + 1 else S3 a1 b1 i1 := fun a1 b1 i1 => by rw [← eS4]; exact st_at _ _ _ _ _ _ _ _
      have rS4 : ∀ (a1 b1 : Nat) (i1 : Int), rng (S4 a1 b1 i1) := fun a1 b1 i1 => hP.rg a1 b1 i1
      have aS4_1 : S4 1 0 (-1) = 1 := by rw [qS4, if_neg (by omega)]; exact aS3_1
      have aS4_o : S4 o 0 (-1) = 1 := by rw [qS4, if_neg (by omega)]; exact aS3_o
      refine lv_iload_n hx hb dX3_keepPiece_35 rfl (lv_at hl 0 rfl) ?_
      subst hQm
      exact q_iret hx hb hr hlocks hP hS ⟨rfl, rfl, (by rw [← eS4, ← eS3])⟩ (by decide) (by decide) dX3_keepPiece_36

set_option maxHeartbeats 4000000 in
set_option maxRecDepth 100000 in
theorem c_X3_join (l : Launch) (g : GT) (base : Nat) (ad : Nat → Nat → Nat) (S : St) (x z : Int) (hfl : l.stackTraces = false) (hwc : wC S) (hrn : rng x) (hrn2 : rng z) : vx_Met l yX3_join [Cond.code yX3_join cX3_join 6 (some FieldType.boolean)] ({ frames := 8, cells := 5, slots := 30, locals := 133 }) (va_Pc [.ref (ad 1 0), .int (i32 (x)), .int (i32 (z))] (PK g base ad S)) (gQ g base (fun rr9 ad9 S9 => ((peC S x ∧ peC S z) ∧ (x ≠ z) ∧ (dnC S (10 + x.toNat) ∧ dnC S (10 + z.toNat) ∧ S (10 + x.toNat) 0 1 = S (10 + z.toNat) 0 1 ∧ S (10 + x.toNat) 0 0 + S (10 + z.toNat) 0 0 ≤ 24)) ∧ an (some (.int (i32 (b2 (jnS S (10 + x.toNat) (10 + z.toNat) z (10 + x.toNat) 8 (S (10 + x.toNat) 0 0 - 1) + 1 = jnS S (10 + x.toNat) (10 + z.toNat) z (10 + x.toNat) 8 (S (10 + x.toNat) 0 0)))))) ad (jnS S (10 + x.toNat) (10 + z.toNat) z) rr9 ad9 S9)) (xQ g base ad S (fun E => t3 eB eA eS (peC S x ∧ peC S z) (x ≠ z) (dnC S (10 + x.toNat) ∧ dnC S (10 + z.toNat) ∧ S (10 + x.toNat) 0 1 = S (10 + z.toNat) 0 1 ∧ S (10 + x.toNat) 0 0 + S (10 + z.toNat) 0 0 ≤ 24) E)) 5 30 (fun q => base ≤ q) := by
  refine mk_mx (own := RX3) (lv0 := [(0, .ref (ad 1 0)), (1, .int (i32 (x))), (2, .int (i32 (z)))]) (by decide) rfl (Nat.le_of_ble_eq_true rfl) rfl ?_
  intro p e s m below meth cz av Qm hx hb hr hml hown hlocks hout hK hZ hP hQm ls hl
  have hS : va_S (fun q => base ≤ q) s.heap s.heap [] := va_S.rf
  have rS : ∀ (a1 b1 : Nat) (i1 : Int), rng (S a1 b1 i1) := fun a1 b1 i1 => hP.rg a1 b1 i1
  refine lv_aload_n hx hb dX3_join_0 rfl (lv_at hl 0 rfl) ?_
  refine lv_iload_n hx hb dX3_join_1 rfl (lv_at hl 1 rfl) ?_
  refine q_callVx (k := 1) hx hb hml hl.1 hown hK hZ hP hS hwc.h1 rfl rfl rfl (c_X3_pieceNumbered l g base ad S x hfl hwc.h1 hrn) t_275 t_1 (q_callB hK 273 15 276 t_273 t_15 t_276 f_yX3_pieceNumbered ⟨by decide, by decide⟩) rfl rfl (Nat.le_of_ble_eq_true rfl) dX3_join_2 ⟨by decide, by decide⟩ (fun E ce q9 H locs hE hq9 hv9 hc9 hP hS => by subst hQm; exact q_out hout hlocks hq9 hv9 hc9 hP hS (by exact Or.inl ⟨hE.1, by intro y; first | exact hE.2 y | exact hE.2 y.1 | exact hE.2 y.2 | exact hE.2 y.2.1 | exact hE.2 y.2.2 | exact hE.2 y.1.1 | exact hE.2 y.1.2⟩) (by decide) (by decide)) (q_anc (fun hq1 H locs hP hS => ?_))
  have hc2 := hwc.pe hq1
  have hk2 := kd_p (x := x) (by have := hq1; unfold peC at this; omega)
  generalize ho2 : 10 + Int.toNat x = ob2 at hc2 hk2 ⊢
  obtain ⟨ha2, hpw2, hph2, hpv2, hsh2, hor2, hro2, hlt2, h122⟩ := hc2
  refine lv_astore_n (lv' := [(3, .ref (ad ob2 0)), (0, .ref (ad 1 0)), (1, .int (i32 (x))), (2, .int (i32 (z)))]) hx hb dX3_join_5 rfl hl (by decide) rfl (fun ls hl => ?_)
  refine lv_aload_n hx hb dX3_join_6 rfl (lv_at hl 1 rfl) ?_
  refine lv_iload_n hx hb dX3_join_7 rfl (lv_at hl 3 rfl) ?_
  refine q_callVx (k := 1) hx hb hml hl.1 hown hK hZ hP hS hwc.h1 rfl rfl rfl (c_X3_pieceNumbered l g base ad S z hfl hwc.h1 hrn2) t_275 t_1 (q_callB hK 273 15 276 t_273 t_15 t_276 f_yX3_pieceNumbered ⟨by decide, by decide⟩) rfl rfl (Nat.le_of_ble_eq_true rfl) dX3_join_8 ⟨by decide, by decide⟩ (fun E ce q9 H locs hE hq9 hv9 hc9 hP hS => by subst hQm; exact q_out hout hlocks hq9 hv9 hc9 hP hS (by subst ho2; exact Or.inl ⟨hE.1, by intro y; first | exact hE.2 y | exact hE.2 y.1 | exact hE.2 y.2 | exact hE.2 y.2.1 | exact hE.2 y.2.2 | exact hE.2 y.1.1 | exact hE.2 y.1.2⟩) (by decide) (by decide)) (q_anc (fun hq2 H locs hP hS => ?_))
  have hc8 := hwc.pe hq2
  have hk8 := kd_p (x := z) (by have := hq2; unfold peC at this; omega)
  generalize ho8 : 10 + Int.toNat z = ob8 at hc8 hk8 ⊢
  obtain ⟨ha8, hpw8, hph8, hpv8, hsh8, hor8, hro8, hlt8, h128⟩ := hc8
  refine lv_astore (lv' := [(4, .ref (ad ob8 0)), (3, .ref (ad ob2 0)), (0, .ref (ad 1 0)), (1, .int (i32 (x))), (2, .int (i32 (z)))]) hx hb dX3_join_11 hl (by decide) rfl (fun ls hl => ?_)
  refine lv_iload_n hx hb dX3_join_13 rfl (lv_at hl 3 rfl) ?_
  refine lv_iload_n hx hb dX3_join_14 rfl (lv_at hl 4 rfl) ?_
  refine lv_aload_n hx hb dX3_join_15 rfl (lv_at hl 1 rfl) ?_
  refine lv_aload hx hb dX3_join_16 (lv_at hl 0 rfl) ?_
  refine q_callSx hx hb hml hl.1 hown hK hZ hP hS (c_X3_requireTwoDone l g base ad S x z ob2 ob8 hfl hrn hrn2 ha2 hk2 (by omega) (by omega) ha8 hk8 (by omega) (by omega)) t_593 (q_callB hK 592 15 594 t_592 t_15 t_594 f_yX3_requireTwoDone ⟨by decide, by decide⟩) rfl rfl (Nat.le_of_ble_eq_true rfl) dX3_join_18 ⟨by decide, by decide⟩ (fun E ce q9 H locs hE hq9 hv9 hc9 hP hS => by subst hQm; exact q_out hout hlocks hq9 hv9 hc9 hP hS (by subst ho2; subst ho8; rcases hE with ⟨h1, h2⟩ | ⟨h1, h2, h3⟩; (exact Or.inr (Or.inl ⟨h1, ⟨by assumption, by assumption⟩, fun y => y h2⟩)); exact Or.inr (Or.inr ⟨h1, ⟨by assumption, by assumption⟩, h2, fun y => h3 ⟨y.1, y.2.1⟩⟩)) (by decide) (by decide)) (q_anc (fun hq3 H locs hP hS => ?_))
  refine lv_aload_n hx hb dX3_join_21 rfl (lv_at hl 1 rfl) ?_
  refine q_callV (k := 5) hx hb hml hl.1 hown hK hZ hP hS ha2 hk2 rfl rfl (c_X2_height l g base ad S ob2 ha2 hk2) t_283 t_284 (q_callB hK 282 24 285 t_282 t_24 t_285 f_yX2_height ⟨by decide, by decide⟩) rfl rfl (Nat.le_of_ble_eq_true rfl) dX3_join_22 ⟨by decide, by decide⟩  (q_an (fun H locs hP hS => ?_))
  refine lv_aload hx hb dX3_join_25 (lv_at hl 0 rfl) ?_
  refine q_callV (k := 5) hx hb hml hl.1 hown hK hZ hP hS ha8 hk8 rfl rfl (c_X2_height l g base ad S ob8 ha8 hk8) t_283 t_284 (q_callB hK 282 24 285 t_282 t_24 t_285 f_yX2_height ⟨by decide, by decide⟩) rfl rfl (Nat.le_of_ble_eq_true rfl) dX3_join_27 ⟨by decide, by decide⟩  (q_an (fun H locs hP hS => ?_))
  refine q_icmp_eq (tgt := 43) hx hb (hP.rg _ _ _) (hP.rg _ _ _) dX3_join_30 (by decide) (fun c_4 => ?_) (fun c_4 => ?_)
  · -- (S ob2 0 1) = (S ob8 0 1)
    refine lv_aload_n hx hb dX3_join_43 rfl (lv_at hl 1 rfl) ?_
    refine q_callV (k := 5) hx hb hml hl.1 hown hK hZ hP hS ha2 hk2 rfl rfl (c_X2_width l g base ad S ob2 ha2 hk2) t_279 t_280 (q_callB hK 278 24 281 t_278 t_24 t_281 f_yX2_width ⟨by decide, by decide⟩) rfl rfl (Nat.le_of_ble_eq_true rfl) dX3_join_44 ⟨by decide, by decide⟩  (q_an (fun H locs hP hS => ?_))
    refine lv_aload hx hb dX3_join_47 (lv_at hl 0 rfl) ?_
    refine q_callV (k := 5) hx hb hml hl.1 hown hK hZ hP hS ha8 hk8 rfl rfl (c_X2_width l g base ad S ob8 ha8 hk8) t_279 t_280 (q_callB hK 278 24 281 t_278 t_24 t_281 f_yX2_width ⟨by decide, by decide⟩) rfl rfl (Nat.le_of_ble_eq_true rfl) dX3_join_49 ⟨by decide, by decide⟩  (q_an (fun H locs hP hS => ?_))
    refine q_iadd hx hb dX3_join_52 ?_
    refine lv_bipush (v := i32 (24)) hx hb dX3_join_53 (by decide) ?_
    refine q_icmp_le (tgt := 68) hx hb ⟨by omega, by omega⟩ ⟨by decide, by decide⟩ dX3_join_55 (by decide) (fun c_5 => ?_) (fun c_5 => ?_)
    · -- ((S ob2 0 0) + (S ob8 0 0)) ≤ 24
      have wpc : 0 ≤ z ∧ z < 20 := by have := hq2; unfold peC at this; omega
      have wpx : 0 ≤ x ∧ x < 20 := by have := hq1; unfold peC at this; omega
      have wxz := hq3.1
      refine lv_aload_n hx hb dX3_join_68 rfl (lv_at hl 1 rfl) ?_
      refine q_callV (k := 5) hx hb hml hl.1 hown hK hZ hP hS ha2 hk2 rfl rfl (c_X2_width l g base ad S ob2 ha2 hk2) t_279 t_280 (q_callB hK 278 24 281 t_278 t_24 t_281 f_yX2_width ⟨by decide, by decide⟩) rfl rfl (Nat.le_of_ble_eq_true rfl) dX3_join_69 ⟨by decide, by decide⟩  (q_an (fun H locs hP hS => ?_))
      refine lv_istore (lv' := [(5, .int (i32 (S ob2 0 0))), (4, .ref (ad ob8 0)), (3, .ref (ad ob2 0)), (0, .ref (ad 1 0)), (1, .int (i32 (x))), (2, .int (i32 (z)))]) hx hb dX3_join_72 hl (by decide) rfl (fun ls hl => ?_)
      refine lv_aload_n hx hb dX3_join_74 rfl (lv_at hl 2 rfl) ?_
      refine lv_aload hx hb dX3_join_75 (lv_at hl 1 rfl) ?_
      refine lv_iconst (v := i32 (0)) hx hb dX3_join_77 rfl ?_
      refine q_callV (k := 5) hx hb hml hl.1 hown hK hZ hP hS ha2 hk2 rfl rfl (c_X2_append l g base ad S ob2 ob8 0 ha2 hk2 ha8 hk8 (by omega) (by omega) (by omega) (by omega) (by omega)) t_614 t_615 (q_callB hK 613 24 616 t_613 t_24 t_616 f_yX2_append ⟨by decide, by decide⟩) rfl rfl (Nat.le_of_ble_eq_true rfl) dX3_join_78 ⟨by decide, by decide⟩  (q_an (fun H locs hP hS => ?_))
      generalize eS6 : apF S ob2 ob8 0 (S ob2 0 0) (S ob2 0 1) (S ob8 0 0 - 0) = S6 at hP
      have rS6 : ∀ (a1 b1 : Nat) (i1 : Int), rng (S6 a1 b1 i1) := fun a1 b1 i1 => hP.rg a1 b1 i1
      have qS6 : ∀ (a1 b1 : Nat) (i1 : Int), S6 a1 b1 i1 = apF S ob2 ob8 0 (S ob2 0 0) (S ob2 0 1) (S ob8 0 0 - 0) a1 b1 i1 := fun a1 b1 i1 => by rw [← eS6]
      have aS6_1 : S6 1 0 (-1) = 1 := by rw [qS6, apF_o (by decide) (by decide)]; exact hwc.h1
      have aS6_2 : S6 2 0 (-1) = 1 := by rw [qS6, apF_o (by decide) (by decide)]; exact hwc.h2
      have aS6_ob2 : S6 ob2 0 (-1) = 1 := by rw [qS6, apF_o (by decide) (by decide)]; exact ha2
      have aS6_ob8 : S6 ob8 0 (-1) = 1 := by rw [qS6, apF_o (by decide) (by decide)]; exact ha8
      refine lv_aload_n hx hb dX3_join_81 rfl (lv_at hl 3 rfl) ?_
      refine lv_iload_n hx hb dX3_join_82 rfl (lv_at hl 5 rfl) ?_
      refine q_callV (k := 1) hx hb hml hl.1 hown hK hZ hP hS aS6_1 rfl rfl rfl (c_X3_dropPiece l g base ad S6 z aS6_1 (by omega)) t_627 t_11 (q_callB hK 625 15 628 t_625 t_15 t_628 f_yX3_dropPiece ⟨by decide, by decide⟩) rfl rfl (Nat.le_of_ble_eq_true rfl) dX3_join_83 ⟨by decide, by decide⟩  (q_an (fun H locs hP hS => ?_))
      generalize eS7 : st S6 1 6 z 0 = S7 at hP
      have rS7 : ∀ (a1 b1 : Nat) (i1 : Int), rng (S7 a1 b1 i1) := fun a1 b1 i1 => hP.rg a1 b1 i1
      have qS7 : ∀ (a1 b1 : Nat) (i1 : Int), S7 a1 b1 i1 = if a1 = 1 ∧ b1 = 6 ∧ i1 = z then 0 else S6 a1 b1 i1 := fun a1 b1 i1 => by rw [← eS7]; exact st_at _ _ _ _ _ _ _ _
      have aS7_1 : S7 1 0 (-1) = 1 := by rw [qS7, if_neg (by omega)]; exact aS6_1
      have aS7_2 : S7 2 0 (-1) = 1 := by rw [qS7, if_neg (by omega)]; exact aS6_2
      have aS7_ob2 : S7 ob2 0 (-1) = 1 := by rw [qS7, if_neg (by omega)]; exact aS6_ob2
      have aS7_ob8 : S7 ob8 0 (-1) = 1 := by rw [qS7, if_neg (by omega)]; exact aS6_ob8
      refine lv_aload_n hx hb dX3_join_86 rfl (lv_at hl 2 rfl) ?_
      refine lv_iload hx hb dX3_join_87 (lv_at hl 0 rfl) ?_
      refine q_callV (k := 5) hx hb hml hl.1 hown hK hZ hP hS aS7_ob2 hk2 rfl rfl (c_X2_isTrueAhead l g base ad S7 ob2 (S ob2 0 0) aS7_ob2 hk2 (by omega) (fun j h0 h1 => by rw [qS7, if_neg (by omega), qS6]; exact apF_8 hor2 hor8 (by omega) h0 h1)) t_528 t_529 (q_callB hK 629 24 530 t_629 t_24 t_530 f_yX2_isTrueAhead ⟨by decide, by decide⟩) rfl rfl (Nat.le_of_ble_eq_true rfl) dX3_join_89 ⟨by decide, by decide⟩  (q_an (fun H locs hP hS => ?_))
      refine q_nm (b2_c (show (S7 ob2 8 ((S ob2 0 0) - 1) + 1 = S7 ob2 8 (S ob2 0 0)) ↔ (jnS S (10 + x.toNat) (10 + z.toNat) z (10 + x.toNat) 8 (S (10 + x.toNat) 0 0 - 1) + 1 = jnS S (10 + x.toNat) (10 + z.toNat) z (10 + x.toNat) 8 (S (10 + x.toNat) 0 0)) from by subst ho2; subst ho8; rw [← eS7, ← eS6]; exact Iff.rfl)) ?_
      subst hQm
      refine vx_ret ?_
      exact q_zret hx hb hr hlocks hP hS (b2_01 _) ⟨(by subst ho2; subst ho8; exact ⟨⟨by assumption, by assumption⟩, hq3.1, hq3.2.1, hq3.2.2, by assumption, by omega⟩), ⟨rfl, rfl, (by subst ho2; subst ho8; rw [← eS7, ← eS6]; rfl)⟩⟩ (by decide) (by decide) dX3_join_92
    · -- 24 < ((S ob2 0 0) + (S ob8 0 0))
      subst hQm
      exact q_throw hx hb hfl hml hl.1 hown hK hZ (by decide) t_227 t_21 t_612 (at_S hK) ao_S hP hS dX3_join_58 dX3_join_61 dX3_join_62 dX3_join_64 dX3_join_67 hout (by decide) (by decide) (by decide) (by decide) hlocks (by subst ho2; subst ho8; exact Or.inr (Or.inr ⟨rfl, ⟨by assumption, by assumption⟩, hq3.1, fun y => absurd y.2.2.2 (by omega)⟩)) (by decide) (by decide)
  · -- (S ob2 0 1) ≠ (S ob8 0 1)
    subst hQm
    exact q_throw hx hb hfl hml hl.1 hown hK hZ (by decide) t_227 t_21 t_611 (at_S hK) ao_S hP hS dX3_join_33 dX3_join_36 dX3_join_37 dX3_join_39 dX3_join_42 hout (by decide) (by decide) (by decide) (by decide) hlocks (by subst ho2; subst ho8; exact Or.inr (Or.inr ⟨rfl, ⟨by assumption, by assumption⟩, hq3.1, fun y => absurd y.2.2.1 (by assumption)⟩)) (by decide) (by decide)
