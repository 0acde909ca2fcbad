set_option maxHeartbeats 4000000 in
set_option maxRecDepth 100000 in
theorem c_X2_copyColumn (l : Launch) (g : GT) (base : Nat) (ad : Nat → Nat → Nat) (S : St) (o : Nat) (x : Nat) (q u : Int) (hal : S o 0 (-1) = 1) (hkd : kd o = 5) (halx : S x 0 (-1) = 1) (hkd2 : kd x = 5) (hxo : x ≠ o) (hht : 0 ≤ S o 0 1 ∧ S o 0 1 ≤ 10) (hqq : 0 ≤ q ∧ q < 24) (huu : 0 ≤ u ∧ u < 24) : Met l yX2_copyColumn [Cond.code yX2_copyColumn cX2_copyColumn 5 (none : Option FieldType)] ({ frames := 2, cells := 0, slots := 0, locals := 43 }) (va_Pc [.ref (ad o 0), .ref (ad x 0), .int (i32 (q)), .int (i32 (u))] (PK g base ad S)) (gQ g base (an (none) ad (ccF S o x q u (S o 0 1)))) 0 0 (fun q => base ≤ q) := by
  refine mk_m (own := RX2) (lv0 := [(0, .ref (ad o 0)), (1, .ref (ad x 0)), (2, .int (i32 (q))), (3, .int (i32 (u)))]) (by decide) rfl (Nat.le_of_ble_eq_true rfl) rfl ?_
  intro p e s m below meth cz av Qm hx hb hr hml hown hlocks hK hZ hP hQm ls hl
  have hS : va_S (fun q => base ≤ q) s.heap s.heap [] := va_S.rf
  have rS : ∀ (a1 b1 : Nat) (i1 : Int), rng (S a1 b1 i1) := fun a1 b1 i1 => hP.rg a1 b1 i1
  refine lv_aload_n hx hb dX2_copyColumn_0 rfl (lv_at hl 0 rfl) ?_
  refine p_get (k := 5) hx hb hown hK hP hal hkd rfl rfl (lay_X2 hK) 7 467 (by decide) t_467 rfl rfl dX2_copyColumn_1 ?_
  refine lv_iload_n hx hb dX2_copyColumn_4 rfl (lv_at hl 3 rfl) ?_
  refine lv_aload_n hx hb dX2_copyColumn_5 rfl (lv_at hl 1 rfl) ?_
  refine p_get (k := 5) hx hb hown hK hP halx hkd2 rfl rfl (lay_X2 hK) 7 467 (by decide) t_467 rfl rfl dX2_copyColumn_6 ?_
  refine lv_iload_n hx hb dX2_copyColumn_9 rfl (lv_at hl 2 rfl) ?_
  refine q_callN hx hb hml hl.1 hown hK hZ hP hS (c_X3_valueAt l g base ad S x 8 5 24 q halx hkd2 rfl (by omega) (by omega) ⟨by omega, by omega⟩) t_105 t_15 t_107 t_106 f_yX3_valueAt ⟨by decide, by decide⟩ rfl rfl (Nat.le_of_ble_eq_true rfl) dX2_copyColumn_10 ⟨by decide, by decide⟩ (q_an (fun H locs hP hS => ?_))
  refine q_nm (vA_in (by omega) (by omega)) ?_
  refine q_callN hx hb hml hl.1 hown hK hZ hP hS (c_X3_setAt l g base ad S o 8 5 24 u (S x 8 q) hal hkd rfl (by omega) (by omega) ⟨by omega, by omega⟩ (hP.rg _ _ _)) t_108 t_15 t_110 t_109 f_yX3_setAt ⟨by decide, by decide⟩ rfl rfl (Nat.le_of_ble_eq_true rfl) dX2_copyColumn_13 ⟨by decide, by decide⟩ (q_an (fun H locs hP hS => ?_))
  rw [sA_in (by omega) (by omega)] at hP
  generalize eS1 : st S o 8 u (S x 8 q) = S1 at hP
  have qS1 : ∀ (a1 b1 : Nat) (i1 : Int), S1 a1 b1 i1 = if a1 = o ∧ b1 = 8 ∧ i1 = u then S x 8 q else S a1 b1 i1 := fun a1 b1 i1 => by rw [← eS1]; exact st_at _ _ _ _ _ _ _ _
  have rS1 : ∀ (a1 b1 : Nat) (i1 : Int), rng (S1 a1 b1 i1) := fun a1 b1 i1 => hP.rg a1 b1 i1
  have aS1_o : S1 o 0 (-1) = 1 := by rw [qS1, if_neg (by omega)]; exact hal
  have aS1_x : S1 x 0 (-1) = 1 := by rw [qS1, if_neg (by omega)]; exact halx
  refine lv_iconst (v := i32 (0)) hx hb dX2_copyColumn_16 rfl ?_
  refine lv_istore (lv' := [(4, .int (i32 (0))), (0, .ref (ad o 0)), (1, .ref (ad x 0)), (2, .int (i32 (q))), (3, .int (i32 (u)))]) hx hb dX2_copyColumn_17 hl (by decide) rfl (fun ls hl => ?_)
  have L19 : ∀ (k : Nat) (r : Int) (Sa : St) (H : Heap) (locs : List Loc) (ls : Array Slot), (0 ≤ r ∧ r ≤ S o 0 1) → (∀ (a1 b1 : Nat) (i1 : Int), Sa a1 b1 i1 = ccF S o x q u r a1 b1 i1) → S o 0 1 - r < (k : Int) → pic g base ad Sa H → va_S (fun q => base ≤ q) s.heap H locs → lv_has ls 5 [(4, .int (i32 (r))), (0, .ref (ad o 0)), (1, .ref (ad x 0)), (2, .int (i32 (q))), (3, .int (i32 (u)))] → W p l e ({ frames := 2, cells := 0, slots := 0, locals := 43 } : Room) s m av below meth cz H locs 0 0 Qm (F0 m 19 ls []) := by
    intro k
    induction k with
    | zero => intro r Sa H locs ls zr zS hmu _ _ _; exact absurd hmu (by omega)
    | succ k ih19 =>
      intro r Sa H locs ls zr zS hmu hP hS hl
      have aSa_o : Sa o 0 (-1) = 1 := by rw [zS, ccF_o (by decide)]; exact hal
      have aSa_x : Sa x 0 (-1) = 1 := by rw [zS, ccF_o (by decide)]; exact halx
      have rSa : ∀ (a1 b1 : Nat) (i1 : Int), rng (Sa a1 b1 i1) := fun a1 b1 i1 => hP.rg a1 b1 i1
      have zx : ∀ (b : Nat) (i : Int), Sa x b i = S x b i := fun b i => by rw [zS, ccF_x hxo]
      refine lv_iload hx hb dX2_copyColumn_19 (lv_at hl 0 rfl) ?_
      refine lv_aload_n hx hb dX2_copyColumn_21 rfl (lv_at hl 1 rfl) ?_
      refine p_get (k := 5) hx hb hown hK hP aSa_o hkd rfl rfl (lay_X2 hK) 1 461 (by decide) t_461 rfl rfl dX2_copyColumn_22 ?_
      refine q_nm (show Sa o 0 1 = S o 0 1 from by rw [zS, ccF_o (by decide)]) ?_
      refine q_icmp_ge (tgt := 94) hx hb ⟨by omega, by omega⟩ (rS _ _ _) dX2_copyColumn_25 (by decide) (fun c_2 => ?_) (fun c_2 => ?_)
      · -- (S o 0 1) ≤ r
        subst hQm
        exact q_vret hx hb hr hlocks hP hS ⟨rfl, rfl, (by funext a1 b1 i1; rw [zS, show r = S o 0 1 from by omega])⟩ (by decide) (by decide) dX2_copyColumn_94
      · -- r < (S o 0 1)
        refine lv_aload_n hx hb dX2_copyColumn_28 rfl (lv_at hl 1 rfl) ?_
        refine p_get (k := 5) hx hb hown hK hP aSa_o hkd rfl rfl (lay_X2 hK) 4 464 (by decide) t_464 rfl rfl dX2_copyColumn_29 ?_
        refine lv_iload hx hb dX2_copyColumn_32 (lv_at hl 0 rfl) ?_
        refine lv_iload_n hx hb dX2_copyColumn_34 rfl (lv_at hl 4 rfl) ?_
        refine q_callS hx hb hml hl.1 hown hK hZ hP hS (c_X2_placeOf l g base ad Sa r u ) t_103 (q_callB hK 102 24 104 t_102 t_24 t_104 f_yX2_placeOf ⟨by decide, by decide⟩) rfl rfl (Nat.le_of_ble_eq_true rfl) dX2_copyColumn_35 ⟨by decide, by decide⟩  (q_an (fun H locs hP hS => ?_))
        refine lv_aload_n hx hb dX2_copyColumn_38 rfl (lv_at hl 2 rfl) ?_
        refine lv_iload hx hb dX2_copyColumn_39 (lv_at hl 0 rfl) ?_
        refine lv_iload_n hx hb dX2_copyColumn_41 rfl (lv_at hl 3 rfl) ?_
        refine q_callV (k := 5) hx hb hml hl.1 hown hK hZ hP hS aSa_x hkd2 rfl rfl (c_X2_colourAt l g base ad Sa x r q aSa_x hkd2 (by omega) (by omega)) t_313 t_314 (q_callB hK 312 24 315 t_312 t_24 t_315 f_yX2_colourAt ⟨by decide, by decide⟩) rfl rfl (Nat.le_of_ble_eq_true rfl) dX2_copyColumn_42 ⟨by decide, by decide⟩  (q_an (fun H locs hP hS => ?_))
        refine q_callN hx hb hml hl.1 hown hK hZ hP hS (c_X3_setAt l g base ad Sa o 5 5 240 (r * 24 + u) (Sa x 5 (r * 24 + q)) aSa_o hkd rfl (by omega) (by omega) ⟨by omega, by omega⟩ (hP.rg _ _ _)) t_108 t_15 t_110 t_109 f_yX3_setAt ⟨by decide, by decide⟩ rfl rfl (Nat.le_of_ble_eq_true rfl) dX2_copyColumn_45 ⟨by decide, by decide⟩ (q_an (fun H locs hP hS => ?_))
        rw [sA_in (by omega) (by omega)] at hP
        generalize eS3 : st Sa o 5 (r * 24 + u) (Sa x 5 (r * 24 + q)) = S3 at hP
        have qS3 : ∀ (a1 b1 : Nat) (i1 : Int), S3 a1 b1 i1 = if a1 = o ∧ b1 = 5 ∧ i1 = r * 24 + u then Sa x 5 (r * 24 + q) else Sa a1 b1 i1 := fun a1 b1 i1 => by rw [← eS3]; exact st_at _ _ _ _ _ _ _ _
        have rS3 : ∀ (a1 b1 : Nat) (i1 : Int), rng (S3 a1 b1 i1) := fun a1 b1 i1 => hP.rg a1 b1 i1
        have aS3_o : S3 o 0 (-1) = 1 := by rw [qS3, if_neg (by omega)]; exact aSa_o
        have aS3_x : S3 x 0 (-1) = 1 := by rw [qS3, if_neg (by omega)]; exact aSa_x
        refine lv_aload_n hx hb dX2_copyColumn_48 rfl (lv_at hl 1 rfl) ?_
        refine p_get (k := 5) hx hb hown hK hP aS3_o hkd rfl rfl (lay_X2 hK) 5 465 (by decide) t_465 rfl rfl dX2_copyColumn_49 ?_
        refine lv_iload hx hb dX2_copyColumn_52 (lv_at hl 0 rfl) ?_
        refine lv_iload_n hx hb dX2_copyColumn_54 rfl (lv_at hl 4 rfl) ?_
        refine q_callS hx hb hml hl.1 hown hK hZ hP hS (c_X2_placeOf l g base ad S3 r u ) t_103 (q_callB hK 102 24 104 t_102 t_24 t_104 f_yX2_placeOf ⟨by decide, by decide⟩) rfl rfl (Nat.le_of_ble_eq_true rfl) dX2_copyColumn_55 ⟨by decide, by decide⟩  (q_an (fun H locs hP hS => ?_))
        refine lv_aload_n hx hb dX2_copyColumn_58 rfl (lv_at hl 2 rfl) ?_
        refine lv_iload hx hb dX2_copyColumn_59 (lv_at hl 0 rfl) ?_
        refine lv_iload_n hx hb dX2_copyColumn_61 rfl (lv_at hl 3 rfl) ?_
        refine q_callV (k := 5) hx hb hml hl.1 hown hK hZ hP hS aS3_x hkd2 rfl rfl (c_X2_lotAt l g base ad S3 x r q aS3_x hkd2 (by omega) (by omega)) t_99 t_100 (q_callB hK 98 24 101 t_98 t_24 t_101 f_yX2_lotAt ⟨by decide, by decide⟩) rfl rfl (Nat.le_of_ble_eq_true rfl) dX2_copyColumn_62 ⟨by decide, by decide⟩  (q_an (fun H locs hP hS => ?_))
        refine q_nm (show S3 x 6 (r * 24 + q) = Sa x 6 (r * 24 + q) from by rw [qS3, if_neg (by omega)]) ?_
        refine q_callN hx hb hml hl.1 hown hK hZ hP hS (c_X3_setAt l g base ad S3 o 6 5 240 (r * 24 + u) (Sa x 6 (r * 24 + q)) aS3_o hkd rfl (by omega) (by omega) ⟨by omega, by omega⟩ (rSa _ _ _)) t_108 t_15 t_110 t_109 f_yX3_setAt ⟨by decide, by decide⟩ rfl rfl (Nat.le_of_ble_eq_true rfl) dX2_copyColumn_65 ⟨by decide, by decide⟩ (q_an (fun H locs hP hS => ?_))
        rw [sA_in (by omega) (by omega)] at hP
        generalize eS4 : st S3 o 6 (r * 24 + u) (Sa x 6 (r * 24 + q)) = S4 at hP
        have qS4 : ∀ (a1 b1 : Nat) (i1 : Int), S4 a1 b1 i1 = if a1 = o ∧ b1 = 6 ∧ i1 = r * 24 + u then Sa x 6 (r * 24 + q) else S3 a1 b1 i1 := fun a1 b1 i1 => by rw [← eS4]; exact st_at _ _ _ _ _ _ _ _
        have rS4 : ∀ (a1 b1 : Nat) (i1 : Int), rng (S4 a1 b1 i1) := fun a1 b1 i1 => hP.rg a1 b1 i1
        have aS4_o : S4 o 0 (-1) = 1 := by rw [qS4, if_neg (by omega)]; exact aS3_o
        have aS4_x : S4 x 0 (-1) = 1 := by rw [qS4, if_neg (by omega)]; exact aS3_x
        refine lv_aload_n hx hb dX2_copyColumn_68 rfl (lv_at hl 1 rfl) ?_
        refine p_get (k := 5) hx hb hown hK hP aS4_o hkd rfl rfl (lay_X2 hK) 6 466 (by decide) t_466 rfl rfl dX2_copyColumn_69 ?_
        refine lv_iload hx hb dX2_copyColumn_72 (lv_at hl 0 rfl) ?_
        refine lv_iload_n hx hb dX2_copyColumn_74 rfl (lv_at hl 4 rfl) ?_
        refine q_callS hx hb hml hl.1 hown hK hZ hP hS (c_X2_placeOf l g base ad S4 r u ) t_103 (q_callB hK 102 24 104 t_102 t_24 t_104 f_yX2_placeOf ⟨by decide, by decide⟩) rfl rfl (Nat.le_of_ble_eq_true rfl) dX2_copyColumn_75 ⟨by decide, by decide⟩  (q_an (fun H locs hP hS => ?_))
        refine lv_aload_n hx hb dX2_copyColumn_78 rfl (lv_at hl 2 rfl) ?_
        refine lv_iload hx hb dX2_copyColumn_79 (lv_at hl 0 rfl) ?_
        refine lv_iload_n hx hb dX2_copyColumn_81 rfl (lv_at hl 3 rfl) ?_
        refine q_callV (k := 5) hx hb hml hl.1 hown hK hZ hP hS aS4_x hkd2 rfl rfl (c_X2_shadeAt l g base ad S4 x r q aS4_x hkd2 (by omega) (by omega)) t_324 t_325 (q_callB hK 323 24 326 t_323 t_24 t_326 f_yX2_shadeAt ⟨by decide, by decide⟩) rfl rfl (Nat.le_of_ble_eq_true rfl) dX2_copyColumn_82 ⟨by decide, by decide⟩  (q_an (fun H locs hP hS => ?_))
        refine q_nm (show S4 x 7 (r * 24 + q) = Sa x 7 (r * 24 + q) from by rw [qS4, if_neg (by omega), qS3, if_neg (by omega)]) ?_
        refine q_callN hx hb hml hl.1 hown hK hZ hP hS (c_X3_setAt l g base ad S4 o 7 5 240 (r * 24 + u) (Sa x 7 (r * 24 + q)) aS4_o hkd rfl (by omega) (by omega) ⟨by omega, by omega⟩ (rSa _ _ _)) t_108 t_15 t_110 t_109 f_yX3_setAt ⟨by decide, by decide⟩ rfl rfl (Nat.le_of_ble_eq_true rfl) dX2_copyColumn_85 ⟨by decide, by decide⟩ (q_an (fun H locs hP hS => ?_))
        rw [sA_in (by omega) (by omega)] at hP
        generalize eS5 : st S4 o 7 (r * 24 + u) (Sa x 7 (r * 24 + q)) = S5 at hP
        have qS5 : ∀ (a1 b1 : Nat) (i1 : Int), S5 a1 b1 i1 = if a1 = o ∧ b1 = 7 ∧ i1 = r * 24 + u then Sa x 7 (r * 24 + q) else S4 a1 b1 i1 := fun a1 b1 i1 => by rw [← eS5]; exact st_at _ _ _ _ _ _ _ _
        have rS5 : ∀ (a1 b1 : Nat) (i1 : Int), rng (S5 a1 b1 i1) := fun a1 b1 i1 => hP.rg a1 b1 i1
        have aS5_o : S5 o 0 (-1) = 1 := by rw [qS5, if_neg (by omega)]; exact aS4_o
        have aS5_x : S5 x 0 (-1) = 1 := by rw [qS5, if_neg (by omega)]; exact aS4_x
        refine lv_iinc (v := i32 (r + 1)) (lv' := [(4, .int (i32 (r + 1))), (0, .ref (ad o 0)), (1, .ref (ad x 0)), (2, .int (i32 (q))), (3, .int (i32 (u)))]) hx hb dX2_copyColumn_88 hl (k := 0) rfl (i32_add _ _) (by decide) rfl (fun ls hl => ?_)
        refine lv_goto (tgt := 19) hx hb dX2_copyColumn_91 (by decide) ?_
        exact ih19 (r + 1) S5 _ _ _ (by omega) (by exact cc_s (S1 := S3) (S2 := S4) zr.1 huu zS (fun a b i => by rw [qS3 a b i, zx]) (fun a b i => by rw [qS4 a b i, zx]) (fun a b i => by rw [qS5 a b i, zx])) (by omega) hP hS (lv_sub hl [0, 1, 2, 3, 4] rfl)
  exact L19 ((S o 0 1 - 0) + 1).toNat 0 S1 _ _ _ (by omega) (by exact cc_0 qS1) (by omega) hP hS (lv_sub hl [0, 1, 2, 3, 4] rfl)

set_option maxHeartbeats 4000000 in
set_option maxRecDepth 100000 in
theorem c_X2_append (l : Launch) (g : GT) (base : Nat) (ad : Nat → Nat → Nat) (S : St) (o : Nat) (x : Nat) (q : Int) (hal : S o 0 (-1) = 1) (hkd : kd o = 5) (halx : S x 0 (-1) = 1) (hkd2 : kd x = 5) (hxo : x ≠ o) (hwd : 0 ≤ S o 0 0 ∧ S o 0 0 ≤ 24) (hht : 0 ≤ S o 0 1 ∧ S o 0 1 ≤ 10) (hxw : 0 ≤ S x 0 0 ∧ S x 0 0 ≤ 24) (hqq : 0 ≤ q ∧ q ≤ S x 0 0 ∧ S o 0 0 + (S x 0 0 - q) ≤ 24) : Met l yX2_append [Cond.code yX2_append cX2_append 4 (none : Option FieldType)] ({ frames := 3, cells := 0, slots := 0, locals := 67 }) (va_Pc [.ref (ad o 0), .ref (ad x 0), .int (i32 (q))] (PK g base ad S)) (gQ g base (an (none) ad (apF S o x q (S o 0 0) (S o 0 1) (S x 0 0 - q)))) 0 0 (fun q => base ≤ q) := by
  refine mk_m (own := RX2) (lv0 := [(0, .ref (ad o 0)), (1, .ref (ad x 0)), (2, .int (i32 (q)))]) (by decide) rfl (Nat.le_of_ble_eq_true rfl) rfl ?_
  intro p e s m below meth cz av Qm hx hb hr hml hown hlocks hK hZ hP hQm ls hl
  have hS : va_S (fun q => base ≤ q) s.heap s.heap [] := va_S.rf
  have rS : ∀ (a1 b1 : Nat) (i1 : Int), rng (S a1 b1 i1) := fun a1 b1 i1 => hP.rg a1 b1 i1
  refine lv_iload_n hx hb dX2_append_0 rfl (lv_at hl 2 rfl) ?_
  refine lv_istore_n (lv' := [(3, .int (i32 (q))), (0, .ref (ad o 0)), (1, .ref (ad x 0)), (2, .int (i32 (q)))]) hx hb dX2_append_1 rfl hl (by decide) rfl (fun ls hl => ?_)
  have L2 : ∀ (k : Nat) (c : Int) (Sa : St) (H : Heap) (locs : List Loc) (ls : Array Slot), (q ≤ c ∧ c ≤ S x 0 0) → (∀ (a1 b1 : Nat) (i1 : Int), Sa a1 b1 i1 = apF S o x q (S o 0 0) (S o 0 1) (c - q) a1 b1 i1) → S x 0 0 - c < (k : Int) → pic g base ad Sa H → va_S (fun q => base ≤ q) s.heap H locs → lv_has ls 4 [(3, .int (i32 (c))), (0, .ref (ad o 0)), (1, .ref (ad x 0)), (2, .int (i32 (q)))] → W p l e ({ frames := 3, cells := 0, slots := 0, locals := 67 } : Room) s m av below meth cz H locs 0 0 Qm (F0 m 2 ls []) := by
    intro k
    induction k with
    | zero => intro c Sa H locs ls zc zS hmu _ _ _; exact absurd hmu (by omega)
    | succ k ih2 =>
      intro c Sa H locs ls zc zS hmu hP hS hl
      have aSa_o : Sa o 0 (-1) = 1 := by rw [zS, apF_o (by decide) (by decide)]; exact hal
      have aSa_x : Sa x 0 (-1) = 1 := by rw [zS, apF_o (by decide) (by decide)]; exact halx
      have rSa : ∀ (a1 b1 : Nat) (i1 : Int), rng (Sa a1 b1 i1) := fun a1 b1 i1 => hP.rg a1 b1 i1
      have zx : ∀ (b : Nat) (i : Int), Sa x b i = S x b i := fun b i => by rw [zS, apF_x hxo]
      have y1 : Sa o 0 0 = S o 0 0 + (c - q) := by rw [zS, apF_0]
      have y2 : Sa o 0 1 = S o 0 1 := by rw [zS, apF_o (by decide) (by decide)]
      have y3 : Sa x 0 0 = S x 0 0 := zx 0 0
      refine lv_iload_n hx hb dX2_append_2 rfl (lv_at hl 0 rfl) ?_
      refine lv_aload_n hx hb dX2_append_3 rfl (lv_at hl 2 rfl) ?_
      refine p_get (k := 5) hx hb hown hK hP aSa_x hkd2 rfl rfl (lay_X2 hK) 0 460 (by decide) t_460 rfl rfl dX2_append_4 ?_
      refine q_icmp_ge (tgt := 71) hx hb ⟨by omega, by omega⟩ (hP.rg _ _ _) dX2_append_7 (by decide) (fun c_1 => ?_) (fun c_1 => ?_)
      · -- (Sa x 0 0) ≤ c
        subst hQm
        exact q_vret hx hb hr hlocks hP hS ⟨rfl, rfl, (by funext a1 b1 i1; rw [zS, show c = S x 0 0 from by omega])⟩ (by decide) (by decide) dX2_append_71
      · -- c < (Sa x 0 0)
        refine lv_aload_n hx hb dX2_append_10 rfl (lv_at hl 1 rfl) ?_
        refine p_get (k := 5) hx hb hown hK hP aSa_o hkd rfl rfl (lay_X2 hK) 0 460 (by decide) t_460 rfl rfl dX2_append_11 ?_
        refine lv_bipush (v := i32 (24)) hx hb dX2_append_14 (by decide) ?_
        refine q_icmp_ge (tgt := 71) hx hb (hP.rg _ _ _) ⟨by decide, by decide⟩ dX2_append_16 (by decide) (fun c_2 => ?_) (fun c_2 => ?_)
        · -- 24 ≤ (Sa o 0 0)
          subst hQm
          exact q_vret hx hb hr hlocks hP hS ⟨rfl, rfl, (by funext a1 b1 i1; rw [zS, show c = S x 0 0 from by omega])⟩ (by decide) (by decide) dX2_append_71
        · -- (Sa o 0 0) < 24
          refine lv_aload_n hx hb dX2_append_19 rfl (lv_at hl 1 rfl) ?_
          refine lv_aload_n hx hb dX2_append_20 rfl (lv_at hl 2 rfl) ?_
          refine lv_iload_n hx hb dX2_append_21 rfl (lv_at hl 0 rfl) ?_
          refine lv_aload_n hx hb dX2_append_22 rfl (lv_at hl 1 rfl) ?_
          refine p_get (k := 5) hx hb hown hK hP aSa_o hkd rfl rfl (lay_X2 hK) 0 460 (by decide) t_460 rfl rfl dX2_append_23 ?_
          refine q_callV (k := 5) hx hb hml hl.1 hown hK hZ hP hS aSa_o hkd rfl rfl (c_X2_copyColumn l g base ad Sa o x c (Sa o 0 0) aSa_o hkd aSa_x hkd2 (by omega) (by omega) (by omega) (by omega)) t_619 t_9 (q_callB hK 617 24 620 t_617 t_24 t_620 f_yX2_copyColumn ⟨by decide, by decide⟩) rfl rfl (Nat.le_of_ble_eq_true rfl) dX2_append_26 ⟨by decide, by decide⟩  (q_an (fun H locs hP hS => ?_))
          generalize eS3 : ccF Sa o x c (Sa o 0 0) (Sa o 0 1) = S3 at hP
          have rS3 : ∀ (a1 b1 : Nat) (i1 : Int), rng (S3 a1 b1 i1) := fun a1 b1 i1 => hP.rg a1 b1 i1
          have qS3 : ∀ (a1 b1 : Nat) (i1 : Int), S3 a1 b1 i1 = ccF Sa o x c (Sa o 0 0) (Sa o 0 1) a1 b1 i1 := fun a1 b1 i1 => by rw [← eS3]
          have aS3_o : S3 o 0 (-1) = 1 := by rw [qS3, ccF_o (by decide)]; exact aSa_o
          have aS3_x : S3 x 0 (-1) = 1 := by rw [qS3, ccF_o (by decide)]; exact aSa_x
          refine lv_aload_n hx hb dX2_append_29 rfl (lv_at hl 1 rfl) ?_
          refine lv_aload_n hx hb dX2_append_30 rfl (lv_at hl 1 rfl) ?_
          refine p_get (k := 5) hx hb hown hK hP aS3_o hkd rfl rfl (lay_X2 hK) 0 460 (by decide) t_460 rfl rfl dX2_append_31 ?_
          refine q_nm (show S3 o 0 0 = Sa o 0 0 from by rw [qS3, ccF_o (by decide)]) ?_
          refine lv_iload_n hx hb dX2_append_34 rfl (lv_at hl 0 rfl) ?_
          refine lv_iload_n hx hb dX2_append_35 rfl (lv_at hl 3 rfl) ?_
          have J52 : ∀ (H : Heap) (locs : List Loc), pic g base ad S3 H → va_S (fun q => base ≤ q) s.heap H locs → W p l e ({ frames := 3, cells := 0, slots := 0, locals := 67 } : Room) s m av below meth cz H locs 0 0 Qm (F0 m 52 ls (Value.int (i32 (b2 ((q < c) ∧ (S3 x 9 c ≠ 0)))) :: Value.int (i32 (Sa o 0 0)) :: Value.ref (ad o 0) :: [])) := by
            intro H locs hP hS
            refine q_callV (k := 5) hx hb hml hl.1 hown hK hZ hP hS aS3_o hkd rfl rfl (c_X2_setSewnAhead l g base ad S3 o (Sa o 0 0) ((q < c) ∧ (S3 x 9 c ≠ 0)) aS3_o hkd (by omega)) t_623 t_10 (q_callB hK 621 24 624 t_621 t_24 t_624 f_yX2_setSewnAhead ⟨by decide, by decide⟩) rfl rfl (Nat.le_of_ble_eq_true rfl) dX2_append_52 ⟨by decide, by decide⟩  (q_an (fun H locs hP hS => ?_))
            generalize eS4 : st S3 o 9 (Sa o 0 0) (b2 ((q < c) ∧ (S3 x 9 c ≠ 0))) = S4 at hP
            have rS4 : ∀ (a1 b1 : Nat) (i1 : Int), rng (S4 a1 b1 i1) := fun a1 b1 i1 => hP.rg a1 b1 i1
            have qS4 : ∀ (a1 b1 : Nat) (i1 : Int), S4 a1 b1 i1 = if a1 = o ∧ b1 = 9 ∧ i1 = Sa o 0 0 then b2 ((q < c) ∧ (S3 x 9 c ≠ 0)) else S3 a1 b1 i1 := fun a1 b1 i1 => by rw [← eS4]; exact st_at _ _ _ _ _ _ _ _
            have aS4_o : S4 o 0 (-1) = 1 := by rw [qS4, if_neg (by omega)]; exact aS3_o
            have aS4_x : S4 x 0 (-1) = 1 := by rw [qS4, if_neg (by omega)]; exact aS3_x
            refine lv_aload_n hx hb dX2_append_55 rfl (lv_at hl 1 rfl) ?_
            refine lv_dup hx hb dX2_append_56 rfl ?_
            refine p_get (k := 5) hx hb hown hK hP aS4_o hkd rfl rfl (lay_X2 hK) 0 460 (by decide) t_460 rfl rfl dX2_append_57 ?_
            refine q_nm (show S4 o 0 0 = Sa o 0 0 from by rw [qS4, if_neg (by omega), qS3, ccF_o (by decide)]) ?_
            refine lv_iconst (v := i32 (1)) hx hb dX2_append_60 rfl ?_
            refine q_iadd hx hb dX2_append_61 ?_
            refine p_put (k := 5) hx hb hown hK hP hS aS4_o hkd rfl rfl (lay_X2 hK) tyX2 tyX2_ok nmX2 0 460 (by decide) t_460 rfl rfl (by decide +kernel) ⟨by omega, by omega⟩ (Nat.le_of_ble_eq_true rfl) (set_5_0 _ _ _ _) dX2_append_62 (fun H locs hP hS => ?_)
            generalize eS5 : st S4 o 0 0 ((Sa o 0 0) + 1) = S5 at hP
            have qS5 : ∀ (a1 b1 : Nat) (i1 : Int), S5 a1 b1 i1 = if a1 = o ∧ b1 = 0 ∧ i1 = 0 then (Sa o 0 0) + 1 else S4 a1 b1 i1 := fun a1 b1 i1 => by rw [← eS5]; exact st_at _ _ _ _ _ _ _ _
            have rS5 : ∀ (a1 b1 : Nat) (i1 : Int), rng (S5 a1 b1 i1) := fun a1 b1 i1 => hP.rg a1 b1 i1
            have aS5_o : S5 o 0 (-1) = 1 := by rw [qS5, if_neg (by omega)]; exact aS4_o
            have aS5_x : S5 x 0 (-1) = 1 := by rw [qS5, if_neg (by omega)]; exact aS4_x
            refine lv_iinc (v := i32 (c + 1)) (lv' := [(3, .int (i32 (c + 1))), (0, .ref (ad o 0)), (1, .ref (ad x 0)), (2, .int (i32 (q)))]) hx hb dX2_append_65 hl (k := 0) rfl (i32_add _ _) (by decide) rfl (fun ls hl => ?_)
            refine lv_goto (tgt := 2) hx hb dX2_append_68 (by decide) ?_
            exact ih2 (c + 1) S5 _ _ _ (by omega) (by rw [show c + 1 - q = (c - q) + 1 from by omega]; have w1 : S3 x 9 c = S x 9 c := (by rw [qS3, ccF_x hxo, zx]); have w3 : q + (c - q) = c := (by omega); have w2 : b2 ((q < c) ∧ (S3 x 9 c ≠ 0)) = b2 (0 < c - q ∧ S x 9 (q + (c - q)) ≠ 0) := b2_c (by rw [w1, w3]; exact and_congr (by omega) Iff.rfl); exact ap_s (n := c - q) (S2 := S4) (by omega) (by omega) hxo zS (fun a b i => by rw [qS4 a b i, w2, qS3 a b i, y1, y2, w3]) (fun a b i => by rw [qS5 a b i, y1])) (by omega) hP hS (lv_sub hl [0, 1, 2, 3] rfl)
          refine q_icmp_le (tgt := 51) hx hb ⟨by omega, by omega⟩ ⟨by omega, by omega⟩ dX2_append_36 (by decide) (fun c_6 => ?_) (fun c_6 => ?_)
          · -- c ≤ q
            refine lv_iconst (v := i32 (0)) hx hb dX2_append_51 rfl ?_
            refine q_nm (b2_f (show ¬ ((q < c) ∧ (S3 x 9 c ≠ 0)) from by first | omega | (simp only [*]; done) | simp_all)).symm ?_
            exact J52 _ _ hP hS
          · -- q < c
            refine lv_aload_n hx hb dX2_append_39 rfl (lv_at hl 2 rfl) ?_
            refine lv_iload_n hx hb dX2_append_40 rfl (lv_at hl 0 rfl) ?_
            refine q_callV (k := 5) hx hb hml hl.1 hown hK hZ hP hS aS3_x hkd2 rfl rfl (c_X2_isSewnAhead l g base ad S3 x c aS3_x hkd2 (by omega)) t_305 t_2 (q_callB hK 303 24 307 t_303 t_24 t_307 f_yX2_isSewnAhead ⟨by decide, by decide⟩) rfl rfl (Nat.le_of_ble_eq_true rfl) dX2_append_41 ⟨by decide, by decide⟩  (q_an (fun H locs hP hS => ?_))
            refine q_if_eqb (tgt := 51) hx hb dX2_append_44 (by decide) (fun c_7 => ?_) (fun c_7 => ?_)
            · -- ¬ (S3 x 9 c ≠ 0)
              refine lv_iconst (v := i32 (0)) hx hb dX2_append_51 rfl ?_
              refine q_nm (b2_f (show ¬ ((q < c) ∧ (S3 x 9 c ≠ 0)) from by first | omega | (simp only [*]; done) | simp_all)).symm ?_
              exact J52 _ _ hP hS
            · -- S3 x 9 c ≠ 0
              refine lv_iconst (v := i32 (1)) hx hb dX2_append_47 rfl ?_
              refine lv_goto (tgt := 52) hx hb dX2_append_48 (by decide) ?_
              refine q_nm (b2_t (show (q < c) ∧ (S3 x 9 c ≠ 0) from by first | omega | (simp only [*]; done) | simp_all)).symm ?_
              exact J52 _ _ hP hS
  exact L2 ((S x 0 0 - q) + 1).toNat q S _ _ _ (by omega) (by rw [show q - q = 0 from by omega]; exact ap_0) (by omega) hP hS (lv_sub hl [0, 1, 2, 3] rfl)

set_option maxHeartbeats 4000000 in
set_option maxRecDepth 100000 in
theorem c_X2_drawFrom (l : Launch) (g : GT) (base : Nat) (ad : Nat → Nat → Nat) (S : St) (o : Nat) (x : Nat) (mir : Prop) (n : Int) (hal : S o 0 (-1) = 1) (hkd : kd o = 5) (halx : S x 0 (-1) = 1) (hkd2 : kd x = 4) (hxo : x ≠ o) (hht : 0 ≤ S o 0 1 ∧ S o 0 1 ≤ 10) (hxw : 0 ≤ S x 0 0 ∧ S x 0 0 ≤ 12) (hnn : 0 ≤ n ∧ n ≤ 20) : Met l yX2_drawFrom [Cond.code yX2_drawFrom cX2_drawFrom 6 (none : Option FieldType)] ({ frames := 2, cells := 0, slots := 0, locals := 46 }) (va_Pc [.ref (ad o 0), .ref (ad x 0), .int (i32 (b2 (mir))), .int (i32 (n))] (PK g base ad S)) (gQ g base (an (none) ad (dfF S o x mir n (S o 0 1) (S x 0 0) 0 (S x 0 0)))) 0 0 (fun q => base ≤ q) := by
  refine mk_m (own := RX2) (lv0 := [(0, .ref (ad o 0)), (1, .ref (ad x 0)), (2, .int (i32 (b2 (mir)))), (3, .int (i32 (n)))]) (by decide) rfl (Nat.le_of_ble_eq_true rfl) rfl ?_
  intro p e s m below meth cz av Qm hx hb hr hml hown hlocks hK hZ hP hQm ls hl
  have hS : va_S (fun q => base ≤ q) s.heap s.heap [] := va_S.rf
  have rS : ∀ (a1 b1 : Nat) (i1 : Int), rng (S a1 b1 i1) := fun a1 b1 i1 => hP.rg a1 b1 i1
  refine lv_aload_n hx hb dX2_drawFrom_0 rfl (lv_at hl 0 rfl) ?_
  refine lv_aload_n hx hb dX2_drawFrom_1 rfl (lv_at hl 1 rfl) ?_
  refine q_callV (k := 4) hx hb hml hl.1 hown hK hZ hP hS halx hkd2 rfl rfl (c_X0_width l g base ad S x halx hkd2) t_413 t_414 (q_callB hK 492 22 415 t_492 t_22 t_415 f_yX0_width ⟨by decide, by decide⟩) rfl rfl (Nat.le_of_ble_eq_true rfl) dX2_drawFrom_2 ⟨by decide, by decide⟩  (q_an (fun H locs hP hS => ?_))
  refine p_put (k := 5) hx hb hown hK hP hS hal hkd rfl rfl (lay_X2 hK) tyX2 tyX2_ok nmX2 0 460 (by decide) t_460 rfl rfl (by decide +kernel) (hP.rg _ _ _) (Nat.le_of_ble_eq_true rfl) (set_5_0 _ _ _ _) dX2_drawFrom_5 (fun H locs hP hS => ?_)
  generalize eS1 : st S o 0 0 (S x 0 0) = S1 at hP
  have qS1 : ∀ (a1 b1 : Nat) (i1 : Int), S1 a1 b1 i1 = if a1 = o ∧ b1 = 0 ∧ i1 = 0 then S x 0 0 else S a1 b1 i1 := fun a1 b1 i1 => by rw [← eS1]; exact st_at _ _ _ _ _ _ _ _
  have rS1 : ∀ (a1 b1 : Nat) (i1 : Int), rng (S1 a1 b1 i1) := fun a1 b1 i1 => hP.rg a1 b1 i1
  have aS1_o : S1 o 0 (-1) = 1 := by rw [qS1, if_neg (by omega)]; exact hal
  have aS1_x : S1 x 0 (-1) = 1 := by rw [qS1, if_neg (by omega)]; exact halx
  refine lv_iconst (v := i32 (0)) hx hb dX2_drawFrom_8 rfl ?_
  refine lv_istore (lv' := [(4, .int (i32 (0))), (0, .ref (ad o 0)), (1, .ref (ad x 0)), (2, .int (i32 (b2 (mir)))), (3, .int (i32 (n)))]) hx hb dX2_drawFrom_9 hl (by decide) rfl (fun ls hl => ?_)
  have L11 : ∀ (k : Nat) (q : Int) (Sa : St) (H : Heap) (locs : List Loc) (ls : Array Slot), (0 ≤ q ∧ q ≤ S x 0 0) → (∀ (a1 b1 : Nat) (i1 : Int), Sa a1 b1 i1 = dfF S o x mir n (S o 0 1) q 0 q a1 b1 i1) → S x 0 0 - q < (k : Int) → pic g base ad Sa H → va_S (fun q => base ≤ q) s.heap H locs → lv_has ls 6 [(4, .int (i32 (q))), (0, .ref (ad o 0)), (1, .ref (ad x 0)), (2, .int (i32 (b2 (mir)))), (3, .int (i32 (n)))] → W p l e ({ frames := 2, cells := 0, slots := 0, locals := 46 } : Room) s m av below meth cz H locs 0 0 Qm (F0 m 11 ls []) := by
    intro k
    induction k with
    | zero => intro q Sa H locs ls zq zS hmu _ _ _; exact absurd hmu (by omega)
    | succ k ih11 =>
      intro q Sa H locs ls zq zS hmu hP hS hl
      have aSa_o : Sa o 0 (-1) = 1 := by rw [zS, dfF_o (by decide) (by decide)]; exact hal
      have aSa_x : Sa x 0 (-1) = 1 := by rw [zS, dfF_o (by decide) (by decide)]; exact halx
      have rSa : ∀ (a1 b1 : Nat) (i1 : Int), rng (Sa a1 b1 i1) := fun a1 b1 i1 => hP.rg a1 b1 i1
      have y1 : Sa o 0 0 = S x 0 0 := by rw [zS, dfF_0]
      refine lv_iload hx hb dX2_drawFrom_11 (lv_at hl 0 rfl) ?_
      refine lv_aload_n hx hb dX2_drawFrom_13 rfl (lv_at hl 1 rfl) ?_
      refine p_get (k := 5) hx hb hown hK hP aSa_o hkd rfl rfl (lay_X2 hK) 0 460 (by decide) t_460 rfl rfl dX2_drawFrom_14 ?_
      refine q_icmp_ge (tgt := 97) hx hb ⟨by omega, by omega⟩ (hP.rg _ _ _) dX2_drawFrom_17 (by decide) (fun c_2 => ?_) (fun c_2 => ?_)
      · -- (Sa o 0 0) ≤ q
        subst hQm
        exact q_vret hx hb hr hlocks hP hS ⟨rfl, rfl, (by funext a1 b1 i1; rw [zS, show q = S x 0 0 from by omega])⟩ (by decide) (by decide) dX2_drawFrom_97
      · -- q < (Sa o 0 0)
        refine lv_aload_n hx hb dX2_drawFrom_20 rfl (lv_at hl 1 rfl) ?_
        refine p_get (k := 5) hx hb hown hK hP aSa_o hkd rfl rfl (lay_X2 hK) 7 467 (by decide) t_467 rfl rfl dX2_drawFrom_21 ?_
        refine lv_iload hx hb dX2_drawFrom_24 (lv_at hl 0 rfl) ?_
        refine lv_iload_n hx hb dX2_drawFrom_26 rfl (lv_at hl 4 rfl) ?_
        refine lv_iload hx hb dX2_drawFrom_27 (lv_at hl 0 rfl) ?_
        refine q_callS hx hb hml hl.1 hown hK hZ hP hS (c_X2_originOf l g base ad Sa n q ) t_494 (q_callB hK 493 24 495 t_493 t_24 t_495 f_yX2_originOf ⟨by decide, by decide⟩) rfl rfl (Nat.le_of_ble_eq_true rfl) dX2_drawFrom_29 ⟨by decide, by decide⟩  (q_an (fun H locs hP hS => ?_))
        refine q_callN hx hb hml hl.1 hown hK hZ hP hS (c_X3_setAt l g base ad Sa o 8 5 24 q (n * 24 + q) aSa_o hkd rfl (by omega) (by omega) ⟨by omega, by omega⟩ ⟨by omega, by omega⟩) t_108 t_15 t_110 t_109 f_yX3_setAt ⟨by decide, by decide⟩ rfl rfl (Nat.le_of_ble_eq_true rfl) dX2_drawFrom_32 ⟨by decide, by decide⟩ (q_an (fun H locs hP hS => ?_))
        rw [sA_in (by omega) (by omega)] at hP
        generalize eS3 : st Sa o 8 q (n * 24 + q) = S3 at hP
        have qS3 : ∀ (a1 b1 : Nat) (i1 : Int), S3 a1 b1 i1 = if a1 = o ∧ b1 = 8 ∧ i1 = q then n * 24 + q else Sa a1 b1 i1 := fun a1 b1 i1 => by rw [← eS3]; exact st_at _ _ _ _ _ _ _ _
        have rS3 : ∀ (a1 b1 : Nat) (i1 : Int), rng (S3 a1 b1 i1) := fun a1 b1 i1 => hP.rg a1 b1 i1
        have aS3_o : S3 o 0 (-1) = 1 := by rw [qS3, if_neg (by omega)]; exact aSa_o
        have aS3_x : S3 x 0 (-1) = 1 := by rw [qS3, if_neg (by omega)]; exact aSa_x
        refine lv_iconst (v := i32 (0)) hx hb dX2_drawFrom_35 rfl ?_
        refine lv_istore (lv' := [(5, .int (i32 (0))), (4, .int (i32 (q))), (0, .ref (ad o 0)), (1, .ref (ad x 0)), (2, .int (i32 (b2 (mir)))), (3, .int (i32 (n)))]) hx hb dX2_drawFrom_36 hl (by decide) rfl (fun ls hl => ?_)
        have L38 : ∀ (k : Nat) (r : Int) (Sb : St) (H : Heap) (locs : List Loc) (ls : Array Slot), (0 ≤ r ∧ r ≤ S o 0 1) → (∀ (a1 b1 : Nat) (i1 : Int), Sb a1 b1 i1 = dfF S o x mir n (S o 0 1) q r (q + 1) a1 b1 i1) → S o 0 1 - r < (k : Int) → pic g base ad Sb H → va_S (fun q => base ≤ q) s.heap H locs → lv_has ls 6 [(5, .int (i32 (r))), (4, .int (i32 (q))), (0, .ref (ad o 0)), (1, .ref (ad x 0)), (2, .int (i32 (b2 (mir)))), (3, .int (i32 (n)))] → W p l e ({ frames := 2, cells := 0, slots := 0, locals := 46 } : Room) s m av below meth cz H locs 0 0 Qm (F0 m 38 ls []) := by
          intro k
          induction k with
          | zero => intro r Sb H locs ls zr zT hmu _ _ _; exact absurd hmu (by omega)
          | succ k ih38 =>
            intro r Sb H locs ls zr zT hmu hP hS hl
            have aSb_o : Sb o 0 (-1) = 1 := by rw [zT, dfF_o (by decide) (by decide)]; exact hal
            have aSb_x : Sb x 0 (-1) = 1 := by rw [zT, dfF_o (by decide) (by decide)]; exact halx
            have rSb : ∀ (a1 b1 : Nat) (i1 : Int), rng (Sb a1 b1 i1) := fun a1 b1 i1 => hP.rg a1 b1 i1
            have y2 : Sb o 0 1 = S o 0 1 := by rw [zT, dfF_o (by decide) (by decide)]
            have y3 : Sb o 0 0 = S x 0 0 := by rw [zT, dfF_0]
            have zx : ∀ (b : Nat) (i : Int), Sb x b i = S x b i := fun b i => by rw [zT, dfF_x hxo]
            have zd : ∀ (r c : Int), dcF Sb x r c = dcF S x r c := fun r c => by unfold dcF; rw [zx, zx, zx]
            refine lv_iload hx hb dX2_drawFrom_38 (lv_at hl 0 rfl) ?_
            refine lv_aload_n hx hb dX2_drawFrom_40 rfl (lv_at hl 2 rfl) ?_
            refine p_get (k := 5) hx hb hown hK hP aSb_o hkd rfl rfl (lay_X2 hK) 1 461 (by decide) t_461 rfl rfl dX2_drawFrom_41 ?_
            refine q_icmp_ge (tgt := 91) hx hb ⟨by omega, by omega⟩ (hP.rg _ _ _) dX2_drawFrom_44 (by decide) (fun c_4 => ?_) (fun c_4 => ?_)
            · -- (Sb o 0 1) ≤ r
              refine lv_iinc (v := i32 (q + 1)) (lv' := [(4, .int (i32 (q + 1))), (5, .int (i32 (r))), (0, .ref (ad o 0)), (1, .ref (ad x 0)), (2, .int (i32 (b2 (mir)))), (3, .int (i32 (n)))]) hx hb dX2_drawFrom_91 hl (k := 1) rfl (i32_add _ _) (by decide) rfl (fun ls hl => ?_)
              refine lv_goto (tgt := 11) hx hb dX2_drawFrom_94 (by decide) ?_
              exact ih11 (q + 1) Sb _ _ _ (by omega) (by exact df_n (by omega) zT) (by omega) hP hS (lv_sub hl [0, 2, 3, 4, 5] rfl)
            · -- r < (Sb o 0 1)
              have w1 : Sb x 0 0 = S x 0 0 := zx 0 0
              refine lv_aload_n hx hb dX2_drawFrom_47 rfl (lv_at hl 2 rfl) ?_
              refine p_get (k := 5) hx hb hown hK hP aSb_o hkd rfl rfl (lay_X2 hK) 4 464 (by decide) t_464 rfl rfl dX2_drawFrom_48 ?_
              refine lv_iload hx hb dX2_drawFrom_51 (lv_at hl 0 rfl) ?_
              refine lv_iload hx hb dX2_drawFrom_53 (lv_at hl 1 rfl) ?_
              refine q_callS hx hb hml hl.1 hown hK hZ hP hS (c_X2_placeOf l g base ad Sb r q ) t_103 (q_callB hK 102 24 104 t_102 t_24 t_104 f_yX2_placeOf ⟨by decide, by decide⟩) rfl rfl (Nat.le_of_ble_eq_true rfl) dX2_drawFrom_55 ⟨by decide, by decide⟩  (q_an (fun H locs hP hS => ?_))
              refine lv_aload_n hx hb dX2_drawFrom_58 rfl (lv_at hl 3 rfl) ?_
              refine lv_iload hx hb dX2_drawFrom_59 (lv_at hl 0 rfl) ?_
              refine lv_iload hx hb dX2_drawFrom_61 (lv_at hl 1 rfl) ?_
              refine lv_iload_n hx hb dX2_drawFrom_63 rfl (lv_at hl 4 rfl) ?_
              refine q_callV (k := 4) hx hb hml hl.1 hown hK hZ hP hS aSb_x hkd2 rfl rfl (c_X0_colourAt l g base ad Sb x r q mir aSb_x hkd2 (by omega) (by omega) (by omega)) t_497 t_498 (q_callB hK 496 22 499 t_496 t_22 t_499 f_yX0_colourAt ⟨by decide, by decide⟩) rfl rfl (Nat.le_of_ble_eq_true rfl) dX2_drawFrom_64 ⟨by decide, by decide⟩  (q_an (fun H locs hP hS => ?_))
              refine q_callN hx hb hml hl.1 hown hK hZ hP hS (c_X3_setAt l g base ad Sb o 5 5 240 (r * 24 + q) (dcF Sb x r (cif mir (Sb x 0 0 - 1 - q) q)) aSb_o hkd rfl (by omega) (by omega) ⟨by omega, by omega⟩ (dcF_r rSb _ _ _)) t_108 t_15 t_110 t_109 f_yX3_setAt ⟨by decide, by decide⟩ rfl rfl (Nat.le_of_ble_eq_true rfl) dX2_drawFrom_67 ⟨by decide, by decide⟩ (q_an (fun H locs hP hS => ?_))
              rw [sA_in (by omega) (by omega)] at hP
              generalize eS5 : st Sb o 5 (r * 24 + q) (dcF Sb x r (cif mir (Sb x 0 0 - 1 - q) q)) = S5 at hP
              have qS5 : ∀ (a1 b1 : Nat) (i1 : Int), S5 a1 b1 i1 = if a1 = o ∧ b1 = 5 ∧ i1 = r * 24 + q then dcF Sb x r (cif mir (Sb x 0 0 - 1 - q) q) else Sb a1 b1 i1 := fun a1 b1 i1 => by rw [← eS5]; exact st_at _ _ _ _ _ _ _ _
              have rS5 : ∀ (a1 b1 : Nat) (i1 : Int), rng (S5 a1 b1 i1) := fun a1 b1 i1 => hP.rg a1 b1 i1
              have aS5_o : S5 o 0 (-1) = 1 := by rw [qS5, if_neg (by omega)]; exact aSb_o
              have aS5_x : S5 x 0 (-1) = 1 := by rw [qS5, if_neg (by omega)]; exact aSb_x
              refine lv_aload_n hx hb dX2_drawFrom_70 rfl (lv_at hl 2 rfl) ?_
              refine p_get (k := 5) hx hb hown hK hP aS5_o hkd rfl rfl (lay_X2 hK) 5 465 (by decide) t_465 rfl rfl dX2_drawFrom_71 ?_
              refine lv_iload hx hb dX2_drawFrom_74 (lv_at hl 0 rfl) ?_
              refine lv_iload hx hb dX2_drawFrom_76 (lv_at hl 1 rfl) ?_
              refine q_callS hx hb hml hl.1 hown hK hZ hP hS (c_X2_placeOf l g base ad S5 r q ) t_103 (q_callB hK 102 24 104 t_102 t_24 t_104 f_yX2_placeOf ⟨by decide, by decide⟩) rfl rfl (Nat.le_of_ble_eq_true rfl) dX2_drawFrom_78 ⟨by decide, by decide⟩  (q_an (fun H locs hP hS => ?_))
              refine lv_iconst (v := i32 (-1)) hx hb dX2_drawFrom_81 rfl ?_
              refine q_callN hx hb hml hl.1 hown hK hZ hP hS (c_X3_setAt l g base ad S5 o 6 5 240 (r * 24 + q) (-1) aS5_o hkd rfl (by omega) (by omega) ⟨by omega, by omega⟩ ⟨by decide, by decide⟩) t_108 t_15 t_110 t_109 f_yX3_setAt ⟨by decide, by decide⟩ rfl rfl (Nat.le_of_ble_eq_true rfl) dX2_drawFrom_82 ⟨by decide, by decide⟩ (q_an (fun H locs hP hS => ?_))
              rw [sA_in (by omega) (by omega)] at hP
              generalize eS6 : st S5 o 6 (r * 24 + q) (-1) = S6 at hP
              have qS6 : ∀ (a1 b1 : Nat) (i1 : Int), S6 a1 b1 i1 = if a1 = o ∧ b1 = 6 ∧ i1 = r * 24 + q then -1 else S5 a1 b1 i1 := fun a1 b1 i1 => by rw [← eS6]; exact st_at _ _ _ _ _ _ _ _
              have rS6 : ∀ (a1 b1 : Nat) (i1 : Int), rng (S6 a1 b1 i1) := fun a1 b1 i1 => hP.rg a1 b1 i1
              have aS6_o : S6 o 0 (-1) = 1 := by rw [qS6, if_neg (by omega)]; exact aS5_o
              have aS6_x : S6 x 0 (-1) = 1 := by rw [qS6, if_neg (by omega)]; exact aS5_x
              refine lv_iinc (v := i32 (r + 1)) (lv' := [(5, .int (i32 (r + 1))), (4, .int (i32 (q))), (0, .ref (ad o 0)), (1, .ref (ad x 0)), (2, .int (i32 (b2 (mir)))), (3, .int (i32 (n)))]) hx hb dX2_drawFrom_85 hl (k := 0) rfl (i32_add _ _) (by decide) rfl (fun ls hl => ?_)
              refine lv_goto (tgt := 38) hx hb dX2_drawFrom_88 (by decide) ?_
              exact ih38 (r + 1) S6 _ _ _ (by omega) (by exact df_s (S1 := S5) (by omega) (by omega) zT (fun a b i => by rw [qS5 a b i, zd, w1]) (fun a b i => qS6 a b i)) (by omega) hP hS (lv_sub hl [0, 1, 2, 3, 4, 5] rfl)
        exact L38 ((S o 0 1 - 0) + 1).toNat 0 S3 _ _ _ (by omega) (by exact df_8 zq.1 zS qS3) (by omega) hP hS (lv_sub hl [0, 1, 2, 3, 4, 5] rfl)
  exact L11 ((S x 0 0 - 0) + 1).toNat 0 S1 _ _ _ (by omega) (by exact df_0 qS1) (by omega) hP hS (lv_sub hl [0, 1, 2, 3, 4] rfl)
