set_option maxHeartbeats 4000000 in
set_option maxRecDepth 100000 in
theorem c_X4_type (l : Launch) (g : GT) (base : Nat) (ad : Nat → Nat → Nat) (S : St) (z : Int) (hw : wM S) (hrn : rng z) : Met l yX4_type [Cond.code yX4_type cX4_type 2 (some FieldType.int)] ({ frames := 1, cells := 0, slots := 0, locals := 23 }) (va_Pc [.ref (ad 0 0), .int (i32 (z))] (PK g base ad S)) (gQ g base (mP ad ((sg z) ≠ (-1)) ((S 0 0 0) < 12) (True) S (some (.int (i32 ((S 0 0 0) + 1)))) (fun Z => Z = st (st (st S 0 0 27 (thr ((sg z) ≠ (-1)) ((S 0 0 0) < 12) (True))) 0 2 (S 0 0 0) (sg z)) 0 0 0 ((S 0 0 0) + 1)))) 0 0 (fun q => base ≤ q) := by
  refine mk_m (own := RX4) (lv0 := [(0, .ref (ad 0 0)), (1, .int (i32 (z)))]) (by decide) rfl (Nat.le_of_ble_eq_true rfl) rfl ?_
  intro p e s m below meth cz av Qm hx hb hr hml hown hlocks hK hZ hP hQm ls hl
  have hS : va_S (fun q => base ≤ q) s.heap s.heap [] := va_S.rf
  have rS : ∀ (a1 b1 : Nat) (i1 : Int), rng (S a1 b1 i1) := fun a1 b1 i1 => hP.rg a1 b1 i1
  obtain ⟨hz1, hz2⟩ := id hrn
  obtain ⟨hl1, hl2⟩ := hw.le
  refine lv_aload_n hx hb dX4_type_0 rfl (lv_at hl 0 rfl) ?_
  refine lv_iload_n hx hb dX4_type_1 rfl (lv_at hl 1 rfl) ?_
  refine q_callS hx hb hml hl.1 hown hK hZ hP hS (c_X4_numberOf l g base ad S z hrn) t_792 (q_callB hK 791 36 793 t_791 t_36 t_793 f_yX4_numberOf ⟨by decide, by decide⟩) rfl rfl (Nat.le_of_ble_eq_true rfl) dX4_type_2 ⟨by decide, by decide⟩  (q_an (fun H locs hP hS => ?_))
  refine lv_iconst (v := i32 (-1)) hx hb dX4_type_5 rfl ?_
  have J14 : ∀ (H : Heap) (locs : List Loc), pic g base ad S H → va_S (fun q => base ≤ q) s.heap H locs → W p l e ({ frames := 1, cells := 0, slots := 0, locals := 23 } : Room) s m av below meth cz H locs 0 0 Qm (F0 m 14 ls (Value.int (i32 (b2 (((sg z) ≠ (-1))))) :: Value.ref (ad 0 0) :: [])) := by
    intro H locs hP hS
    refine lv_aload_n hx hb dX4_type_14 rfl (lv_at hl 0 rfl) ?_
    refine p_get (k := 0) hx hb hown hK hP hw.al rfl rfl rfl (lay_X4 hK) 0 698 (by decide) t_698 rfl rfl dX4_type_15 ?_
    refine lv_bipush (v := i32 (12)) hx hb dX4_type_18 (by decide) ?_
    have J28 : ∀ (H : Heap) (locs : List Loc), pic g base ad S H → va_S (fun q => base ≤ q) s.heap H locs → W p l e ({ frames := 1, cells := 0, slots := 0, locals := 23 } : Room) s m av below meth cz H locs 0 0 Qm (F0 m 28 ls (Value.int (i32 (b2 (((S 0 0 0) < 12)))) :: Value.int (i32 (b2 (((sg z) ≠ (-1))))) :: Value.ref (ad 0 0) :: [])) := by
      intro H locs hP hS
      refine lv_iconst (v := i32 (1)) hx hb dX4_type_28 rfl ?_
      refine W.eq (g2 := F0 m 29 ls (Value.int (i32 (b2 (True))) :: Value.int (i32 (b2 (((S 0 0 0) < 12)))) :: Value.int (i32 (b2 (((sg z) ≠ (-1))))) :: Value.ref (ad 0 0) :: [])) (by simp only [b2_t trivial, b2_f not_false] <;> rfl) ?_
      refine q_callV (k := 0) hx hb hml hl.1 hown hK hZ hP hS hw.al rfl rfl rfl (c_X4_goes l g base ad S (((sg z) ≠ (-1))) (((S 0 0 0) < 12)) True hw.al) t_796 t_14 (q_callB hK 794 36 797 t_794 t_36 t_797 f_yX4_goes ⟨by decide, by decide⟩) rfl rfl (Nat.le_of_ble_eq_true rfl) dX4_type_29 ⟨by decide, by decide⟩  (q_an (fun H locs hP hS => ?_))
      generalize eS1 : st S 0 0 27 (thr (((sg z) ≠ (-1))) (((S 0 0 0) < 12)) True) = S1 at hP
      have rS1 : ∀ (a1 b1 : Nat) (i1 : Int), rng (S1 a1 b1 i1) := fun a1 b1 i1 => hP.rg a1 b1 i1
      have qS1 : ∀ (a1 b1 : Nat) (i1 : Int), S1 a1 b1 i1 = if a1 = 0 ∧ b1 = 0 ∧ i1 = 27 then thr (((sg z) ≠ (-1))) (((S 0 0 0) < 12)) True else S a1 b1 i1 := fun a1 b1 i1 => by rw [← eS1]; exact st_at _ _ _ _ _ _ _ _
      have aS1_0 : S1 0 0 (-1) = 1 := by rw [qS1, if_neg (by omega)]; exact hw.al
      have wS1 : wM S1 := wM.keep hw (fun r j h => by unfold wrow at h; rw [qS1, if_neg (by omega)])
      refine q_if_neb (tgt := 37) hx hb dX4_type_32 (by decide) (fun c_2 => ?_) (fun c_2 => ?_)
      · -- (((sg z) ≠ (-1))) ∧ (((S 0 0 0) < 12)) ∧ True
        refine lv_aload_n hx hb dX4_type_37 rfl (lv_at hl 0 rfl) ?_
        refine p_get (k := 0) hx hb hown hK hP aS1_0 rfl rfl rfl (lay_X4 hK) 1 699 (by decide) t_699 rfl rfl dX4_type_38 ?_
        refine lv_aload_n hx hb dX4_type_41 rfl (lv_at hl 0 rfl) ?_
        refine p_get (k := 0) hx hb hown hK hP aS1_0 rfl rfl rfl (lay_X4 hK) 0 698 (by decide) t_698 rfl rfl dX4_type_42 ?_
        refine q_nm (show S1 0 0 0 = S 0 0 0 from by rw [qS1, if_neg (by omega)]) ?_
        refine lv_iload_n hx hb dX4_type_45 rfl (lv_at hl 1 rfl) ?_
        refine q_callS hx hb hml hl.1 hown hK hZ hP hS (c_X4_numberOf l g base ad S1 z hrn) t_792 (q_callB hK 791 36 793 t_791 t_36 t_793 f_yX4_numberOf ⟨by decide, by decide⟩) rfl rfl (Nat.le_of_ble_eq_true rfl) dX4_type_46 ⟨by decide, by decide⟩  (q_an (fun H locs hP hS => ?_))
        refine p_iast (k := 0) (r := 2) (n := 12) hx hb hK hP hS aS1_0 rfl rfl (by decide) (by decide) (by omega) (by omega) (sg_rng z) dX4_type_49 (fun H locs hP hS => ?_)
        generalize eS3 : st S1 0 2 (S 0 0 0) (sg z) = S3 at hP
        have qS3 : ∀ (a1 b1 : Nat) (i1 : Int), S3 a1 b1 i1 = if a1 = 0 ∧ b1 = 2 ∧ i1 = S 0 0 0 then sg z else S1 a1 b1 i1 := fun a1 b1 i1 => by rw [← eS3]; exact st_at _ _ _ _ _ _ _ _
        have rS3 : ∀ (a1 b1 : Nat) (i1 : Int), rng (S3 a1 b1 i1) := fun a1 b1 i1 => hP.rg a1 b1 i1
        have aS3_0 : S3 0 0 (-1) = 1 := by rw [qS3, if_neg (by omega)]; exact aS1_0
        have wS3 : wM S3 := wM.keep wS1 (fun r j h => by unfold wrow at h; rw [qS3, if_neg (by omega)])
        refine lv_aload_n hx hb dX4_type_50 rfl (lv_at hl 0 rfl) ?_
        refine lv_dup hx hb dX4_type_51 rfl ?_
        refine p_get (k := 0) hx hb hown hK hP aS3_0 rfl rfl rfl (lay_X4 hK) 0 698 (by decide) t_698 rfl rfl dX4_type_52 ?_
        refine q_nm (show S3 0 0 0 = S 0 0 0 from by rw [qS3, if_neg (by omega), qS1, if_neg (by omega)]) ?_
        refine lv_iconst (v := i32 (1)) hx hb dX4_type_55 rfl ?_
        refine q_iadd hx hb dX4_type_56 ?_
        refine p_put (k := 0) hx hb hown hK hP hS aS3_0 rfl rfl rfl (lay_X4 hK) tyX4 tyX4_ok nmX4 0 698 (by decide) t_698 rfl rfl (by decide +kernel) ⟨by omega, by omega⟩ (Nat.le_of_ble_eq_true rfl) (set_0_0 _ _ _ _) dX4_type_57 (fun H locs hP hS => ?_)
        generalize eS4 : st S3 0 0 0 ((S 0 0 0) + 1) = S4 at hP
        have qS4 : ∀ (a1 b1 : Nat) (i1 : Int), S4 a1 b1 i1 = if a1 = 0 ∧ b1 = 0 ∧ i1 = 0 then (S 0 0 0) + 1 else S3 a1 b1 i1 := fun a1 b1 i1 => by rw [← eS4]; exact st_at _ _ _ _ _ _ _ _
        have rS4 : ∀ (a1 b1 : Nat) (i1 : Int), rng (S4 a1 b1 i1) := fun a1 b1 i1 => hP.rg a1 b1 i1
        have aS4_0 : S4 0 0 (-1) = 1 := by rw [qS4, if_neg (by omega)]; exact aS3_0
        refine lv_aload_n hx hb dX4_type_60 rfl (lv_at hl 0 rfl) ?_
        refine p_get (k := 0) hx hb hown hK hP aS4_0 rfl rfl rfl (lay_X4 hK) 0 698 (by decide) t_698 rfl rfl dX4_type_61 ?_
        refine q_nm (show S4 0 0 0 = (S 0 0 0) + 1 from by rw [qS4, if_pos ⟨rfl, rfl, rfl⟩]) ?_
        subst hQm
        exact q_iret hx hb hr hlocks hP hS (by subst eS4; subst eS3; subst eS1; exact ⟨rfl, Or.inr ⟨c_2, rfl, rfl⟩⟩) (by decide) (by decide) dX4_type_64
      · -- ¬ ((((sg z) ≠ (-1))) ∧ (((S 0 0 0) < 12)) ∧ True)
        refine lv_iconst (v := i32 (0)) hx hb dX4_type_35 rfl ?_
        subst hQm
        exact q_iret hx hb hr hlocks hP hS (by subst eS1; exact ⟨rfl, Or.inl ⟨c_2, rfl, rfl⟩⟩) (by decide) (by decide) dX4_type_36
    refine q_icmp_ge (tgt := 27) hx hb (hP.rg _ _ _) ⟨by decide, by decide⟩ dX4_type_20 (by decide) (fun c_5 => ?_) (fun c_5 => ?_)
    · -- 12 ≤ (S 0 0 0)
      refine lv_iconst (v := i32 (0)) hx hb dX4_type_27 rfl ?_
      refine q_nm (b2_f (show ¬ (((S 0 0 0) < 12)) from by first | omega | (simp only [*]; done) | simp_all)).symm ?_
      exact J28 _ _ hP hS
    · -- (S 0 0 0) < 12
      refine lv_iconst (v := i32 (1)) hx hb dX4_type_23 rfl ?_
      refine lv_goto (tgt := 28) hx hb dX4_type_24 (by decide) ?_
      refine q_nm (b2_t (show ((S 0 0 0) < 12) from by first | omega | (simp only [*]; done) | simp_all)).symm ?_
      exact J28 _ _ hP hS
  refine q_icmp_eq (tgt := 13) hx hb (sg_rng z) ⟨by decide, by decide⟩ dX4_type_6 (by decide) (fun c_6 => ?_) (fun c_6 => ?_)
  · -- (sg z) = (-1)
    refine lv_iconst (v := i32 (0)) hx hb dX4_type_13 rfl ?_
    refine q_nm (b2_f (show ¬ (((sg z) ≠ (-1))) from by first | omega | (simp only [*]; done) | simp_all)).symm ?_
    exact J14 _ _ hP hS
  · -- (sg z) ≠ (-1)
    refine lv_iconst (v := i32 (1)) hx hb dX4_type_9 rfl ?_
    refine lv_goto (tgt := 14) hx hb dX4_type_10 (by decide) ?_
    refine q_nm (b2_t (show ((sg z) ≠ (-1)) from by first | omega | (simp only [*]; done) | simp_all)).symm ?_
    exact J14 _ _ hP hS

set_option maxHeartbeats 4000000 in
set_option maxRecDepth 100000 in
theorem c_X4_empty (l : Launch) (g : GT) (base : Nat) (ad : Nat → Nat → Nat) (S : St)  (hw : wM S) : Met l yX4_empty [Cond.code yX4_empty cX4_empty 2 (some FieldType.int)] ({ frames := 0, cells := 0, slots := 0, locals := 0 }) (va_Pc [.ref (ad 0 0)] (PK g base ad S)) (gQ g base (an (some (.int (i32 (S 0 0 0)))) ad (st (st S 0 0 27 0) 0 0 0 0))) 0 0 (fun q => base ≤ q) := by
  refine mk_m (own := RX4) (lv0 := [(0, .ref (ad 0 0))]) (by decide) rfl (Nat.le_of_ble_eq_true rfl) rfl ?_
  intro p e s m below meth cz av Qm hx hb hr hml hown hlocks hK hZ hP hQm ls hl
  have hS : va_S (fun q => base ≤ q) s.heap s.heap [] := va_S.rf
  have rS : ∀ (a1 b1 : Nat) (i1 : Int), rng (S a1 b1 i1) := fun a1 b1 i1 => hP.rg a1 b1 i1
  refine lv_aload_n hx hb dX4_empty_0 rfl (lv_at hl 0 rfl) ?_
  refine lv_iconst (v := i32 (0)) hx hb dX4_empty_1 rfl ?_
  refine p_put (k := 0) hx hb hown hK hP hS hw.al rfl rfl rfl (lay_X4 hK) tyX4 tyX4_ok nmX4 27 725 (by decide) t_725 rfl rfl (by decide +kernel) ⟨by decide, by decide⟩ (Nat.le_of_ble_eq_true rfl) (set_0_27 _ _ _ _) dX4_empty_2 (fun H locs hP hS => ?_)
  generalize eS1 : st S 0 0 27 0 = S1 at hP
  have qS1 : ∀ (a1 b1 : Nat) (i1 : Int), S1 a1 b1 i1 = if a1 = 0 ∧ b1 = 0 ∧ i1 = 27 then 0 else S a1 b1 i1 := fun a1 b1 i1 => by rw [← eS1]; exact st_at _ _ _ _ _ _ _ _
  have rS1 : ∀ (a1 b1 : Nat) (i1 : Int), rng (S1 a1 b1 i1) := fun a1 b1 i1 => hP.rg a1 b1 i1
  have aS1_0 : S1 0 0 (-1) = 1 := by rw [qS1, if_neg (by omega)]; exact hw.al
  have wS1 : wM S1 := wM.keep hw (fun r j h => by unfold wrow at h; rw [qS1, if_neg (by omega)])
  refine lv_aload_n hx hb dX4_empty_5 rfl (lv_at hl 0 rfl) ?_
  refine p_get (k := 0) hx hb hown hK hP aS1_0 rfl rfl rfl (lay_X4 hK) 0 698 (by decide) t_698 rfl rfl dX4_empty_6 ?_
  refine q_nm (show S1 0 0 0 = S 0 0 0 from by rw [qS1, if_neg (by omega)]) ?_
  refine lv_istore_n (lv' := [(1, .int (i32 (S 0 0 0))), (0, .ref (ad 0 0))]) hx hb dX4_empty_9 rfl hl (by decide) rfl (fun ls hl => ?_)
  refine lv_aload_n hx hb dX4_empty_10 rfl (lv_at hl 1 rfl) ?_
  refine lv_iconst (v := i32 (0)) hx hb dX4_empty_11 rfl ?_
  refine p_put (k := 0) hx hb hown hK hP hS aS1_0 rfl rfl rfl (lay_X4 hK) tyX4 tyX4_ok nmX4 0 698 (by decide) t_698 rfl rfl (by decide +kernel) ⟨by decide, by decide⟩ (Nat.le_of_ble_eq_true rfl) (set_0_0 _ _ _ _) dX4_empty_12 (fun H locs hP hS => ?_)
  generalize eS2 : st S1 0 0 0 0 = S2 at hP
  have qS2 : ∀ (a1 b1 : Nat) (i1 : Int), S2 a1 b1 i1 = if a1 = 0 ∧ b1 = 0 ∧ i1 = 0 then 0 else S1 a1 b1 i1 := fun a1 b1 i1 => by rw [← eS2]; exact st_at _ _ _ _ _ _ _ _
  have rS2 : ∀ (a1 b1 : Nat) (i1 : Int), rng (S2 a1 b1 i1) := fun a1 b1 i1 => hP.rg a1 b1 i1
  have aS2_0 : S2 0 0 (-1) = 1 := by rw [qS2, if_neg (by omega)]; exact aS1_0
  refine lv_iload_n hx hb dX4_empty_15 rfl (lv_at hl 0 rfl) ?_
  subst hQm
  exact q_iret hx hb hr hlocks hP hS ⟨rfl, rfl, (by rw [← eS2, ← eS1])⟩ (by decide) (by decide) dX4_empty_16

set_option maxHeartbeats 4000000 in
set_option maxRecDepth 100000 in
theorem c_X4_cartoon (l : Launch) (g : GT) (base : Nat) (ad : Nat → Nat → Nat) (S : St) (z : Int) (hw : wM S) (hrn : rng z) : Met l yX4_cartoon [Cond.code yX4_cartoon cX4_cartoon 2 (some FieldType.int)] ({ frames := 1, cells := 0, slots := 0, locals := 23 }) (va_Pc [.ref (ad 0 0), .int (i32 (z))] (PK g base ad S)) (gQ g base (mP ad (2 ≤ z ∧ z ≤ 12) ((S 0 0 2) < 5) (True) S (some (.int (i32 (((S 0 0 2) + 1) - 1)))) (fun Z => Z = st (st (st (st (st S 0 0 27 (thr (2 ≤ z ∧ z ≤ 12) ((S 0 0 2) < 5) (True))) 0 4 (S 0 0 2) z) 0 6 (S 0 0 2) 0) 0 7 (S 0 0 2) 1) 0 0 2 ((S 0 0 2) + 1)))) 0 0 (fun q => base ≤ q) := by
  refine mk_m (own := RX4) (lv0 := [(0, .ref (ad 0 0)), (1, .int (i32 (z)))]) (by decide) rfl (Nat.le_of_ble_eq_true rfl) rfl ?_
  intro p e s m below meth cz av Qm hx hb hr hml hown hlocks hK hZ hP hQm ls hl
  have hS : va_S (fun q => base ≤ q) s.heap s.heap [] := va_S.rf
  have rS : ∀ (a1 b1 : Nat) (i1 : Int), rng (S a1 b1 i1) := fun a1 b1 i1 => hP.rg a1 b1 i1
  obtain ⟨hz1, hz2⟩ := id hrn
  obtain ⟨hc1, hc2⟩ := hw.cs
  refine lv_aload_n hx hb dX4_cartoon_0 rfl (lv_at hl 0 rfl) ?_
  refine lv_iload_n hx hb dX4_cartoon_1 rfl (lv_at hl 1 rfl) ?_
  refine lv_iconst (v := i32 (2)) hx hb dX4_cartoon_2 rfl ?_
  refine lv_bipush (v := i32 (12)) hx hb dX4_cartoon_3 (by decide) ?_
  refine q_callS hx hb hml hl.1 hown hK hZ hP hS (c_X4_in l g base ad S z 2 12 hrn ⟨by decide, by decide⟩ ⟨by decide, by decide⟩) t_807 (q_callB hK 806 36 808 t_806 t_36 t_808 f_yX4_in ⟨by decide, by decide⟩) rfl rfl (Nat.le_of_ble_eq_true rfl) dX4_cartoon_5 ⟨by decide, by decide⟩  (q_an (fun H locs hP hS => ?_))
  refine lv_aload_n hx hb dX4_cartoon_8 rfl (lv_at hl 0 rfl) ?_
  refine p_get (k := 0) hx hb hown hK hP hw.al rfl rfl rfl (lay_X4 hK) 2 700 (by decide) t_700 rfl rfl dX4_cartoon_9 ?_
  refine lv_iconst (v := i32 (5)) hx hb dX4_cartoon_12 rfl ?_
  have J21 : ∀ (H : Heap) (locs : List Loc), pic g base ad S H → va_S (fun q => base ≤ q) s.heap H locs → W p l e ({ frames := 1, cells := 0, slots := 0, locals := 23 } : Room) s m av below meth cz H locs 0 0 Qm (F0 m 21 ls (Value.int (i32 (b2 (((S 0 0 2) < 5)))) :: Value.int (i32 (b2 (2 ≤ z ∧ z ≤ 12))) :: Value.ref (ad 0 0) :: [])) := by
    intro H locs hP hS
    refine lv_iconst (v := i32 (1)) hx hb dX4_cartoon_21 rfl ?_
    refine W.eq (g2 := F0 m 22 ls (Value.int (i32 (b2 (True))) :: Value.int (i32 (b2 (((S 0 0 2) < 5)))) :: Value.int (i32 (b2 (2 ≤ z ∧ z ≤ 12))) :: Value.ref (ad 0 0) :: [])) (by simp only [b2_t trivial, b2_f not_false] <;> rfl) ?_
    refine q_callV (k := 0) hx hb hml hl.1 hown hK hZ hP hS hw.al rfl rfl rfl (c_X4_goes l g base ad S (2 ≤ z ∧ z ≤ 12) (((S 0 0 2) < 5)) True hw.al) t_796 t_14 (q_callB hK 794 36 797 t_794 t_36 t_797 f_yX4_goes ⟨by decide, by decide⟩) rfl rfl (Nat.le_of_ble_eq_true rfl) dX4_cartoon_22 ⟨by decide, by decide⟩  (q_an (fun H locs hP hS => ?_))
    generalize eS1 : st S 0 0 27 (thr (2 ≤ z ∧ z ≤ 12) (((S 0 0 2) < 5)) True) = S1 at hP
    have rS1 : ∀ (a1 b1 : Nat) (i1 : Int), rng (S1 a1 b1 i1) := fun a1 b1 i1 => hP.rg a1 b1 i1
    have qS1 : ∀ (a1 b1 : Nat) (i1 : Int), S1 a1 b1 i1 = if a1 = 0 ∧ b1 = 0 ∧ i1 = 27 then thr (2 ≤ z ∧ z ≤ 12) (((S 0 0 2) < 5)) True else S a1 b1 i1 := fun a1 b1 i1 => by rw [← eS1]; exact st_at _ _ _ _ _ _ _ _
    have aS1_0 : S1 0 0 (-1) = 1 := by rw [qS1, if_neg (by omega)]; exact hw.al
    have wS1 : wM S1 := wM.keep hw (fun r j h => by unfold wrow at h; rw [qS1, if_neg (by omega)])
    refine q_if_neb (tgt := 30) hx hb dX4_cartoon_25 (by decide) (fun c_2 => ?_) (fun c_2 => ?_)
    · -- (2 ≤ z ∧ z ≤ 12) ∧ (((S 0 0 2) < 5)) ∧ True
      refine lv_aload_n hx hb dX4_cartoon_30 rfl (lv_at hl 0 rfl) ?_
      refine p_get (k := 0) hx hb hown hK hP aS1_0 rfl rfl rfl (lay_X4 hK) 3 701 (by decide) t_701 rfl rfl dX4_cartoon_31 ?_
      refine lv_aload_n hx hb dX4_cartoon_34 rfl (lv_at hl 0 rfl) ?_
      refine p_get (k := 0) hx hb hown hK hP aS1_0 rfl rfl rfl (lay_X4 hK) 2 700 (by decide) t_700 rfl rfl dX4_cartoon_35 ?_
      refine q_nm (show S1 0 0 2 = S 0 0 2 from by rw [qS1, if_neg (by omega)]) ?_
      refine lv_iload_n hx hb dX4_cartoon_38 rfl (lv_at hl 1 rfl) ?_
      refine p_iast (k := 0) (r := 4) (n := 5) hx hb hK hP hS aS1_0 rfl rfl (by decide) (by decide) (by omega) (by omega) hrn dX4_cartoon_39 (fun H locs hP hS => ?_)
      generalize eS3 : st S1 0 4 (S 0 0 2) z = S3 at hP
      have qS3 : ∀ (a1 b1 : Nat) (i1 : Int), S3 a1 b1 i1 = if a1 = 0 ∧ b1 = 4 ∧ i1 = S 0 0 2 then z else S1 a1 b1 i1 := fun a1 b1 i1 => by rw [← eS3]; exact st_at _ _ _ _ _ _ _ _
      have rS3 : ∀ (a1 b1 : Nat) (i1 : Int), rng (S3 a1 b1 i1) := fun a1 b1 i1 => hP.rg a1 b1 i1
      have aS3_0 : S3 0 0 (-1) = 1 := by rw [qS3, if_neg (by omega)]; exact aS1_0
      refine lv_aload_n hx hb dX4_cartoon_40 rfl (lv_at hl 0 rfl) ?_
      refine p_get (k := 0) hx hb hown hK hP aS3_0 rfl rfl rfl (lay_X4 hK) 5 703 (by decide) t_703 rfl rfl dX4_cartoon_41 ?_
      refine lv_aload_n hx hb dX4_cartoon_44 rfl (lv_at hl 0 rfl) ?_
      refine p_get (k := 0) hx hb hown hK hP aS3_0 rfl rfl rfl (lay_X4 hK) 2 700 (by decide) t_700 rfl rfl dX4_cartoon_45 ?_
      refine q_nm (show S3 0 0 2 = S 0 0 2 from by rw [qS3, if_neg (by omega), qS1, if_neg (by omega)]) ?_
      refine lv_iconst (v := i32 (0)) hx hb dX4_cartoon_48 rfl ?_
      refine p_iast (k := 0) (r := 6) (n := 5) hx hb hK hP hS aS3_0 rfl rfl (by decide) (by decide) (by omega) (by omega) ⟨by decide, by decide⟩ dX4_cartoon_49 (fun H locs hP hS => ?_)
      generalize eS4 : st S3 0 6 (S 0 0 2) 0 = S4 at hP
      have qS4 : ∀ (a1 b1 : Nat) (i1 : Int), S4 a1 b1 i1 = if a1 = 0 ∧ b1 = 6 ∧ i1 = S 0 0 2 then 0 else S3 a1 b1 i1 := fun a1 b1 i1 => by rw [← eS4]; exact st_at _ _ _ _ _ _ _ _
      have rS4 : ∀ (a1 b1 : Nat) (i1 : Int), rng (S4 a1 b1 i1) := fun a1 b1 i1 => hP.rg a1 b1 i1
      have aS4_0 : S4 0 0 (-1) = 1 := by rw [qS4, if_neg (by omega)]; exact aS3_0
      refine lv_aload_n hx hb dX4_cartoon_50 rfl (lv_at hl 0 rfl) ?_
      refine p_get (k := 0) hx hb hown hK hP aS4_0 rfl rfl rfl (lay_X4 hK) 6 704 (by decide) t_704 rfl rfl dX4_cartoon_51 ?_
      refine lv_aload_n hx hb dX4_cartoon_54 rfl (lv_at hl 0 rfl) ?_
      refine p_get (k := 0) hx hb hown hK hP aS4_0 rfl rfl rfl (lay_X4 hK) 2 700 (by decide) t_700 rfl rfl dX4_cartoon_55 ?_
      refine q_nm (show S4 0 0 2 = S 0 0 2 from by rw [qS4, if_neg (by omega), qS3, if_neg (by omega), qS1, if_neg (by omega)]) ?_
      refine lv_iconst (v := i32 (1)) hx hb dX4_cartoon_58 rfl ?_
      refine p_iast (k := 0) (r := 7) (n := 5) hx hb hK hP hS aS4_0 rfl rfl (by decide) (by decide) (by omega) (by omega) ⟨by decide, by decide⟩ dX4_cartoon_59 (fun H locs hP hS => ?_)
      generalize eS5 : st S4 0 7 (S 0 0 2) 1 = S5 at hP
      have qS5 : ∀ (a1 b1 : Nat) (i1 : Int), S5 a1 b1 i1 = if a1 = 0 ∧ b1 = 7 ∧ i1 = S 0 0 2 then 1 else S4 a1 b1 i1 := fun a1 b1 i1 => by rw [← eS5]; exact st_at _ _ _ _ _ _ _ _
      have rS5 : ∀ (a1 b1 : Nat) (i1 : Int), rng (S5 a1 b1 i1) := fun a1 b1 i1 => hP.rg a1 b1 i1
      have aS5_0 : S5 0 0 (-1) = 1 := by rw [qS5, if_neg (by omega)]; exact aS4_0
      refine lv_aload_n hx hb dX4_cartoon_60 rfl (lv_at hl 0 rfl) ?_
      refine lv_dup hx hb dX4_cartoon_61 rfl ?_
      refine p_get (k := 0) hx hb hown hK hP aS5_0 rfl rfl rfl (lay_X4 hK) 2 700 (by decide) t_700 rfl rfl dX4_cartoon_62 ?_
      refine q_nm (show S5 0 0 2 = S 0 0 2 from by rw [qS5, if_neg (by omega), qS4, if_neg (by omega), qS3, if_neg (by omega), qS1, if_neg (by omega)]) ?_
      refine lv_iconst (v := i32 (1)) hx hb dX4_cartoon_65 rfl ?_
      refine q_iadd hx hb dX4_cartoon_66 ?_
      refine p_put (k := 0) hx hb hown hK hP hS aS5_0 rfl rfl rfl (lay_X4 hK) tyX4 tyX4_ok nmX4 2 700 (by decide) t_700 rfl rfl (by decide +kernel) ⟨by omega, by omega⟩ (Nat.le_of_ble_eq_true rfl) (set_0_2 _ _ _ _) dX4_cartoon_67 (fun H locs hP hS => ?_)
      generalize eS6 : st S5 0 0 2 ((S 0 0 2) + 1) = S6 at hP
      have qS6 : ∀ (a1 b1 : Nat) (i1 : Int), S6 a1 b1 i1 = if a1 = 0 ∧ b1 = 0 ∧ i1 = 2 then (S 0 0 2) + 1 else S5 a1 b1 i1 := fun a1 b1 i1 => by rw [← eS6]; exact st_at _ _ _ _ _ _ _ _
      have rS6 : ∀ (a1 b1 : Nat) (i1 : Int), rng (S6 a1 b1 i1) := fun a1 b1 i1 => hP.rg a1 b1 i1
      have aS6_0 : S6 0 0 (-1) = 1 := by rw [qS6, if_neg (by omega)]; exact aS5_0
      refine lv_aload_n hx hb dX4_cartoon_70 rfl (lv_at hl 0 rfl) ?_
      refine p_get (k := 0) hx hb hown hK hP aS6_0 rfl rfl rfl (lay_X4 hK) 2 700 (by decide) t_700 rfl rfl dX4_cartoon_71 ?_
      refine q_nm (show S6 0 0 2 = (S 0 0 2) + 1 from by rw [qS6, if_pos ⟨rfl, rfl, rfl⟩]) ?_
      refine lv_iconst (v := i32 (1)) hx hb dX4_cartoon_74 rfl ?_
      refine q_isub hx hb dX4_cartoon_75 ?_
      subst hQm
      exact q_iret hx hb hr hlocks hP hS (by subst eS6; subst eS5; subst eS4; subst eS3; subst eS1; exact ⟨rfl, Or.inr ⟨c_2, rfl, rfl⟩⟩) (by decide) (by decide) dX4_cartoon_76
    · -- ¬ ((2 ≤ z ∧ z ≤ 12) ∧ (((S 0 0 2) < 5)) ∧ True)
      refine lv_iconst (v := i32 (0)) hx hb dX4_cartoon_28 rfl ?_
      subst hQm
      exact q_iret hx hb hr hlocks hP hS (by subst eS1; exact ⟨rfl, Or.inl ⟨c_2, rfl, rfl⟩⟩) (by decide) (by decide) dX4_cartoon_29
  refine q_icmp_ge (tgt := 20) hx hb (hP.rg _ _ _) ⟨by decide, by decide⟩ dX4_cartoon_13 (by decide) (fun c_7 => ?_) (fun c_7 => ?_)
  · -- 5 ≤ (S 0 0 2)
    refine lv_iconst (v := i32 (0)) hx hb dX4_cartoon_20 rfl ?_
    refine q_nm (b2_f (show ¬ (((S 0 0 2) < 5)) from by first | omega | (simp only [*]; done) | simp_all)).symm ?_
    exact J21 _ _ hP hS
  · -- (S 0 0 2) < 5
    refine lv_iconst (v := i32 (1)) hx hb dX4_cartoon_16 rfl ?_
    refine lv_goto (tgt := 21) hx hb dX4_cartoon_17 (by decide) ?_
    refine q_nm (b2_t (show ((S 0 0 2) < 5) from by first | omega | (simp only [*]; done) | simp_all)).symm ?_
    exact J21 _ _ hP hS

set_option maxHeartbeats 4000000 in
set_option maxRecDepth 100000 in
theorem c_X4_hatch (l : Launch) (g : GT) (base : Nat) (ad : Nat → Nat → Nat) (S : St) (i u v : Int) (hw : wM S) (hrn : rng i) (hrn2 : rng u) (hrn3 : rng v) : Met l yX4_hatch [Cond.code yX4_hatch cX4_hatch 4 (none : Option FieldType)] ({ frames := 2, cells := 0, slots := 0, locals := 43 }) (va_Pc [.ref (ad 0 0), .int (i32 (i)), .int (i32 (u)), .int (i32 (v))] (PK g base ad S)) (gQ g base (mPv ad ((isC S i) ∧ (0 ≤ u ∧ u ≤ 5) ∧ (0 ≤ v ∧ v ≤ 5)) (True) (True) S none (fun Z => Z = st (st (st S 0 0 27 (thr ((isC S i) ∧ (0 ≤ u ∧ u ≤ 5) ∧ (0 ≤ v ∧ v ≤ 5)) (True) (True))) 0 6 i u) 0 7 i v))) 0 0 (fun q => base ≤ q) := by
  refine mk_m (own := RX4) (lv0 := [(0, .ref (ad 0 0)), (1, .int (i32 (i))), (2, .int (i32 (u))), (3, .int (i32 (v)))]) (by decide) rfl (Nat.le_of_ble_eq_true rfl) rfl ?_
  intro p e s m below meth cz av Qm hx hb hr hml hown hlocks hK hZ hP hQm ls hl
  have hS : va_S (fun q => base ≤ q) s.heap s.heap [] := va_S.rf
  have rS : ∀ (a1 b1 : Nat) (i1 : Int), rng (S a1 b1 i1) := fun a1 b1 i1 => hP.rg a1 b1 i1
  obtain ⟨hc1, hc2⟩ := hw.cs
  refine lv_aload_n hx hb dX4_hatch_0 rfl (lv_at hl 0 rfl) ?_
  refine lv_aload_n hx hb dX4_hatch_1 rfl (lv_at hl 0 rfl) ?_
  refine lv_iload_n hx hb dX4_hatch_2 rfl (lv_at hl 1 rfl) ?_
  refine q_callV (k := 0) hx hb hml hl.1 hown hK hZ hP hS hw.al rfl rfl rfl (c_X4_isCartoon l g base ad S i hw hrn) t_815 t_15 (q_callB hK 813 36 816 t_813 t_36 t_816 f_yX4_isCartoon ⟨by decide, by decide⟩) rfl rfl (Nat.le_of_ble_eq_true rfl) dX4_hatch_3 ⟨by decide, by decide⟩  (q_an (fun H locs hP hS => ?_))
  have J28 : ∀ (H : Heap) (locs : List Loc), pic g base ad S H → va_S (fun q => base ≤ q) s.heap H locs → W p l e ({ frames := 2, cells := 0, slots := 0, locals := 43 } : Room) s m av below meth cz H locs 0 0 Qm (F0 m 28 ls (Value.int (i32 (b2 ((isC S i) ∧ (0 ≤ u ∧ u ≤ 5) ∧ (0 ≤ v ∧ v ≤ 5)))) :: Value.ref (ad 0 0) :: [])) := by
    intro H locs hP hS
    refine lv_iconst (v := i32 (1)) hx hb dX4_hatch_28 rfl ?_
    refine lv_iconst (v := i32 (1)) hx hb dX4_hatch_29 rfl ?_
    refine W.eq (g2 := F0 m 30 ls (Value.int (i32 (b2 (True))) :: Value.int (i32 (b2 (True))) :: Value.int (i32 (b2 ((isC S i) ∧ (0 ≤ u ∧ u ≤ 5) ∧ (0 ≤ v ∧ v ≤ 5)))) :: Value.ref (ad 0 0) :: [])) (by simp only [b2_t trivial, b2_f not_false] <;> rfl) ?_
    refine q_callV (k := 0) hx hb hml hl.1 hown hK hZ hP hS hw.al rfl rfl rfl (c_X4_goes l g base ad S ((isC S i) ∧ (0 ≤ u ∧ u ≤ 5) ∧ (0 ≤ v ∧ v ≤ 5)) True True hw.al) t_796 t_14 (q_callB hK 794 36 797 t_794 t_36 t_797 f_yX4_goes ⟨by decide, by decide⟩) rfl rfl (Nat.le_of_ble_eq_true rfl) dX4_hatch_30 ⟨by decide, by decide⟩  (q_an (fun H locs hP hS => ?_))
    generalize eS1 : st S 0 0 27 (thr ((isC S i) ∧ (0 ≤ u ∧ u ≤ 5) ∧ (0 ≤ v ∧ v ≤ 5)) True True) = S1 at hP
    have rS1 : ∀ (a1 b1 : Nat) (i1 : Int), rng (S1 a1 b1 i1) := fun a1 b1 i1 => hP.rg a1 b1 i1
    have qS1 : ∀ (a1 b1 : Nat) (i1 : Int), S1 a1 b1 i1 = if a1 = 0 ∧ b1 = 0 ∧ i1 = 27 then thr ((isC S i) ∧ (0 ≤ u ∧ u ≤ 5) ∧ (0 ≤ v ∧ v ≤ 5)) True True else S a1 b1 i1 := fun a1 b1 i1 => by rw [← eS1]; exact st_at _ _ _ _ _ _ _ _
    have aS1_0 : S1 0 0 (-1) = 1 := by rw [qS1, if_neg (by omega)]; exact hw.al
    have wS1 : wM S1 := wM.keep hw (fun r j h => by unfold wrow at h; rw [qS1, if_neg (by omega)])
    refine q_if_eqb (tgt := 50) hx hb dX4_hatch_33 (by decide) (fun c_2 => ?_) (fun c_2 => ?_)
    · -- ¬ (((isC S i) ∧ (0 ≤ u ∧ u ≤ 5) ∧ (0 ≤ v ∧ v ≤ 5)) ∧ True ∧ True)
      subst hQm
      exact q_vret hx hb hr hlocks hP hS (by subst eS1; exact ⟨rfl, Or.inl ⟨c_2, rfl, rfl⟩⟩) (by decide) (by decide) dX4_hatch_50
    · -- ((isC S i) ∧ (0 ≤ u ∧ u ≤ 5) ∧ (0 ≤ v ∧ v ≤ 5)) ∧ True ∧ True
      obtain ⟨⟨⟨hi1, hi2⟩, hu, hv⟩, -, -⟩ := id c_2
      refine lv_aload_n hx hb dX4_hatch_36 rfl (lv_at hl 0 rfl) ?_
      refine p_get (k := 0) hx hb hown hK hP aS1_0 rfl rfl rfl (lay_X4 hK) 5 703 (by decide) t_703 rfl rfl dX4_hatch_37 ?_
      refine lv_iload_n hx hb dX4_hatch_40 rfl (lv_at hl 1 rfl) ?_
      refine lv_iload_n hx hb dX4_hatch_41 rfl (lv_at hl 2 rfl) ?_
      refine p_iast (k := 0) (r := 6) (n := 5) hx hb hK hP hS aS1_0 rfl rfl (by decide) (by decide) (by omega) (by omega) hrn2 dX4_hatch_42 (fun H locs hP hS => ?_)
      generalize eS3 : st S1 0 6 i u = S3 at hP
      have qS3 : ∀ (a1 b1 : Nat) (i1 : Int), S3 a1 b1 i1 = if a1 = 0 ∧ b1 = 6 ∧ i1 = i then u else S1 a1 b1 i1 := fun a1 b1 i1 => by rw [← eS3]; exact st_at _ _ _ _ _ _ _ _
      have rS3 : ∀ (a1 b1 : Nat) (i1 : Int), rng (S3 a1 b1 i1) := fun a1 b1 i1 => hP.rg a1 b1 i1
      have aS3_0 : S3 0 0 (-1) = 1 := by rw [qS3, if_neg (by omega)]; exact aS1_0
      have wS3 : wM S3 := wM.keep wS1 (fun r j h => by unfold wrow at h; rw [qS3, if_neg (by omega)])
      refine lv_aload_n hx hb dX4_hatch_43 rfl (lv_at hl 0 rfl) ?_
      refine p_get (k := 0) hx hb hown hK hP aS3_0 rfl rfl rfl (lay_X4 hK) 6 704 (by decide) t_704 rfl rfl dX4_hatch_44 ?_
      refine lv_iload_n hx hb dX4_hatch_47 rfl (lv_at hl 1 rfl) ?_
      refine lv_iload_n hx hb dX4_hatch_48 rfl (lv_at hl 3 rfl) ?_
      refine p_iast (k := 0) (r := 7) (n := 5) hx hb hK hP hS aS3_0 rfl rfl (by decide) (by decide) (by omega) (by omega) hrn3 dX4_hatch_49 (fun H locs hP hS => ?_)
      generalize eS4 : st S3 0 7 i v = S4 at hP
      have qS4 : ∀ (a1 b1 : Nat) (i1 : Int), S4 a1 b1 i1 = if a1 = 0 ∧ b1 = 7 ∧ i1 = i then v else S3 a1 b1 i1 := fun a1 b1 i1 => by rw [← eS4]; exact st_at _ _ _ _ _ _ _ _
      have rS4 : ∀ (a1 b1 : Nat) (i1 : Int), rng (S4 a1 b1 i1) := fun a1 b1 i1 => hP.rg a1 b1 i1
      have aS4_0 : S4 0 0 (-1) = 1 := by rw [qS4, if_neg (by omega)]; exact aS3_0
      have wS4 : wM S4 := wM.keep wS3 (fun r j h => by unfold wrow at h; rw [qS4, if_neg (by omega)])
      subst hQm
      exact q_vret hx hb hr hlocks hP hS (by subst eS4; subst eS3; subst eS1; exact ⟨rfl, Or.inr ⟨c_2, rfl, rfl⟩⟩) (by decide) (by decide) dX4_hatch_50
  refine q_if_eqb (tgt := 27) hx hb dX4_hatch_6 (by decide) (fun c_5 => ?_) (fun c_5 => ?_)
  · -- ¬ (isC S i)
    refine lv_iconst (v := i32 (0)) hx hb dX4_hatch_27 rfl ?_
    refine q_nm (b2_f (show ¬ ((isC S i) ∧ (0 ≤ u ∧ u ≤ 5) ∧ (0 ≤ v ∧ v ≤ 5)) from by first | omega | (simp only [*]; done) | simp_all)).symm ?_
    exact J28 _ _ hP hS
  · -- isC S i
    refine lv_iload_n hx hb dX4_hatch_9 rfl (lv_at hl 2 rfl) ?_
    refine q_callS hx hb hml hl.1 hown hK hZ hP hS (c_X4_isColour l g base ad S u hrn2) t_822 (q_callB hK 821 36 823 t_821 t_36 t_823 f_yX4_isColour ⟨by decide, by decide⟩) rfl rfl (Nat.le_of_ble_eq_true rfl) dX4_hatch_10 ⟨by decide, by decide⟩  (q_an (fun H locs hP hS => ?_))
    refine q_if_eqb (tgt := 27) hx hb dX4_hatch_13 (by decide) (fun c_6 => ?_) (fun c_6 => ?_)
    · -- ¬ (0 ≤ u ∧ u ≤ 5)
      refine lv_iconst (v := i32 (0)) hx hb dX4_hatch_27 rfl ?_
      refine q_nm (b2_f (show ¬ ((isC S i) ∧ (0 ≤ u ∧ u ≤ 5) ∧ (0 ≤ v ∧ v ≤ 5)) from by first | omega | (simp only [*]; done) | simp_all)).symm ?_
      exact J28 _ _ hP hS
    · -- 0 ≤ u ∧ u ≤ 5
      refine lv_iload_n hx hb dX4_hatch_16 rfl (lv_at hl 3 rfl) ?_
      refine q_callS hx hb hml hl.1 hown hK hZ hP hS (c_X4_isColour l g base ad S v hrn3) t_822 (q_callB hK 821 36 823 t_821 t_36 t_823 f_yX4_isColour ⟨by decide, by decide⟩) rfl rfl (Nat.le_of_ble_eq_true rfl) dX4_hatch_17 ⟨by decide, by decide⟩  (q_an (fun H locs hP hS => ?_))
      refine q_if_eqb (tgt := 27) hx hb dX4_hatch_20 (by decide) (fun c_7 => ?_) (fun c_7 => ?_)
      · -- ¬ (0 ≤ v ∧ v ≤ 5)
        refine lv_iconst (v := i32 (0)) hx hb dX4_hatch_27 rfl ?_
        refine q_nm (b2_f (show ¬ ((isC S i) ∧ (0 ≤ u ∧ u ≤ 5) ∧ (0 ≤ v ∧ v ≤ 5)) from by first | omega | (simp only [*]; done) | simp_all)).symm ?_
        exact J28 _ _ hP hS
      · -- 0 ≤ v ∧ v ≤ 5
        refine lv_iconst (v := i32 (1)) hx hb dX4_hatch_23 rfl ?_
        refine lv_goto (tgt := 28) hx hb dX4_hatch_24 (by decide) ?_
        refine q_nm (b2_t (show (isC S i) ∧ (0 ≤ u ∧ u ≤ 5) ∧ (0 ≤ v ∧ v ≤ 5) from by first | omega | (simp only [*]; done) | simp_all)).symm ?_
        exact J28 _ _ hP hS

set_option maxHeartbeats 4000000 in
set_option maxRecDepth 100000 in
theorem c_X4_dye (l : Launch) (g : GT) (base : Nat) (ad : Nat → Nat → Nat) (S : St) (u n f : Int) (b : Prop) (hw : wM S) (hrn : rng u) (hrn2 : rng n) (hrn3 : rng f) : Met l yX4_dye [Cond.code yX4_dye cX4_dye 5 (some FieldType.int)] ({ frames := 2, cells := 0, slots := 0, locals := 42 }) (va_Pc [.ref (ad 0 0), .int (i32 (u)), .int (i32 (n)), .int (i32 (f)), .int (i32 (b2 (b)))] (PK g base ad S)) (gQ g base (mP ad (0 ≤ u ∧ u ≤ 5) ((1 ≤ n ∧ n ≤ 999) ∧ (0 ≤ f ∧ f ≤ 9)) ((S 0 0 8) < 20) S (some (.int (i32 (((S 0 0 8) + 1) - 1)))) (fun Z => Z = st (st (st (st (st (st (st S 0 0 27 (thr (0 ≤ u ∧ u ≤ 5) ((1 ≤ n ∧ n ≤ 999) ∧ (0 ≤ f ∧ f ≤ 9)) ((S 0 0 8) < 20))) 0 10 (S 0 0 8) u) 0 11 (S 0 0 8) n) 0 12 (S 0 0 8) n) 0 13 (S 0 0 8) f) 0 14 (S 0 0 8) (b2 b)) 0 0 8 ((S 0 0 8) + 1)))) 0 0 (fun q => base ≤ q) := by
  refine mk_m (own := RX4) (lv0 := [(0, .ref (ad 0 0)), (1, .int (i32 (u))), (2, .int (i32 (n))), (3, .int (i32 (f))), (4, .int (i32 (b2 (b))))]) (by decide) rfl (Nat.le_of_ble_eq_true rfl) rfl ?_
  intro p e s m below meth cz av Qm hx hb hr hml hown hlocks hK hZ hP hQm ls hl
  have hS : va_S (fun q => base ≤ q) s.heap s.heap [] := va_S.rf
  have rS : ∀ (a1 b1 : Nat) (i1 : Int), rng (S a1 b1 i1) := fun a1 b1 i1 => hP.rg a1 b1 i1
  obtain ⟨hc1, hc2⟩ := hw.lt
  refine lv_aload_n hx hb dX4_dye_0 rfl (lv_at hl 0 rfl) ?_
  refine lv_iload_n hx hb dX4_dye_1 rfl (lv_at hl 1 rfl) ?_
  refine q_callS hx hb hml hl.1 hown hK hZ hP hS (c_X4_isColour l g base ad S u hrn) t_822 (q_callB hK 821 36 823 t_821 t_36 t_823 f_yX4_isColour ⟨by decide, by decide⟩) rfl rfl (Nat.le_of_ble_eq_true rfl) dX4_dye_2 ⟨by decide, by decide⟩  (q_an (fun H locs hP hS => ?_))
  refine lv_iload_n hx hb dX4_dye_5 rfl (lv_at hl 2 rfl) ?_
  refine lv_iconst (v := i32 (1)) hx hb dX4_dye_6 rfl ?_
  refine lv_sipush (v := i32 (999)) hx hb dX4_dye_7 (by decide) ?_
  refine q_callS hx hb hml hl.1 hown hK hZ hP hS (c_X4_in l g base ad S n 1 999 hrn2 ⟨by decide, by decide⟩ ⟨by decide, by decide⟩) t_807 (q_callB hK 806 36 808 t_806 t_36 t_808 f_yX4_in ⟨by decide, by decide⟩) rfl rfl (Nat.le_of_ble_eq_true rfl) dX4_dye_10 ⟨by decide, by decide⟩  (q_an (fun H locs hP hS => ?_))
  have J31 : ∀ (H : Heap) (locs : List Loc), pic g base ad S H → va_S (fun q => base ≤ q) s.heap H locs → W p l e ({ frames := 2, cells := 0, slots := 0, locals := 42 } : Room) s m av below meth cz H locs 0 0 Qm (F0 m 31 ls (Value.int (i32 (b2 ((1 ≤ n ∧ n ≤ 999) ∧ (0 ≤ f ∧ f ≤ 9)))) :: Value.int (i32 (b2 (0 ≤ u ∧ u ≤ 5))) :: Value.ref (ad 0 0) :: [])) := by
    intro H locs hP hS
    refine lv_aload_n hx hb dX4_dye_31 rfl (lv_at hl 0 rfl) ?_
    refine p_get (k := 0) hx hb hown hK hP hw.al rfl rfl rfl (lay_X4 hK) 8 706 (by decide) t_706 rfl rfl dX4_dye_32 ?_
    refine lv_bipush (v := i32 (20)) hx hb dX4_dye_35 (by decide) ?_
    have J45 : ∀ (H : Heap) (locs : List Loc), pic g base ad S H → va_S (fun q => base ≤ q) s.heap H locs → W p l e ({ frames := 2, cells := 0, slots := 0, locals := 42 } : Room) s m av below meth cz H locs 0 0 Qm (F0 m 45 ls (Value.int (i32 (b2 (((S 0 0 8) < 20)))) :: Value.int (i32 (b2 ((1 ≤ n ∧ n ≤ 999) ∧ (0 ≤ f ∧ f ≤ 9)))) :: Value.int (i32 (b2 (0 ≤ u ∧ u ≤ 5))) :: Value.ref (ad 0 0) :: [])) := by
      intro H locs hP hS
      refine q_callV (k := 0) hx hb hml hl.1 hown hK hZ hP hS hw.al rfl rfl rfl (c_X4_goes l g base ad S (0 ≤ u ∧ u ≤ 5) ((1 ≤ n ∧ n ≤ 999) ∧ (0 ≤ f ∧ f ≤ 9)) (((S 0 0 8) < 20)) hw.al) t_796 t_14 (q_callB hK 794 36 797 t_794 t_36 t_797 f_yX4_goes ⟨by decide, by decide⟩) rfl rfl (Nat.le_of_ble_eq_true rfl) dX4_dye_45 ⟨by decide, by decide⟩  (q_an (fun H locs hP hS => ?_))
      generalize eS1 : st S 0 0 27 (thr (0 ≤ u ∧ u ≤ 5) ((1 ≤ n ∧ n ≤ 999) ∧ (0 ≤ f ∧ f ≤ 9)) (((S 0 0 8) < 20))) = S1 at hP
      have rS1 : ∀ (a1 b1 : Nat) (i1 : Int), rng (S1 a1 b1 i1) := fun a1 b1 i1 => hP.rg a1 b1 i1
      have qS1 : ∀ (a1 b1 : Nat) (i1 : Int), S1 a1 b1 i1 = if a1 = 0 ∧ b1 = 0 ∧ i1 = 27 then thr (0 ≤ u ∧ u ≤ 5) ((1 ≤ n ∧ n ≤ 999) ∧ (0 ≤ f ∧ f ≤ 9)) (((S 0 0 8) < 20)) else S a1 b1 i1 := fun a1 b1 i1 => by rw [← eS1]; exact st_at _ _ _ _ _ _ _ _
      have aS1_0 : S1 0 0 (-1) = 1 := by rw [qS1, if_neg (by omega)]; exact hw.al
      have wS1 : wM S1 := wM.keep hw (fun r j h => by unfold wrow at h; rw [qS1, if_neg (by omega)])
      refine q_if_neb (tgt := 53) hx hb dX4_dye_48 (by decide) (fun c_2 => ?_) (fun c_2 => ?_)
      · -- (0 ≤ u ∧ u ≤ 5) ∧ ((1 ≤ n ∧ n ≤ 999) ∧ (0 ≤ f ∧ f ≤ 9)) ∧ (((S 0 0 8) < 20))
        refine lv_aload_n hx hb dX4_dye_53 rfl (lv_at hl 0 rfl) ?_
        refine p_get (k := 0) hx hb hown hK hP aS1_0 rfl rfl rfl (lay_X4 hK) 9 707 (by decide) t_707 rfl rfl dX4_dye_54 ?_
        refine lv_aload_n hx hb dX4_dye_57 rfl (lv_at hl 0 rfl) ?_
        refine p_get (k := 0) hx hb hown hK hP aS1_0 rfl rfl rfl (lay_X4 hK) 8 706 (by decide) t_706 rfl rfl dX4_dye_58 ?_
        refine q_nm (show S1 0 0 8 = S 0 0 8 from by rw [qS1, if_neg (by omega)]) ?_
        refine lv_iload_n hx hb dX4_dye_61 rfl (lv_at hl 1 rfl) ?_
        refine p_iast (k := 0) (r := 10) (n := 20) hx hb hK hP hS aS1_0 rfl rfl (by decide) (by decide) (by omega) (by omega) hrn dX4_dye_62 (fun H locs hP hS => ?_)
        generalize eS3 : st S1 0 10 (S 0 0 8) u = S3 at hP
        have qS3 : ∀ (a1 b1 : Nat) (i1 : Int), S3 a1 b1 i1 = if a1 = 0 ∧ b1 = 10 ∧ i1 = S 0 0 8 then u else S1 a1 b1 i1 := fun a1 b1 i1 => by rw [← eS3]; exact st_at _ _ _ _ _ _ _ _
        have rS3 : ∀ (a1 b1 : Nat) (i1 : Int), rng (S3 a1 b1 i1) := fun a1 b1 i1 => hP.rg a1 b1 i1
        have aS3_0 : S3 0 0 (-1) = 1 := by rw [qS3, if_neg (by omega)]; exact aS1_0
        have wS3 : wM S3 := wM.keep wS1 (fun r j h => by unfold wrow at h; rw [qS3, if_neg (by omega)])
        refine lv_aload_n hx hb dX4_dye_63 rfl (lv_at hl 0 rfl) ?_
        refine p_get (k := 0) hx hb hown hK hP aS3_0 rfl rfl rfl (lay_X4 hK) 10 708 (by decide) t_708 rfl rfl dX4_dye_64 ?_
        refine lv_aload_n hx hb dX4_dye_67 rfl (lv_at hl 0 rfl) ?_
        refine p_get (k := 0) hx hb hown hK hP aS3_0 rfl rfl rfl (lay_X4 hK) 8 706 (by decide) t_706 rfl rfl dX4_dye_68 ?_
        refine q_nm (show S3 0 0 8 = S 0 0 8 from by rw [qS3, if_neg (by omega), qS1, if_neg (by omega)]) ?_
        refine lv_iload_n hx hb dX4_dye_71 rfl (lv_at hl 2 rfl) ?_
        refine p_iast (k := 0) (r := 11) (n := 20) hx hb hK hP hS aS3_0 rfl rfl (by decide) (by decide) (by omega) (by omega) hrn2 dX4_dye_72 (fun H locs hP hS => ?_)
        generalize eS4 : st S3 0 11 (S 0 0 8) n = S4 at hP
        have qS4 : ∀ (a1 b1 : Nat) (i1 : Int), S4 a1 b1 i1 = if a1 = 0 ∧ b1 = 11 ∧ i1 = S 0 0 8 then n else S3 a1 b1 i1 := fun a1 b1 i1 => by rw [← eS4]; exact st_at _ _ _ _ _ _ _ _
        have rS4 : ∀ (a1 b1 : Nat) (i1 : Int), rng (S4 a1 b1 i1) := fun a1 b1 i1 => hP.rg a1 b1 i1
        have aS4_0 : S4 0 0 (-1) = 1 := by rw [qS4, if_neg (by omega)]; exact aS3_0
        have wS4 : wM S4 := wM.keep wS3 (fun r j h => by unfold wrow at h; rw [qS4, if_neg (by omega)])
        refine lv_aload_n hx hb dX4_dye_73 rfl (lv_at hl 0 rfl) ?_
        refine p_get (k := 0) hx hb hown hK hP aS4_0 rfl rfl rfl (lay_X4 hK) 11 709 (by decide) t_709 rfl rfl dX4_dye_74 ?_
        refine lv_aload_n hx hb dX4_dye_77 rfl (lv_at hl 0 rfl) ?_
        refine p_get (k := 0) hx hb hown hK hP aS4_0 rfl rfl rfl (lay_X4 hK) 8 706 (by decide) t_706 rfl rfl dX4_dye_78 ?_
        refine q_nm (show S4 0 0 8 = S 0 0 8 from by rw [qS4, if_neg (by omega), qS3, if_neg (by omega), qS1, if_neg (by omega)]) ?_
        refine lv_iload_n hx hb dX4_dye_81 rfl (lv_at hl 2 rfl) ?_
        refine p_iast (k := 0) (r := 12) (n := 20) hx hb hK hP hS aS4_0 rfl rfl (by decide) (by decide) (by omega) (by omega) hrn2 dX4_dye_82 (fun H locs hP hS => ?_)
        generalize eS5 : st S4 0 12 (S 0 0 8) n = S5 at hP
        have qS5 : ∀ (a1 b1 : Nat) (i1 : Int), S5 a1 b1 i1 = if a1 = 0 ∧ b1 = 12 ∧ i1 = S 0 0 8 then n else S4 a1 b1 i1 := fun a1 b1 i1 => by rw [← eS5]; exact st_at _ _ _ _ _ _ _ _
        have rS5 : ∀ (a1 b1 : Nat) (i1 : Int), rng (S5 a1 b1 i1) := fun a1 b1 i1 => hP.rg a1 b1 i1
        have aS5_0 : S5 0 0 (-1) = 1 := by rw [qS5, if_neg (by omega)]; exact aS4_0
        have wS5 : wM S5 := wM.keep wS4 (fun r j h => by unfold wrow at h; rw [qS5, if_neg (by omega)])
        refine lv_aload_n hx hb dX4_dye_83 rfl (lv_at hl 0 rfl) ?_
        refine p_get (k := 0) hx hb hown hK hP aS5_0 rfl rfl rfl (lay_X4 hK) 12 710 (by decide) t_710 rfl rfl dX4_dye_84 ?_
        refine lv_aload_n hx hb dX4_dye_87 rfl (lv_at hl 0 rfl) ?_
        refine p_get (k := 0) hx hb hown hK hP aS5_0 rfl rfl rfl (lay_X4 hK) 8 706 (by decide) t_706 rfl rfl dX4_dye_88 ?_
        refine q_nm (show S5 0 0 8 = S 0 0 8 from by rw [qS5, if_neg (by omega), qS4, if_neg (by omega), qS3, if_neg (by omega), qS1, if_neg (by omega)]) ?_
        refine lv_iload_n hx hb dX4_dye_91 rfl (lv_at hl 3 rfl) ?_
        refine p_iast (k := 0) (r := 13) (n := 20) hx hb hK hP hS aS5_0 rfl rfl (by decide) (by decide) (by omega) (by omega) hrn3 dX4_dye_92 (fun H locs hP hS => ?_)
        generalize eS6 : st S5 0 13 (S 0 0 8) f = S6 at hP
        have qS6 : ∀ (a1 b1 : Nat) (i1 : Int), S6 a1 b1 i1 = if a1 = 0 ∧ b1 = 13 ∧ i1 = S 0 0 8 then f else S5 a1 b1 i1 := fun a1 b1 i1 => by rw [← eS6]; exact st_at _ _ _ _ _ _ _ _
        have rS6 : ∀ (a1 b1 : Nat) (i1 : Int), rng (S6 a1 b1 i1) := fun a1 b1 i1 => hP.rg a1 b1 i1
        have aS6_0 : S6 0 0 (-1) = 1 := by rw [qS6, if_neg (by omega)]; exact aS5_0
        have wS6 : wM S6 := wM.keep wS5 (fun r j h => by unfold wrow at h; rw [qS6, if_neg (by omega)])
        refine lv_aload_n hx hb dX4_dye_93 rfl (lv_at hl 0 rfl) ?_
        refine p_get (k := 0) hx hb hown hK hP aS6_0 rfl rfl rfl (lay_X4 hK) 13 711 (by decide) t_711 rfl rfl dX4_dye_94 ?_
        refine lv_aload_n hx hb dX4_dye_97 rfl (lv_at hl 0 rfl) ?_
        refine p_get (k := 0) hx hb hown hK hP aS6_0 rfl rfl rfl (lay_X4 hK) 8 706 (by decide) t_706 rfl rfl dX4_dye_98 ?_
        refine q_nm (show S6 0 0 8 = S 0 0 8 from by rw [qS6, if_neg (by omega), qS5, if_neg (by omega), qS4, if_neg (by omega), qS3, if_neg (by omega), qS1, if_neg (by omega)]) ?_
        refine lv_iload hx hb dX4_dye_101 (lv_at hl 4 rfl) ?_
        refine p_zast (k := 0) (r := 14) (n := 20) hx hb hK hP hS aS6_0 rfl rfl (by decide) (by decide) (by omega) (by omega) (b2_01 _) dX4_dye_103 (fun H locs hP hS => ?_)
        generalize eS7 : st S6 0 14 (S 0 0 8) (b2 (b)) = S7 at hP
        have qS7 : ∀ (a1 b1 : Nat) (i1 : Int), S7 a1 b1 i1 = if a1 = 0 ∧ b1 = 14 ∧ i1 = S 0 0 8 then b2 (b) else S6 a1 b1 i1 := fun a1 b1 i1 => by rw [← eS7]; exact st_at _ _ _ _ _ _ _ _
        have rS7 : ∀ (a1 b1 : Nat) (i1 : Int), rng (S7 a1 b1 i1) := fun a1 b1 i1 => hP.rg a1 b1 i1
        have aS7_0 : S7 0 0 (-1) = 1 := by rw [qS7, if_neg (by omega)]; exact aS6_0
        have wS7 : wM S7 := wM.keep wS6 (fun r j h => by unfold wrow at h; rw [qS7, if_neg (by omega)])
        refine lv_aload_n hx hb dX4_dye_104 rfl (lv_at hl 0 rfl) ?_
        refine lv_dup hx hb dX4_dye_105 rfl ?_
        refine p_get (k := 0) hx hb hown hK hP aS7_0 rfl rfl rfl (lay_X4 hK) 8 706 (by decide) t_706 rfl rfl dX4_dye_106 ?_
        refine q_nm (show S7 0 0 8 = S 0 0 8 from by rw [qS7, if_neg (by omega), qS6, if_neg (by omega), qS5, if_neg (by omega), qS4, if_neg (by omega), qS3, if_neg (by omega), qS1, if_neg (by omega)]) ?_
        refine lv_iconst (v := i32 (1)) hx hb dX4_dye_109 rfl ?_
        refine q_iadd hx hb dX4_dye_110 ?_
        refine p_put (k := 0) hx hb hown hK hP hS aS7_0 rfl rfl rfl (lay_X4 hK) tyX4 tyX4_ok nmX4 8 706 (by decide) t_706 rfl rfl (by decide +kernel) ⟨by omega, by omega⟩ (Nat.le_of_ble_eq_true rfl) (set_0_8 _ _ _ _) dX4_dye_111 (fun H locs hP hS => ?_)
        generalize eS8 : st S7 0 0 8 ((S 0 0 8) + 1) = S8 at hP
        have qS8 : ∀ (a1 b1 : Nat) (i1 : Int), S8 a1 b1 i1 = if a1 = 0 ∧ b1 = 0 ∧ i1 = 8 then (S 0 0 8) + 1 else S7 a1 b1 i1 := fun a1 b1 i1 => by rw [← eS8]; exact st_at _ _ _ _ _ _ _ _
        have rS8 : ∀ (a1 b1 : Nat) (i1 : Int), rng (S8 a1 b1 i1) := fun a1 b1 i1 => hP.rg a1 b1 i1
        have aS8_0 : S8 0 0 (-1) = 1 := by rw [qS8, if_neg (by omega)]; exact aS7_0
        refine lv_aload_n hx hb dX4_dye_114 rfl (lv_at hl 0 rfl) ?_
        refine p_get (k := 0) hx hb hown hK hP aS8_0 rfl rfl rfl (lay_X4 hK) 8 706 (by decide) t_706 rfl rfl dX4_dye_115 ?_
        refine q_nm (show S8 0 0 8 = (S 0 0 8) + 1 from by rw [qS8, if_pos ⟨rfl, rfl, rfl⟩]) ?_
        refine lv_iconst (v := i32 (1)) hx hb dX4_dye_118 rfl ?_
        refine q_isub hx hb dX4_dye_119 ?_
        subst hQm
        exact q_iret hx hb hr hlocks hP hS (by subst eS8; subst eS7; subst eS6; subst eS5; subst eS4; subst eS3; subst eS1; exact ⟨rfl, Or.inr ⟨c_2, rfl, rfl⟩⟩) (by decide) (by decide) dX4_dye_120
      · -- ¬ ((0 ≤ u ∧ u ≤ 5) ∧ ((1 ≤ n ∧ n ≤ 999) ∧ (0 ≤ f ∧ f ≤ 9)) ∧ (((S 0 0 8) < 20)))
        refine lv_iconst (v := i32 (0)) hx hb dX4_dye_51 rfl ?_
        subst hQm
        exact q_iret hx hb hr hlocks hP hS (by subst eS1; exact ⟨rfl, Or.inl ⟨c_2, rfl, rfl⟩⟩) (by decide) (by decide) dX4_dye_52
    refine q_icmp_ge (tgt := 44) hx hb (hP.rg _ _ _) ⟨by decide, by decide⟩ dX4_dye_37 (by decide) (fun c_9 => ?_) (fun c_9 => ?_)
    · -- 20 ≤ (S 0 0 8)
      refine lv_iconst (v := i32 (0)) hx hb dX4_dye_44 rfl ?_
      refine q_nm (b2_f (show ¬ (((S 0 0 8) < 20)) from by first | omega | (simp only [*]; done) | simp_all)).symm ?_
      exact J45 _ _ hP hS
    · -- (S 0 0 8) < 20
      refine lv_iconst (v := i32 (1)) hx hb dX4_dye_40 rfl ?_
      refine lv_goto (tgt := 45) hx hb dX4_dye_41 (by decide) ?_
      refine q_nm (b2_t (show ((S 0 0 8) < 20) from by first | omega | (simp only [*]; done) | simp_all)).symm ?_
      exact J45 _ _ hP hS
  refine q_if_eqb (tgt := 30) hx hb dX4_dye_13 (by decide) (fun c_10 => ?_) (fun c_10 => ?_)
  · -- ¬ (1 ≤ n ∧ n ≤ 999)
    refine lv_iconst (v := i32 (0)) hx hb dX4_dye_30 rfl ?_
    refine q_nm (b2_f (show ¬ ((1 ≤ n ∧ n ≤ 999) ∧ (0 ≤ f ∧ f ≤ 9)) from by first | omega | (simp only [*]; done) | simp_all)).symm ?_
    exact J31 _ _ hP hS
  · -- 1 ≤ n ∧ n ≤ 999
    refine lv_iload_n hx hb dX4_dye_16 rfl (lv_at hl 3 rfl) ?_
    refine lv_iconst (v := i32 (0)) hx hb dX4_dye_17 rfl ?_
    refine lv_bipush (v := i32 (9)) hx hb dX4_dye_18 (by decide) ?_
    refine q_callS hx hb hml hl.1 hown hK hZ hP hS (c_X4_in l g base ad S f 0 9 hrn3 ⟨by decide, by decide⟩ ⟨by decide, by decide⟩) t_807 (q_callB hK 806 36 808 t_806 t_36 t_808 f_yX4_in ⟨by decide, by decide⟩) rfl rfl (Nat.le_of_ble_eq_true rfl) dX4_dye_20 ⟨by decide, by decide⟩  (q_an (fun H locs hP hS => ?_))
    refine q_if_eqb (tgt := 30) hx hb dX4_dye_23 (by decide) (fun c_11 => ?_) (fun c_11 => ?_)
    · -- ¬ (0 ≤ f ∧ f ≤ 9)
      refine lv_iconst (v := i32 (0)) hx hb dX4_dye_30 rfl ?_
      refine q_nm (b2_f (show ¬ ((1 ≤ n ∧ n ≤ 999) ∧ (0 ≤ f ∧ f ≤ 9)) from by first | omega | (simp only [*]; done) | simp_all)).symm ?_
      exact J31 _ _ hP hS
    · -- 0 ≤ f ∧ f ≤ 9
      refine lv_iconst (v := i32 (1)) hx hb dX4_dye_26 rfl ?_
      refine lv_goto (tgt := 31) hx hb dX4_dye_27 (by decide) ?_
      refine q_nm (b2_t (show (1 ≤ n ∧ n ≤ 999) ∧ (0 ≤ f ∧ f ≤ 9) from by first | omega | (simp only [*]; done) | simp_all)).symm ?_
      exact J31 _ _ hP hS

set_option maxHeartbeats 4000000 in
set_option maxRecDepth 100000 in
theorem c_X4_left (l : Launch) (g : GT) (base : Nat) (ad : Nat → Nat → Nat) (S : St) (i : Int) (hw : wM S) (hrn : rng i) : Met l yX4_left [Cond.code yX4_left cX4_left 2 (some FieldType.int)] ({ frames := 1, cells := 0, slots := 0, locals := 23 }) (va_Pc [.ref (ad 0 0), .int (i32 (i))] (PK g base ad S)) (gQ g base (mP ad (0 ≤ i ∧ i ≤ (S 0 0 8) - 1) (True) (True) S (some (.int (i32 (S 0 12 i)))) (fun Z => Z = (st S 0 0 27 (thr (0 ≤ i ∧ i ≤ (S 0 0 8) - 1) (True) (True)))))) 0 0 (fun q => base ≤ q) := by
  refine mk_m (own := RX4) (lv0 := [(0, .ref (ad 0 0)), (1, .int (i32 (i)))]) (by decide) rfl (Nat.le_of_ble_eq_true rfl) rfl ?_
  intro p e s m below meth cz av Qm hx hb hr hml hown hlocks hK hZ hP hQm ls hl
  have hS : va_S (fun q => base ≤ q) s.heap s.heap [] := va_S.rf
  have rS : ∀ (a1 b1 : Nat) (i1 : Int), rng (S a1 b1 i1) := fun a1 b1 i1 => hP.rg a1 b1 i1
  obtain ⟨hc1, hc2⟩ := hw.lt
  refine lv_aload_n hx hb dX4_left_0 rfl (lv_at hl 0 rfl) ?_
  refine lv_iload_n hx hb dX4_left_1 rfl (lv_at hl 1 rfl) ?_
  refine lv_iconst (v := i32 (0)) hx hb dX4_left_2 rfl ?_
  refine lv_aload_n hx hb dX4_left_3 rfl (lv_at hl 0 rfl) ?_
  refine p_get (k := 0) hx hb hown hK hP hw.al rfl rfl rfl (lay_X4 hK) 8 706 (by decide) t_706 rfl rfl dX4_left_4 ?_
  refine lv_iconst (v := i32 (1)) hx hb dX4_left_7 rfl ?_
  refine q_isub hx hb dX4_left_8 ?_
  refine q_callS hx hb hml hl.1 hown hK hZ hP hS (c_X4_in l g base ad S i 0 ((S 0 0 8) - 1) hrn ⟨by decide, by decide⟩ ⟨by omega, by omega⟩) t_807 (q_callB hK 806 36 808 t_806 t_36 t_808 f_yX4_in ⟨by decide, by decide⟩) rfl rfl (Nat.le_of_ble_eq_true rfl) dX4_left_9 ⟨by decide, by decide⟩  (q_an (fun H locs hP hS => ?_))
  refine lv_iconst (v := i32 (1)) hx hb dX4_left_12 rfl ?_
  refine lv_iconst (v := i32 (1)) hx hb dX4_left_13 rfl ?_
  refine W.eq (g2 := F0 m 14 ls (Value.int (i32 (b2 (True))) :: Value.int (i32 (b2 (True))) :: Value.int (i32 (b2 (0 ≤ i ∧ i ≤ ((S 0 0 8) - 1)))) :: Value.ref (ad 0 0) :: [])) (by simp only [b2_t trivial, b2_f not_false] <;> rfl) ?_
  refine q_callV (k := 0) hx hb hml hl.1 hown hK hZ hP hS hw.al rfl rfl rfl (c_X4_goes l g base ad S (0 ≤ i ∧ i ≤ ((S 0 0 8) - 1)) True True hw.al) t_796 t_14 (q_callB hK 794 36 797 t_794 t_36 t_797 f_yX4_goes ⟨by decide, by decide⟩) rfl rfl (Nat.le_of_ble_eq_true rfl) dX4_left_14 ⟨by decide, by decide⟩  (q_an (fun H locs hP hS => ?_))
  generalize eS1 : st S 0 0 27 (thr (0 ≤ i ∧ i ≤ ((S 0 0 8) - 1)) True True) = S1 at hP
  have rS1 : ∀ (a1 b1 : Nat) (i1 : Int), rng (S1 a1 b1 i1) := fun a1 b1 i1 => hP.rg a1 b1 i1
  have qS1 : ∀ (a1 b1 : Nat) (i1 : Int), S1 a1 b1 i1 = if a1 = 0 ∧ b1 = 0 ∧ i1 = 27 then thr (0 ≤ i ∧ i ≤ ((S 0 0 8) - 1)) True True else S a1 b1 i1 := fun a1 b1 i1 => by rw [← eS1]; exact st_at _ _ _ _ _ _ _ _
  have aS1_0 : S1 0 0 (-1) = 1 := by rw [qS1, if_neg (by omega)]; exact hw.al
  have wS1 : wM S1 := wM.keep hw (fun r j h => by unfold wrow at h; rw [qS1, if_neg (by omega)])
  refine q_if_eqb (tgt := 29) hx hb dX4_left_17 (by decide) (fun c_2 => ?_) (fun c_2 => ?_)
  · -- ¬ ((0 ≤ i ∧ i ≤ ((S 0 0 8) - 1)) ∧ True ∧ True)
    refine lv_iconst (v := i32 (0)) hx hb dX4_left_29 rfl ?_
    subst hQm
    exact q_iret hx hb hr hlocks hP hS (by subst eS1; exact ⟨rfl, Or.inl ⟨c_2, rfl, rfl⟩⟩) (by decide) (by decide) dX4_left_30
  · -- (0 ≤ i ∧ i ≤ ((S 0 0 8) - 1)) ∧ True ∧ True
    refine lv_aload_n hx hb dX4_left_20 rfl (lv_at hl 0 rfl) ?_
    refine p_get (k := 0) hx hb hown hK hP aS1_0 rfl rfl rfl (lay_X4 hK) 11 709 (by decide) t_709 rfl rfl dX4_left_21 ?_
    refine lv_iload_n hx hb dX4_left_24 rfl (lv_at hl 1 rfl) ?_
    refine p_iald (k := 0) (r := 12) (n := 20) hx hb hK hP aS1_0 rfl rfl (by decide) (by decide) (by omega) (by omega) dX4_left_25 ?_
    refine q_nm (show S1 0 12 i = S 0 12 i from by rw [qS1, if_neg (by omega)]) ?_
    refine lv_goto (tgt := 30) hx hb dX4_left_26 (by decide) ?_
    subst hQm
    exact q_iret hx hb hr hlocks hP hS (by subst eS1; exact ⟨rfl, Or.inr ⟨c_2, rfl, rfl⟩⟩) (by decide) (by decide) dX4_left_30

set_option maxHeartbeats 4000000 in
set_option maxRecDepth 100000 in
theorem c_X4_setsColumn (l : Launch) (g : GT) (base : Nat) (ad : Nat → Nat → Nat) (S : St) (x q u v : Int) (hw : wM S) (hxx : 0 ≤ x ∧ x < 20) (hqq : 0 ≤ q ∧ q < 24) (hrn : rng u) (hrn2 : rng v) : Met l yX4_setsColumn [Cond.code yX4_setsColumn cX4_setsColumn 5 (none : Option FieldType)] ({ frames := 0, cells := 0, slots := 0, locals := 0 }) (va_Pc [.ref (ad 0 0), .int (i32 (x)), .int (i32 (q)), .int (i32 (u)), .int (i32 (v))] (PK g base ad S)) (gQ g base (an (none) ad (st (st (st S 0 22 (24 * x + q) u) 0 23 (24 * x + q) v) 0 24 (24 * x + q) 0))) 0 0 (fun q => base ≤ q) := by
  refine mk_m (own := RX4) (lv0 := [(0, .ref (ad 0 0)), (1, .int (i32 (x))), (2, .int (i32 (q))), (3, .int (i32 (u))), (4, .int (i32 (v)))]) (by decide) rfl (Nat.le_of_ble_eq_true rfl) rfl ?_
  intro p e s m below meth cz av Qm hx hb hr hml hown hlocks hK hZ hP hQm ls hl
  have hS : va_S (fun q => base ≤ q) s.heap s.heap [] := va_S.rf
  have rS : ∀ (a1 b1 : Nat) (i1 : Int), rng (S a1 b1 i1) := fun a1 b1 i1 => hP.rg a1 b1 i1
  refine lv_aload_n hx hb dX4_setsColumn_0 rfl (lv_at hl 0 rfl) ?_
  refine p_get (k := 0) hx hb hown hK hP hw.al rfl rfl rfl (lay_X4 hK) 21 719 (by decide) t_719 rfl rfl dX4_setsColumn_1 ?_
  refine lv_bipush (v := i32 (24)) hx hb dX4_setsColumn_4 (by decide) ?_
  refine lv_iload_n hx hb dX4_setsColumn_6 rfl (lv_at hl 1 rfl) ?_
  refine q_imul hx hb dX4_setsColumn_7 ?_
  refine lv_iload_n hx hb dX4_setsColumn_8 rfl (lv_at hl 2 rfl) ?_
  refine q_iadd hx hb dX4_setsColumn_9 ?_
  refine lv_iload_n hx hb dX4_setsColumn_10 rfl (lv_at hl 3 rfl) ?_
  refine p_iast (k := 0) (r := 22) (n := 480) hx hb hK hP hS hw.al rfl rfl (by decide) (by decide) (by omega) (by omega) hrn dX4_setsColumn_11 (fun H locs hP hS => ?_)
  generalize eS1 : st S 0 22 ((24 * x) + q) u = S1 at hP
  have qS1 : ∀ (a1 b1 : Nat) (i1 : Int), S1 a1 b1 i1 = if a1 = 0 ∧ b1 = 22 ∧ i1 = (24 * x) + q then u else S a1 b1 i1 := fun a1 b1 i1 => by rw [← eS1]; exact st_at _ _ _ _ _ _ _ _
  have rS1 : ∀ (a1 b1 : Nat) (i1 : Int), rng (S1 a1 b1 i1) := fun a1 b1 i1 => hP.rg a1 b1 i1
  have aS1_0 : S1 0 0 (-1) = 1 := by rw [qS1, if_neg (by omega)]; exact hw.al
  have wS1 : wM S1 := wM.keep hw (fun r j h => by unfold wrow at h; rw [qS1, if_neg (by omega)])
  refine lv_aload_n hx hb dX4_setsColumn_12 rfl (lv_at hl 0 rfl) ?_
  refine p_get (k := 0) hx hb hown hK hP aS1_0 rfl rfl rfl (lay_X4 hK) 22 720 (by decide) t_720 rfl rfl dX4_setsColumn_13 ?_
  refine lv_bipush (v := i32 (24)) hx hb dX4_setsColumn_16 (by decide) ?_
  refine lv_iload_n hx hb dX4_setsColumn_18 rfl (lv_at hl 1 rfl) ?_
  refine q_imul hx hb dX4_setsColumn_19 ?_
  refine lv_iload_n hx hb dX4_setsColumn_20 rfl (lv_at hl 2 rfl) ?_
  refine q_iadd hx hb dX4_setsColumn_21 ?_
  refine lv_iload hx hb dX4_setsColumn_22 (lv_at hl 4 rfl) ?_
  refine p_iast (k := 0) (r := 23) (n := 480) hx hb hK hP hS aS1_0 rfl rfl (by decide) (by decide) (by omega) (by omega) hrn2 dX4_setsColumn_24 (fun H locs hP hS => ?_)
  generalize eS2 : st S1 0 23 ((24 * x) + q) v = S2 at hP
  have qS2 : ∀ (a1 b1 : Nat) (i1 : Int), S2 a1 b1 i1 = if a1 = 0 ∧ b1 = 23 ∧ i1 = (24 * x) + q then v else S1 a1 b1 i1 := fun a1 b1 i1 => by rw [← eS2]; exact st_at _ _ _ _ _ _ _ _
  have rS2 : ∀ (a1 b1 : Nat) (i1 : Int), rng (S2 a1 b1 i1) := fun a1 b1 i1 => hP.rg a1 b1 i1
  have aS2_0 : S2 0 0 (-1) = 1 := by rw [qS2, if_neg (by omega)]; exact aS1_0
  have wS2 : wM S2 := wM.keep wS1 (fun r j h => by unfold wrow at h; rw [qS2, if_neg (by omega)])
  refine lv_aload_n hx hb dX4_setsColumn_25 rfl (lv_at hl 0 rfl) ?_
  refine p_get (k := 0) hx hb hown hK hP aS2_0 rfl rfl rfl (lay_X4 hK) 23 721 (by decide) t_721 rfl rfl dX4_setsColumn_26 ?_
  refine lv_bipush (v := i32 (24)) hx hb dX4_setsColumn_29 (by decide) ?_
  refine lv_iload_n hx hb dX4_setsColumn_31 rfl (lv_at hl 1 rfl) ?_
  refine q_imul hx hb dX4_setsColumn_32 ?_
  refine lv_iload_n hx hb dX4_setsColumn_33 rfl (lv_at hl 2 rfl) ?_
  refine q_iadd hx hb dX4_setsColumn_34 ?_
  refine lv_iconst (v := i32 (0)) hx hb dX4_setsColumn_35 rfl ?_
  refine p_zast (k := 0) (r := 24) (n := 480) hx hb hK hP hS aS2_0 rfl rfl (by decide) (by decide) (by omega) (by omega) (by omega) dX4_setsColumn_36 (fun H locs hP hS => ?_)
  generalize eS3 : st S2 0 24 ((24 * x) + q) 0 = S3 at hP
  have qS3 : ∀ (a1 b1 : Nat) (i1 : Int), S3 a1 b1 i1 = if a1 = 0 ∧ b1 = 24 ∧ i1 = (24 * x) + q then 0 else S2 a1 b1 i1 := fun a1 b1 i1 => by rw [← eS3]; exact st_at _ _ _ _ _ _ _ _
  have rS3 : ∀ (a1 b1 : Nat) (i1 : Int), rng (S3 a1 b1 i1) := fun a1 b1 i1 => hP.rg a1 b1 i1
  have aS3_0 : S3 0 0 (-1) = 1 := by rw [qS3, if_neg (by omega)]; exact aS2_0
  have wS3 : wM S3 := wM.keep wS2 (fun r j h => by unfold wrow at h; rw [qS3, if_neg (by omega)])
  subst hQm
  exact q_vret hx hb hr hlocks hP hS ⟨rfl, rfl, (by rw [← eS3, ← eS2, ← eS1])⟩ (by decide) (by decide) dX4_setsColumn_37

set_option maxHeartbeats 4000000 in
set_option maxRecDepth 100000 in
theorem c_X4_isRight (l : Launch) (g : GT) (base : Nat) (ad : Nat → Nat → Nat) (S : St) (x q : Int) (hw : wM S) (hxx : 0 ≤ x ∧ x < 20) (hqq : 1 ≤ q ∧ q < 24) (hfc : ∀ j, 0 ≤ j → j < 480 → 0 ≤ S 0 23 j ∧ S 0 23 j ≤ 24) : Met l yX4_isRight [Cond.code yX4_isRight cX4_isRight 4 (some FieldType.boolean)] ({ frames := 0, cells := 0, slots := 0, locals := 0 }) (va_Pc [.ref (ad 0 0), .int (i32 (x)), .int (i32 (q))] (PK g base ad S)) (gQ g base (an (some (.int (i32 (b2 (riM S x q))))) ad S)) 0 0 (fun q => base ≤ q) := by
  refine mk_m (own := RX4) (lv0 := [(0, .ref (ad 0 0)), (1, .int (i32 (x))), (2, .int (i32 (q)))]) (by decide) rfl (Nat.le_of_ble_eq_true rfl) rfl ?_
  intro p e s m below meth cz av Qm hx hb hr hml hown hlocks hK hZ hP hQm ls hl
  have hS : va_S (fun q => base ≤ q) s.heap s.heap [] := va_S.rf
  have rS : ∀ (a1 b1 : Nat) (i1 : Int), rng (S a1 b1 i1) := fun a1 b1 i1 => hP.rg a1 b1 i1
  refine lv_bipush (v := i32 (24)) hx hb dX4_isRight_0 (by decide) ?_
  refine lv_iload_n hx hb dX4_isRight_2 rfl (lv_at hl 1 rfl) ?_
  refine q_imul hx hb dX4_isRight_3 ?_
  refine lv_iload_n hx hb dX4_isRight_4 rfl (lv_at hl 2 rfl) ?_
  refine q_iadd hx hb dX4_isRight_5 ?_
  refine lv_istore_n (lv' := [(3, .int (i32 ((24 * x) + q))), (0, .ref (ad 0 0)), (1, .int (i32 (x))), (2, .int (i32 (q)))]) hx hb dX4_isRight_6 rfl hl (by decide) rfl (fun ls hl => ?_)
  refine lv_aload_n hx hb dX4_isRight_7 rfl (lv_at hl 1 rfl) ?_
  refine p_get (k := 0) hx hb hown hK hP hw.al rfl rfl rfl (lay_X4 hK) 21 719 (by decide) t_719 rfl rfl dX4_isRight_8 ?_
  refine lv_iload_n hx hb dX4_isRight_11 rfl (lv_at hl 0 rfl) ?_
  refine lv_iconst (v := i32 (1)) hx hb dX4_isRight_12 rfl ?_
  refine q_isub hx hb dX4_isRight_13 ?_
  refine p_iald (k := 0) (r := 22) (n := 480) hx hb hK hP hw.al rfl rfl (by decide) (by decide) (by omega) (by omega) dX4_isRight_14 ?_
  refine lv_aload_n hx hb dX4_isRight_15 rfl (lv_at hl 1 rfl) ?_
  refine p_get (k := 0) hx hb hown hK hP hw.al rfl rfl rfl (lay_X4 hK) 21 719 (by decide) t_719 rfl rfl dX4_isRight_16 ?_
  refine lv_iload_n hx hb dX4_isRight_19 rfl (lv_at hl 0 rfl) ?_
  refine p_iald (k := 0) (r := 22) (n := 480) hx hb hK hP hw.al rfl rfl (by decide) (by decide) (by omega) (by omega) dX4_isRight_20 ?_
  have J48 : ∀ (H : Heap) (locs : List Loc), pic g base ad S H → va_S (fun q => base ≤ q) s.heap H locs → W p l e ({ frames := 0, cells := 0, slots := 0, locals := 0 } : Room) s m av below meth cz H locs 0 0 Qm (F0 m 48 ls (Value.int (i32 (b2 (((S 0 22 (((24 * x) + q) - 1)) = (S 0 22 ((24 * x) + q))) ∧ (((S 0 23 (((24 * x) + q) - 1)) + 1) = (S 0 23 ((24 * x) + q)))))) :: [])) := by
    intro H locs hP hS
    refine q_nm (b2_c (show (((S 0 22 (((24 * x) + q) - 1)) = (S 0 22 ((24 * x) + q))) ∧ (((S 0 23 (((24 * x) + q) - 1)) + 1) = (S 0 23 ((24 * x) + q)))) ↔ (riM S x q) from by exact Iff.rfl)) ?_
    subst hQm
    exact q_zret hx hb hr hlocks hP hS (b2_01 _) ⟨rfl, rfl, rfl⟩ (by decide) (by decide) dX4_isRight_48
  refine q_icmp_ne (tgt := 47) hx hb (hP.rg _ _ _) (hP.rg _ _ _) dX4_isRight_21 (by decide) (fun c_1 => ?_) (fun c_1 => ?_)
  · -- (S 0 22 (((24 * x) + q) - 1)) ≠ (S 0 22 ((24 * x) + q))
    refine lv_iconst (v := i32 (0)) hx hb dX4_isRight_47 rfl ?_
    refine q_nm (b2_f (show ¬ (((S 0 22 (((24 * x) + q) - 1)) = (S 0 22 ((24 * x) + q))) ∧ (((S 0 23 (((24 * x) + q) - 1)) + 1) = (S 0 23 ((24 * x) + q)))) from by first | omega | (simp only [*]; done) | simp_all)).symm ?_
    exact J48 _ _ hP hS
  · -- (S 0 22 (((24 * x) + q) - 1)) = (S 0 22 ((24 * x) + q))
    refine lv_aload_n hx hb dX4_isRight_24 rfl (lv_at hl 1 rfl) ?_
    refine p_get (k := 0) hx hb hown hK hP hw.al rfl rfl rfl (lay_X4 hK) 22 720 (by decide) t_720 rfl rfl dX4_isRight_25 ?_
    refine lv_iload_n hx hb dX4_isRight_28 rfl (lv_at hl 0 rfl) ?_
    refine lv_iconst (v := i32 (1)) hx hb dX4_isRight_29 rfl ?_
    refine q_isub hx hb dX4_isRight_30 ?_
    refine p_iald (k := 0) (r := 23) (n := 480) hx hb hK hP hw.al rfl rfl (by decide) (by decide) (by omega) (by omega) dX4_isRight_31 ?_
    refine lv_iconst (v := i32 (1)) hx hb dX4_isRight_32 rfl ?_
    refine q_iadd hx hb dX4_isRight_33 ?_
    obtain ⟨hf1, hf2⟩ := hfc (24 * x + q - 1) (by omega) (by omega)
    refine lv_aload_n hx hb dX4_isRight_34 rfl (lv_at hl 1 rfl) ?_
    refine p_get (k := 0) hx hb hown hK hP hw.al rfl rfl rfl (lay_X4 hK) 22 720 (by decide) t_720 rfl rfl dX4_isRight_35 ?_
    refine lv_iload_n hx hb dX4_isRight_38 rfl (lv_at hl 0 rfl) ?_
    refine p_iald (k := 0) (r := 23) (n := 480) hx hb hK hP hw.al rfl rfl (by decide) (by decide) (by omega) (by omega) dX4_isRight_39 ?_
    refine q_icmp_ne (tgt := 47) hx hb ⟨by omega, by omega⟩ (hP.rg _ _ _) dX4_isRight_40 (by decide) (fun c_2 => ?_) (fun c_2 => ?_)
    · -- ((S 0 23 (((24 * x) + q) - 1)) + 1) ≠ (S 0 23 ((24 * x) + q))
      refine lv_iconst (v := i32 (0)) hx hb dX4_isRight_47 rfl ?_
      refine q_nm (b2_f (show ¬ (((S 0 22 (((24 * x) + q) - 1)) = (S 0 22 ((24 * x) + q))) ∧ (((S 0 23 (((24 * x) + q) - 1)) + 1) = (S 0 23 ((24 * x) + q)))) from by first | omega | (simp only [*]; done) | simp_all)).symm ?_
      exact J48 _ _ hP hS
    · -- ((S 0 23 (((24 * x) + q) - 1)) + 1) = (S 0 23 ((24 * x) + q))
      refine lv_iconst (v := i32 (1)) hx hb dX4_isRight_43 rfl ?_
      refine lv_goto (tgt := 48) hx hb dX4_isRight_44 (by decide) ?_
      refine q_nm (b2_t (show ((S 0 22 (((24 * x) + q) - 1)) = (S 0 22 ((24 * x) + q))) ∧ (((S 0 23 (((24 * x) + q) - 1)) + 1) = (S 0 23 ((24 * x) + q))) from by first | omega | (simp only [*]; done) | simp_all)).symm ?_
      exact J48 _ _ hP hS
