set_option maxHeartbeats 4000000 in
set_option maxRecDepth 100000 in
theorem c_X4_pieceIs (l : Launch) (g : GT) (base : Nat) (ad : Nat → Nat → Nat) (S : St) (x w : Int) (hw : wM S) (hrn : rng x) (hrn2 : rng w) : Met l yX4_pieceIs [Cond.code yX4_pieceIs cX4_pieceIs 3 (some FieldType.int)] ({ frames := 4, cells := 0, slots := 0, locals := 93 }) (va_Pc [.ref (ad 0 0), .int (i32 (x)), .int (i32 (w))] (PK g base ad S)) (gQ g base (mP ad (isP S x) (0 ≤ w ∧ w ≤ 5) (True) S (some (.int (i32 (pcM (st S 0 0 27 (thr (isP S x) (0 ≤ w ∧ w ≤ 5) (True))) x w)))) (fun Z => Z = (st S 0 0 27 (thr (isP S x) (0 ≤ w ∧ w ≤ 5) (True)))))) 0 0 (fun q => base ≤ q) := by
  refine mk_m (own := RX4) (lv0 := [(0, .ref (ad 0 0)), (1, .int (i32 (x))), (2, .int (i32 (w)))]) (by decide) rfl (Nat.le_of_ble_eq_true rfl) rfl ?_
  intro p e s m below meth cz av Qm hx hb hr hml hown hlocks hK hZ hP hQm ls hl
  have hS : va_S (fun q => base ≤ q) s.heap s.heap [] := va_S.rf
  have rS : ∀ (a1 b1 : Nat) (i1 : Int), rng (S a1 b1 i1) := fun a1 b1 i1 => hP.rg a1 b1 i1
  obtain ⟨hp1, hp2⟩ := hw.ps
  refine lv_aload_n hx hb dX4_pieceIs_0 rfl (lv_at hl 0 rfl) ?_
  refine lv_aload_n hx hb dX4_pieceIs_1 rfl (lv_at hl 0 rfl) ?_
  refine lv_iload_n hx hb dX4_pieceIs_2 rfl (lv_at hl 1 rfl) ?_
  refine q_callV (k := 0) hx hb hml hl.1 hown hK hZ hP hS hw.al rfl rfl rfl (c_X4_isPiece l g base ad S x hw hrn) t_861 t_19 (q_callB hK 859 36 862 t_859 t_36 t_862 f_yX4_isPiece ⟨by decide, by decide⟩) rfl rfl (Nat.le_of_ble_eq_true rfl) dX4_pieceIs_3 ⟨by decide, by decide⟩  (q_an (fun H locs hP hS => ?_))
  refine lv_iload_n hx hb dX4_pieceIs_6 rfl (lv_at hl 2 rfl) ?_
  refine lv_iconst (v := i32 (0)) hx hb dX4_pieceIs_7 rfl ?_
  refine lv_iconst (v := i32 (5)) hx hb dX4_pieceIs_8 rfl ?_
  refine q_callS hx hb hml hl.1 hown hK hZ hP hS (c_X4_in l g base ad S w 0 5 hrn2 ⟨by decide, by decide⟩ ⟨by decide, by decide⟩) t_807 (q_callB hK 806 36 808 t_806 t_36 t_808 f_yX4_in ⟨by decide, by decide⟩) rfl rfl (Nat.le_of_ble_eq_true rfl) dX4_pieceIs_9 ⟨by decide, by decide⟩  (q_an (fun H locs hP hS => ?_))
  refine lv_iconst (v := i32 (1)) hx hb dX4_pieceIs_12 rfl ?_
  refine W.eq (g2 := F0 m 13 ls (Value.int (i32 (b2 (True))) :: Value.int (i32 (b2 (0 ≤ w ∧ w ≤ 5))) :: Value.int (i32 (b2 (isP S x))) :: Value.ref (ad 0 0) :: [])) (by simp only [b2_t trivial, b2_f not_false] <;> rfl) ?_
  refine q_callV (k := 0) hx hb hml hl.1 hown hK hZ hP hS hw.al rfl rfl rfl (c_X4_goes l g base ad S (isP S x) (0 ≤ w ∧ w ≤ 5) True hw.al) t_796 t_14 (q_callB hK 794 36 797 t_794 t_36 t_797 f_yX4_goes ⟨by decide, by decide⟩) rfl rfl (Nat.le_of_ble_eq_true rfl) dX4_pieceIs_13 ⟨by decide, by decide⟩  (q_an (fun H locs hP hS => ?_))
  generalize eS1 : st S 0 0 27 (thr (isP S x) (0 ≤ w ∧ w ≤ 5) True) = S1 at hP
  have rS1 : ∀ (a1 b1 : Nat) (i1 : Int), rng (S1 a1 b1 i1) := fun a1 b1 i1 => hP.rg a1 b1 i1
  have qS1 : ∀ (a1 b1 : Nat) (i1 : Int), S1 a1 b1 i1 = if a1 = 0 ∧ b1 = 0 ∧ i1 = 27 then thr (isP S x) (0 ≤ w ∧ w ≤ 5) True else S a1 b1 i1 := fun a1 b1 i1 => by rw [← eS1]; exact st_at _ _ _ _ _ _ _ _
  have aS1_0 : S1 0 0 (-1) = 1 := by rw [qS1, if_neg (by omega)]; exact hw.al
  have wS1 : wM S1 := wM.keep hw (fun r j h => by unfold wrow at h; rw [qS1, if_neg (by omega)])
  refine q_if_neb (tgt := 21) hx hb dX4_pieceIs_16 (by decide) (fun c_2 => ?_) (fun c_2 => ?_)
  · -- (isP S x) ∧ (0 ≤ w ∧ w ≤ 5) ∧ True
    obtain ⟨⟨hq1, hq2, hq3⟩, ⟨hw1, hw2⟩, -⟩ := id c_2
    obtain ⟨hc1, hc2, hr1, hr2, hv1, hv2, hd1, hd2⟩ := hw.pc x (by omega) (by omega)
    have hrw := hw.pr x (by omega) (by omega)
    have y14 : S1 0 0 14 = S 0 0 14 := by rw [qS1, if_neg (by omega)]
    have y16 : S1 0 16 x = S 0 16 x := by rw [qS1, if_neg (by omega)]
    have y17 : S1 0 17 x = S 0 17 x := by rw [qS1, if_neg (by omega)]
    have y18 : S1 0 18 x = S 0 18 x := by rw [qS1, if_neg (by omega)]
    refine lv_iload_n hx hb dX4_pieceIs_21 rfl (lv_at hl 2 rfl) ?_
    by_cases w_3_0 : w = 0
    · have hw : (i32 w).toInt = 0 := by rw [i32_toInt hrn2]; exact w_3_0
      refine lv_tableIn (off := 34) (tgt := 56) hx hb dX4_pieceIs_22 (by rw [hw]; decide) (by rw [hw]; decide) (by rw [hw]; rfl) (by decide) ?_
      refine lv_aload_n hx hb dX4_pieceIs_56 rfl (lv_at hl 0 rfl) ?_
      refine p_get (k := 0) hx hb hown hK hP aS1_0 rfl rfl rfl (lay_X4 hK) 15 713 (by decide) t_713 rfl rfl dX4_pieceIs_57 ?_
      refine lv_iload_n hx hb dX4_pieceIs_60 rfl (lv_at hl 1 rfl) ?_
      refine p_iald (k := 0) (r := 16) (n := 20) hx hb hK hP aS1_0 rfl rfl (by decide) (by decide) (by omega) (by omega) dX4_pieceIs_61 ?_
      refine q_nm (show S1 0 16 x = S 0 16 x from by rw [qS1, if_neg (by omega)]) ?_
      subst hQm
      exact q_iret hx hb hr hlocks hP hS (by exact ⟨rfl, Or.inr ⟨c_2, (ri (by rw [eS1, pcM_0 (by omega)]; omega)), eS1.symm⟩⟩) (by decide) (by decide) dX4_pieceIs_62
    by_cases w_3_1 : w = 1
    · have hw : (i32 w).toInt = 1 := by rw [i32_toInt hrn2]; exact w_3_1
      refine lv_tableIn (off := 41) (tgt := 63) hx hb dX4_pieceIs_22 (by rw [hw]; decide) (by rw [hw]; decide) (by rw [hw]; rfl) (by decide) ?_
      refine lv_aload_n hx hb dX4_pieceIs_63 rfl (lv_at hl 0 rfl) ?_
      refine p_get (k := 0) hx hb hown hK hP aS1_0 rfl rfl rfl (lay_X4 hK) 16 714 (by decide) t_714 rfl rfl dX4_pieceIs_64 ?_
      refine lv_iload_n hx hb dX4_pieceIs_67 rfl (lv_at hl 1 rfl) ?_
      refine p_iald (k := 0) (r := 17) (n := 20) hx hb hK hP aS1_0 rfl rfl (by decide) (by decide) (by omega) (by omega) dX4_pieceIs_68 ?_
      refine q_nm (show S1 0 17 x = S 0 17 x from by rw [qS1, if_neg (by omega)]) ?_
      subst hQm
      exact q_iret hx hb hr hlocks hP hS (by exact ⟨rfl, Or.inr ⟨c_2, (ri (by rw [eS1, pcM_1 (by omega)]; omega)), eS1.symm⟩⟩) (by decide) (by decide) dX4_pieceIs_69
    by_cases w_3_2 : w = 2
    · have hw : (i32 w).toInt = 2 := by rw [i32_toInt hrn2]; exact w_3_2
      refine lv_tableIn (off := 48) (tgt := 70) hx hb dX4_pieceIs_22 (by rw [hw]; decide) (by rw [hw]; decide) (by rw [hw]; rfl) (by decide) ?_
      refine lv_aload_n hx hb dX4_pieceIs_70 rfl (lv_at hl 0 rfl) ?_
      refine lv_iload_n hx hb dX4_pieceIs_71 rfl (lv_at hl 1 rfl) ?_
      refine q_callV (k := 0) hx hb hml hl.1 hown hK hZ hP hS aS1_0 rfl rfl rfl (c_X4_wovenIn l g base ad S1 x wS1 (by omega) (by omega)) t_881 t_23 (q_callB hK 879 36 882 t_879 t_36 t_882 f_yX4_wovenIn ⟨by decide, by decide⟩) rfl rfl (Nat.le_of_ble_eq_true rfl) dX4_pieceIs_72 ⟨by decide, by decide⟩  (q_an (fun H locs hP hS => ?_))
      subst hQm
      exact q_iret hx hb hr hlocks hP hS (by exact ⟨rfl, Or.inr ⟨c_2, (ri (by rw [eS1, pcM_2 (by omega)])), eS1.symm⟩⟩) (by decide) (by decide) dX4_pieceIs_75
    by_cases w_3_3 : w = 3
    · have hw : (i32 w).toInt = 3 := by rw [i32_toInt hrn2]; exact w_3_3
      refine lv_tableIn (off := 54) (tgt := 76) hx hb dX4_pieceIs_22 (by rw [hw]; decide) (by rw [hw]; decide) (by rw [hw]; rfl) (by decide) ?_
      refine lv_aload_n hx hb dX4_pieceIs_76 rfl (lv_at hl 0 rfl) ?_
      refine lv_iload_n hx hb dX4_pieceIs_77 rfl (lv_at hl 1 rfl) ?_
      refine q_callV (k := 0) hx hb hml hl.1 hown hK hZ hP hS aS1_0 rfl rfl rfl (c_X4_isDone l g base ad S1 x wS1 (by omega)) t_885 t_24 (q_callB hK 883 36 886 t_883 t_36 t_886 f_yX4_isDone ⟨by decide, by decide⟩) rfl rfl (Nat.le_of_ble_eq_true rfl) dX4_pieceIs_78 ⟨by decide, by decide⟩  (q_an (fun H locs hP hS => ?_))
      have J89 : ∀ (H : Heap) (locs : List Loc), pic g base ad S1 H → va_S (fun q => base ≤ q) s.heap H locs → W p l e ({ frames := 4, cells := 0, slots := 0, locals := 93 } : Room) s m av below meth cz H locs 0 0 Qm (F0 m 89 ls (Value.int (i32 (b2 ((dnM S1 x)))) :: [])) := by
        intro H locs hP hS
        subst hQm
        exact q_iret hx hb hr hlocks hP hS (by exact ⟨rfl, Or.inr ⟨c_2, (ri (by rw [eS1, pcM_3 (by omega)])), eS1.symm⟩⟩) (by decide) (by decide) dX4_pieceIs_89
      refine q_if_eqb (tgt := 88) hx hb dX4_pieceIs_81 (by decide) (fun c_4 => ?_) (fun c_4 => ?_)
      · -- ¬ (dnM S1 x)
        refine lv_iconst (v := i32 (0)) hx hb dX4_pieceIs_88 rfl ?_
        refine q_nm (b2_f (show ¬ ((dnM S1 x)) from by first | omega | (simp only [*]; done) | simp_all)).symm ?_
        exact J89 _ _ hP hS
      · -- dnM S1 x
        refine lv_iconst (v := i32 (1)) hx hb dX4_pieceIs_84 rfl ?_
        refine lv_goto (tgt := 89) hx hb dX4_pieceIs_85 (by decide) ?_
        refine q_nm (b2_t (show (dnM S1 x) from by first | omega | (simp only [*]; done) | simp_all)).symm ?_
        exact J89 _ _ hP hS
    by_cases w_3_4 : w = 4
    · have hw : (i32 w).toInt = 4 := by rw [i32_toInt hrn2]; exact w_3_4
      refine lv_tableIn (off := 68) (tgt := 90) hx hb dX4_pieceIs_22 (by rw [hw]; decide) (by rw [hw]; decide) (by rw [hw]; rfl) (by decide) ?_
      refine lv_aload_n hx hb dX4_pieceIs_90 rfl (lv_at hl 0 rfl) ?_
      refine lv_iload_n hx hb dX4_pieceIs_91 rfl (lv_at hl 1 rfl) ?_
      refine q_callV (k := 0) hx hb hml hl.1 hown hK hZ hP hS aS1_0 rfl rfl rfl (c_X4_slits l g base ad S1 x wS1 (by omega)) t_889 t_25 (q_callB hK 887 36 890 t_887 t_36 t_890 f_yX4_slits ⟨by decide, by decide⟩) rfl rfl (Nat.le_of_ble_eq_true rfl) dX4_pieceIs_92 ⟨by decide, by decide⟩  (q_an (fun H locs hP hS => ?_))
      subst hQm
      exact q_iret hx hb hr hlocks hP hS (by exact ⟨rfl, Or.inr ⟨c_2, (ri (by rw [eS1, pcM_4 (by omega)])), eS1.symm⟩⟩) (by decide) (by decide) dX4_pieceIs_95
    have hdf : ∀ (H : Heap) (locs : List Loc), pic g base ad S1 H → va_S (fun q => base ≤ q) s.heap H locs → W p l e ({ frames := 4, cells := 0, slots := 0, locals := 93 } : Room) s m av below meth cz H locs 0 0 Qm (F0 m 96 ls ([])) := by
      intro H locs hP hS
      refine lv_aload_n hx hb dX4_pieceIs_96 rfl (lv_at hl 0 rfl) ?_
      refine lv_iload_n hx hb dX4_pieceIs_97 rfl (lv_at hl 1 rfl) ?_
      refine q_callV (k := 0) hx hb hml hl.1 hown hK hZ hP hS aS1_0 rfl rfl rfl (c_X4_shades l g base ad S1 x wS1 (by omega) (by omega)) t_901 t_28 (q_callB hK 899 36 902 t_899 t_36 t_902 f_yX4_shades ⟨by decide, by decide⟩) rfl rfl (Nat.le_of_ble_eq_true rfl) dX4_pieceIs_98 ⟨by decide, by decide⟩  (q_an (fun H locs hP hS => ?_))
      subst hQm
      exact q_iret hx hb hr hlocks hP hS (by exact ⟨rfl, Or.inr ⟨c_2, (ri (by rw [eS1, pcM_5 (by omega)])), eS1.symm⟩⟩) (by decide) (by decide) dX4_pieceIs_101
    exact lv_tableOut (tgt := 96) hx hb dX4_pieceIs_22 (by rw [i32_toInt hrn2]; omega) (by decide) (hdf _ _ hP hS)
  · -- ¬ ((isP S x) ∧ (0 ≤ w ∧ w ≤ 5) ∧ True)
    refine lv_iconst (v := i32 (0)) hx hb dX4_pieceIs_19 rfl ?_
    subst hQm
    exact q_iret hx hb hr hlocks hP hS (by subst eS1; exact ⟨rfl, Or.inl ⟨c_2, rfl, rfl⟩⟩) (by decide) (by decide) dX4_pieceIs_20

set_option maxHeartbeats 4000000 in
set_option maxRecDepth 100000 in
theorem c_X4_cell (l : Launch) (g : GT) (base : Nat) (ad : Nat → Nat → Nat) (S : St) (x r q w : Int) (hw : wM S) (hrn : rng x) (hrn2 : rng r) (hrn3 : rng q) (hrn4 : rng w) : Met l yX4_cell [Cond.code yX4_cell cX4_cell 7 (some FieldType.int)] ({ frames := 2, cells := 0, slots := 0, locals := 43 }) (va_Pc [.ref (ad 0 0), .int (i32 (x)), .int (i32 (r)), .int (i32 (q)), .int (i32 (w))] (PK g base ad S)) (gQ g base (mP ad ((isP S x) ∧ (0 ≤ r ∧ r ≤ ((S 0 17 x) - 1)) ∧ (0 ≤ q ∧ q ≤ ((S 0 16 x) - 1))) (0 ≤ w ∧ w ≤ 2) (True) S (some (.int (i32 (ceM S x r q w)))) (fun Z => Z = (st S 0 0 27 (thr ((isP S x) ∧ (0 ≤ r ∧ r ≤ ((S 0 17 x) - 1)) ∧ (0 ≤ q ∧ q ≤ ((S 0 16 x) - 1))) (0 ≤ w ∧ w ≤ 2) (True)))))) 0 0 (fun q => base ≤ q) := by
  refine mk_m (own := RX4) (lv0 := [(0, .ref (ad 0 0)), (1, .int (i32 (x))), (2, .int (i32 (r))), (3, .int (i32 (q))), (4, .int (i32 (w)))]) (by decide) rfl (Nat.le_of_ble_eq_true rfl) rfl ?_
  intro p e s m below meth cz av Qm hx hb hr hml hown hlocks hK hZ hP hQm ls hl
  have hS : va_S (fun q => base ≤ q) s.heap s.heap [] := va_S.rf
  have rS : ∀ (a1 b1 : Nat) (i1 : Int), rng (S a1 b1 i1) := fun a1 b1 i1 => hP.rg a1 b1 i1
  obtain ⟨hp1, hp2⟩ := hw.ps
  refine lv_aload_n hx hb dX4_cell_0 rfl (lv_at hl 0 rfl) ?_
  refine lv_iload_n hx hb dX4_cell_1 rfl (lv_at hl 1 rfl) ?_
  refine q_callV (k := 0) hx hb hml hl.1 hown hK hZ hP hS hw.al rfl rfl rfl (c_X4_isPiece l g base ad S x hw hrn) t_861 t_19 (q_callB hK 859 36 862 t_859 t_36 t_862 f_yX4_isPiece ⟨by decide, by decide⟩) rfl rfl (Nat.le_of_ble_eq_true rfl) dX4_cell_2 ⟨by decide, by decide⟩  (q_an (fun H locs hP hS => ?_))
  have J69 : ∀ (H : Heap) (locs : List Loc), pic g base ad S H → va_S (fun q => base ≤ q) s.heap H locs → W p l e ({ frames := 2, cells := 0, slots := 0, locals := 43 } : Room) s m av below meth cz H locs 0 0 Qm (F0 m 69 ls (Value.int (i32 (b2 ((isP S x) ∧ (0 ≤ r ∧ r ≤ ((S 0 17 x) - 1)) ∧ (0 ≤ q ∧ q ≤ ((S 0 16 x) - 1))))) :: [])) := by
    intro H locs hP hS
    refine lv_istore (lv' := [(5, .int (i32 (b2 ((isP S x) ∧ (0 ≤ r ∧ r ≤ ((S 0 17 x) - 1)) ∧ (0 ≤ q ∧ q ≤ ((S 0 16 x) - 1)))))), (0, .ref (ad 0 0)), (1, .int (i32 (x))), (2, .int (i32 (r))), (3, .int (i32 (q))), (4, .int (i32 (w)))]) hx hb dX4_cell_69 hl (by decide) rfl (fun ls hl => ?_)
    refine lv_aload_n hx hb dX4_cell_71 rfl (lv_at hl 1 rfl) ?_
    refine lv_iload hx hb dX4_cell_72 (lv_at hl 0 rfl) ?_
    refine lv_iload hx hb dX4_cell_74 (lv_at hl 5 rfl) ?_
    refine lv_iconst (v := i32 (0)) hx hb dX4_cell_76 rfl ?_
    refine lv_iconst (v := i32 (2)) hx hb dX4_cell_77 rfl ?_
    refine q_callS hx hb hml hl.1 hown hK hZ hP hS (c_X4_in l g base ad S w 0 2 hrn4 ⟨by decide, by decide⟩ ⟨by decide, by decide⟩) t_807 (q_callB hK 806 36 808 t_806 t_36 t_808 f_yX4_in ⟨by decide, by decide⟩) rfl rfl (Nat.le_of_ble_eq_true rfl) dX4_cell_78 ⟨by decide, by decide⟩  (q_an (fun H locs hP hS => ?_))
    refine lv_iconst (v := i32 (1)) hx hb dX4_cell_81 rfl ?_
    refine W.eq (g2 := F0 m 82 ls (Value.int (i32 (b2 (True))) :: Value.int (i32 (b2 (0 ≤ w ∧ w ≤ 2))) :: Value.int (i32 (b2 ((isP S x) ∧ (0 ≤ r ∧ r ≤ ((S 0 17 x) - 1)) ∧ (0 ≤ q ∧ q ≤ ((S 0 16 x) - 1))))) :: Value.ref (ad 0 0) :: [])) (by simp only [b2_t trivial, b2_f not_false] <;> rfl) ?_
    refine q_callV (k := 0) hx hb hml hl.1 hown hK hZ hP hS hw.al rfl rfl rfl (c_X4_goes l g base ad S ((isP S x) ∧ (0 ≤ r ∧ r ≤ ((S 0 17 x) - 1)) ∧ (0 ≤ q ∧ q ≤ ((S 0 16 x) - 1))) (0 ≤ w ∧ w ≤ 2) True hw.al) t_796 t_14 (q_callB hK 794 36 797 t_794 t_36 t_797 f_yX4_goes ⟨by decide, by decide⟩) rfl rfl (Nat.le_of_ble_eq_true rfl) dX4_cell_82 ⟨by decide, by decide⟩  (q_an (fun H locs hP hS => ?_))
    generalize eS1 : st S 0 0 27 (thr ((isP S x) ∧ (0 ≤ r ∧ r ≤ ((S 0 17 x) - 1)) ∧ (0 ≤ q ∧ q ≤ ((S 0 16 x) - 1))) (0 ≤ w ∧ w ≤ 2) True) = S1 at hP
    have rS1 : ∀ (a1 b1 : Nat) (i1 : Int), rng (S1 a1 b1 i1) := fun a1 b1 i1 => hP.rg a1 b1 i1
    have qS1 : ∀ (a1 b1 : Nat) (i1 : Int), S1 a1 b1 i1 = if a1 = 0 ∧ b1 = 0 ∧ i1 = 27 then thr ((isP S x) ∧ (0 ≤ r ∧ r ≤ ((S 0 17 x) - 1)) ∧ (0 ≤ q ∧ q ≤ ((S 0 16 x) - 1))) (0 ≤ w ∧ w ≤ 2) True else S a1 b1 i1 := fun a1 b1 i1 => by rw [← eS1]; exact st_at _ _ _ _ _ _ _ _
    have aS1_0 : S1 0 0 (-1) = 1 := by rw [qS1, if_neg (by omega)]; exact hw.al
    have wS1 : wM S1 := wM.keep hw (fun r j h => by unfold wrow at h; rw [qS1, if_neg (by omega)])
    refine q_if_neb (tgt := 90) hx hb dX4_cell_85 (by decide) (fun c_2 => ?_) (fun c_2 => ?_)
    · -- ((isP S x) ∧ (0 ≤ r ∧ r ≤ ((S 0 17 x) - 1)) ∧ (0 ≤ q ∧ q ≤ ((S 0 16 x) - 1))) ∧ (0 ≤ w ∧ w ≤ 2) ∧ True
      obtain ⟨⟨⟨hq1, hq2, hq3⟩, ⟨hq4, hq5⟩, hq6, hq7⟩, ⟨hw1, hw2⟩, -⟩ := id c_2
      obtain ⟨hc1, hc2, hr1, hr2, hv1, hv2, hd1, hd2⟩ := hw.pc x (by omega) (by omega)
      have hrw := hw.pr x (by omega) (by omega)
      have y14 : S1 0 0 14 = S 0 0 14 := by rw [qS1, if_neg (by omega)]
      have y16 : S1 0 16 x = S 0 16 x := by rw [qS1, if_neg (by omega)]
      have y17 : S1 0 17 x = S 0 17 x := by rw [qS1, if_neg (by omega)]
      have y18 : S1 0 18 x = S 0 18 x := by rw [qS1, if_neg (by omega)]
      refine lv_iload_n hx hb dX4_cell_90 rfl (lv_at hl 2 rfl) ?_
      refine lv_iload_n hx hb dX4_cell_91 rfl (lv_at hl 4 rfl) ?_
      refine lv_iload_n hx hb dX4_cell_92 rfl (lv_at hl 3 rfl) ?_
      refine q_callS hx hb hml hl.1 hown hK hZ hP hS (c_X4_at l g base ad S1 x q r ) t_841 (q_callB hK 840 36 842 t_840 t_36 t_842 f_yX4_at ⟨by decide, by decide⟩) rfl rfl (Nat.le_of_ble_eq_true rfl) dX4_cell_93 ⟨by decide, by decide⟩  (q_an (fun H locs hP hS => ?_))
      refine lv_istore (lv' := [(6, .int (i32 (240 * x + 10 * q + r))), (5, .int (i32 (b2 ((isP S x) ∧ (0 ≤ r ∧ r ≤ ((S 0 17 x) - 1)) ∧ (0 ≤ q ∧ q ≤ ((S 0 16 x) - 1)))))), (0, .ref (ad 0 0)), (1, .int (i32 (x))), (2, .int (i32 (r))), (3, .int (i32 (q))), (4, .int (i32 (w)))]) hx hb dX4_cell_96 hl (by decide) rfl (fun ls hl => ?_)
      refine lv_iload hx hb dX4_cell_98 (lv_at hl 6 rfl) ?_
      refine q_if_ne (tgt := 113) hx hb hrn4 dX4_cell_100 (by decide) (fun c_3 => ?_) (fun c_3 => ?_)
      · -- w ≠ 0
        refine lv_iload hx hb dX4_cell_113 (lv_at hl 6 rfl) ?_
        refine lv_iconst (v := i32 (1)) hx hb dX4_cell_115 rfl ?_
        refine q_icmp_ne (tgt := 129) hx hb hrn4 ⟨by decide, by decide⟩ dX4_cell_116 (by decide) (fun c_4 => ?_) (fun c_4 => ?_)
        · -- w ≠ 1
          refine lv_aload_n hx hb dX4_cell_129 rfl (lv_at hl 2 rfl) ?_
          refine p_get (k := 0) hx hb hown hK hP aS1_0 rfl rfl rfl (lay_X4 hK) 26 724 (by decide) t_724 rfl rfl dX4_cell_130 ?_
          refine lv_iload hx hb dX4_cell_133 (lv_at hl 0 rfl) ?_
          refine p_iald (k := 0) (r := 27) (n := 4800) hx hb hK hP aS1_0 rfl rfl (by decide) (by decide) (by omega) (by omega) dX4_cell_135 ?_
          refine q_nm (show S1 0 27 (240 * x + 10 * q + r) = S 0 27 (240 * x + 10 * q + r) from by rw [qS1, if_neg (by omega)]) ?_
          subst hQm
          exact q_iret hx hb hr hlocks hP hS (by exact ⟨rfl, Or.inr ⟨c_2, (ri (by unfold ceM; first | (rw [cif_t (by omega)]; done) | (rw [cif_f (by omega), cif_t (by omega)]; done) | (rw [cif_f (by omega), cif_f (by omega)]; done))), eS1.symm⟩⟩) (by decide) (by decide) dX4_cell_136
        · -- w = 1
          refine lv_aload_n hx hb dX4_cell_119 rfl (lv_at hl 2 rfl) ?_
          refine p_get (k := 0) hx hb hown hK hP aS1_0 rfl rfl rfl (lay_X4 hK) 25 723 (by decide) t_723 rfl rfl dX4_cell_120 ?_
          refine lv_iload hx hb dX4_cell_123 (lv_at hl 0 rfl) ?_
          refine p_iald (k := 0) (r := 26) (n := 4800) hx hb hK hP aS1_0 rfl rfl (by decide) (by decide) (by omega) (by omega) dX4_cell_125 ?_
          refine q_nm (show S1 0 26 (240 * x + 10 * q + r) = S 0 26 (240 * x + 10 * q + r) from by rw [qS1, if_neg (by omega)]) ?_
          refine lv_goto (tgt := 136) hx hb dX4_cell_126 (by decide) ?_
          subst hQm
          exact q_iret hx hb hr hlocks hP hS (by exact ⟨rfl, Or.inr ⟨c_2, (ri (by unfold ceM; first | (rw [cif_t (by omega)]; done) | (rw [cif_f (by omega), cif_t (by omega)]; done) | (rw [cif_f (by omega), cif_f (by omega)]; done))), eS1.symm⟩⟩) (by decide) (by decide) dX4_cell_136
      · -- w = 0
        refine lv_aload_n hx hb dX4_cell_103 rfl (lv_at hl 2 rfl) ?_
        refine p_get (k := 0) hx hb hown hK hP aS1_0 rfl rfl rfl (lay_X4 hK) 24 722 (by decide) t_722 rfl rfl dX4_cell_104 ?_
        refine lv_iload hx hb dX4_cell_107 (lv_at hl 0 rfl) ?_
        refine p_iald (k := 0) (r := 25) (n := 4800) hx hb hK hP aS1_0 rfl rfl (by decide) (by decide) (by omega) (by omega) dX4_cell_109 ?_
        refine q_nm (show S1 0 25 (240 * x + 10 * q + r) = S 0 25 (240 * x + 10 * q + r) from by rw [qS1, if_neg (by omega)]) ?_
        refine lv_goto (tgt := 136) hx hb dX4_cell_110 (by decide) ?_
        subst hQm
        exact q_iret hx hb hr hlocks hP hS (by exact ⟨rfl, Or.inr ⟨c_2, (ri (by unfold ceM; first | (rw [cif_t (by omega)]; done) | (rw [cif_f (by omega), cif_t (by omega)]; done) | (rw [cif_f (by omega), cif_f (by omega)]; done))), eS1.symm⟩⟩) (by decide) (by decide) dX4_cell_136
    · -- ¬ (((isP S x) ∧ (0 ≤ r ∧ r ≤ ((S 0 17 x) - 1)) ∧ (0 ≤ q ∧ q ≤ ((S 0 16 x) - 1))) ∧ (0 ≤ w ∧ w ≤ 2) ∧ True)
      refine lv_iconst (v := i32 (0)) hx hb dX4_cell_88 rfl ?_
      subst hQm
      exact q_iret hx hb hr hlocks hP hS (by subst eS1; exact ⟨rfl, Or.inl ⟨c_2, rfl, rfl⟩⟩) (by decide) (by decide) dX4_cell_89
  refine q_if_eqb (tgt := 68) hx hb dX4_cell_5 (by decide) (fun c_5 => ?_) (fun c_5 => ?_)
  · -- ¬ (isP S x)
    refine lv_iconst (v := i32 (0)) hx hb dX4_cell_68 rfl ?_
    refine q_nm (b2_f (show ¬ ((isP S x) ∧ (0 ≤ r ∧ r ≤ ((S 0 17 x) - 1)) ∧ (0 ≤ q ∧ q ≤ ((S 0 16 x) - 1))) from by first | omega | (simp only [*]; done) | simp_all)).symm ?_
    exact J69 _ _ hP hS
  · -- isP S x
    obtain ⟨hq1, hq2, hq3⟩ := id c_5
    obtain ⟨hc1, hc2, hr1, hr2, hv1, hv2, hd1, hd2⟩ := hw.pc x (by omega) (by omega)
    refine lv_iload_n hx hb dX4_cell_8 rfl (lv_at hl 2 rfl) ?_
    refine lv_iconst (v := i32 (0)) hx hb dX4_cell_9 rfl ?_
    refine lv_aload_n hx hb dX4_cell_10 rfl (lv_at hl 0 rfl) ?_
    refine p_get (k := 0) hx hb hown hK hP hw.al rfl rfl rfl (lay_X4 hK) 16 714 (by decide) t_714 rfl rfl dX4_cell_11 ?_
    refine lv_aload_n hx hb dX4_cell_14 rfl (lv_at hl 0 rfl) ?_
    refine lv_iload_n hx hb dX4_cell_15 rfl (lv_at hl 1 rfl) ?_
    refine q_callV (k := 0) hx hb hml hl.1 hown hK hZ hP hS hw.al rfl rfl rfl (c_X4_isPiece l g base ad S x hw hrn) t_861 t_19 (q_callB hK 859 36 862 t_859 t_36 t_862 f_yX4_isPiece ⟨by decide, by decide⟩) rfl rfl (Nat.le_of_ble_eq_true rfl) dX4_cell_16 ⟨by decide, by decide⟩  (q_an (fun H locs hP hS => ?_))
    refine q_if_eqb (tgt := 26) hx hb dX4_cell_19 (by decide) (fun h => by first | exact absurd c_5 h | exact absurd h c_5 | omega) (fun _ => ?_)
    refine lv_iload_n hx hb dX4_cell_22 rfl (lv_at hl 1 rfl) ?_
    refine lv_goto (tgt := 27) hx hb dX4_cell_23 (by decide) ?_
    refine p_iald (k := 0) (r := 17) (n := 20) hx hb hK hP hw.al rfl rfl (by decide) (by decide) (by omega) (by omega) dX4_cell_27 ?_
    refine lv_iconst (v := i32 (1)) hx hb dX4_cell_28 rfl ?_
    refine q_isub hx hb dX4_cell_29 ?_
    refine q_callS hx hb hml hl.1 hown hK hZ hP hS (c_X4_in l g base ad S r 0 ((S 0 17 x) - 1) hrn2 ⟨by decide, by decide⟩ ⟨by omega, by omega⟩) t_807 (q_callB hK 806 36 808 t_806 t_36 t_808 f_yX4_in ⟨by decide, by decide⟩) rfl rfl (Nat.le_of_ble_eq_true rfl) dX4_cell_30 ⟨by decide, by decide⟩  (q_an (fun H locs hP hS => ?_))
    refine q_if_eqb (tgt := 68) hx hb dX4_cell_33 (by decide) (fun c_6 => ?_) (fun c_6 => ?_)
    · -- ¬ (0 ≤ r ∧ r ≤ ((S 0 17 x) - 1))
      refine lv_iconst (v := i32 (0)) hx hb dX4_cell_68 rfl ?_
      refine q_nm (b2_f (show ¬ ((isP S x) ∧ (0 ≤ r ∧ r ≤ ((S 0 17 x) - 1)) ∧ (0 ≤ q ∧ q ≤ ((S 0 16 x) - 1))) from by first | omega | (simp only [*]; done) | simp_all)).symm ?_
      exact J69 _ _ hP hS
    · -- 0 ≤ r ∧ r ≤ ((S 0 17 x) - 1)
      refine lv_iload_n hx hb dX4_cell_36 rfl (lv_at hl 3 rfl) ?_
      refine lv_iconst (v := i32 (0)) hx hb dX4_cell_37 rfl ?_
      refine lv_aload_n hx hb dX4_cell_38 rfl (lv_at hl 0 rfl) ?_
      refine p_get (k := 0) hx hb hown hK hP hw.al rfl rfl rfl (lay_X4 hK) 15 713 (by decide) t_713 rfl rfl dX4_cell_39 ?_
      refine lv_aload_n hx hb dX4_cell_42 rfl (lv_at hl 0 rfl) ?_
      refine lv_iload_n hx hb dX4_cell_43 rfl (lv_at hl 1 rfl) ?_
      refine q_callV (k := 0) hx hb hml hl.1 hown hK hZ hP hS hw.al rfl rfl rfl (c_X4_isPiece l g base ad S x hw hrn) t_861 t_19 (q_callB hK 859 36 862 t_859 t_36 t_862 f_yX4_isPiece ⟨by decide, by decide⟩) rfl rfl (Nat.le_of_ble_eq_true rfl) dX4_cell_44 ⟨by decide, by decide⟩  (q_an (fun H locs hP hS => ?_))
      refine q_if_eqb (tgt := 54) hx hb dX4_cell_47 (by decide) (fun h => by first | exact absurd c_5 h | exact absurd h c_5 | omega) (fun _ => ?_)
      refine lv_iload_n hx hb dX4_cell_50 rfl (lv_at hl 1 rfl) ?_
      refine lv_goto (tgt := 55) hx hb dX4_cell_51 (by decide) ?_
      refine p_iald (k := 0) (r := 16) (n := 20) hx hb hK hP hw.al rfl rfl (by decide) (by decide) (by omega) (by omega) dX4_cell_55 ?_
      refine lv_iconst (v := i32 (1)) hx hb dX4_cell_56 rfl ?_
      refine q_isub hx hb dX4_cell_57 ?_
      refine q_callS hx hb hml hl.1 hown hK hZ hP hS (c_X4_in l g base ad S q 0 ((S 0 16 x) - 1) hrn3 ⟨by decide, by decide⟩ ⟨by omega, by omega⟩) t_807 (q_callB hK 806 36 808 t_806 t_36 t_808 f_yX4_in ⟨by decide, by decide⟩) rfl rfl (Nat.le_of_ble_eq_true rfl) dX4_cell_58 ⟨by decide, by decide⟩  (q_an (fun H locs hP hS => ?_))
      refine q_if_eqb (tgt := 68) hx hb dX4_cell_61 (by decide) (fun c_7 => ?_) (fun c_7 => ?_)
      · -- ¬ (0 ≤ q ∧ q ≤ ((S 0 16 x) - 1))
        refine lv_iconst (v := i32 (0)) hx hb dX4_cell_68 rfl ?_
        refine q_nm (b2_f (show ¬ ((isP S x) ∧ (0 ≤ r ∧ r ≤ ((S 0 17 x) - 1)) ∧ (0 ≤ q ∧ q ≤ ((S 0 16 x) - 1))) from by first | omega | (simp only [*]; done) | simp_all)).symm ?_
        exact J69 _ _ hP hS
      · -- 0 ≤ q ∧ q ≤ ((S 0 16 x) - 1)
        refine lv_iconst (v := i32 (1)) hx hb dX4_cell_64 rfl ?_
        refine lv_goto (tgt := 69) hx hb dX4_cell_65 (by decide) ?_
        refine q_nm (b2_t (show (isP S x) ∧ (0 ≤ r ∧ r ≤ ((S 0 17 x) - 1)) ∧ (0 ≤ q ∧ q ≤ ((S 0 16 x) - 1)) from by first | omega | (simp only [*]; done) | simp_all)).symm ?_
        exact J69 _ _ hP hS

set_option maxHeartbeats 4000000 in
set_option maxRecDepth 100000 in
theorem c_X4_runs (l : Launch) (g : GT) (base : Nat) (ad : Nat → Nat → Nat) (S : St) (x q r v : Int) (hw : wM S) (hxx : 0 ≤ x ∧ x < 20) (hrn : rng q) (hrn2 : rng r) (hrn3 : rng v) (hlo : ∀ a1 b1, 0 ≤ a1 → a1 < S 0 16 x → 0 ≤ b1 → b1 < S 0 17 x → 0 ≤ S 0 26 (240 * x + 10 * a1 + b1) ∧ S 0 26 (240 * x + 10 * a1 + b1) < 20) : Met l yX4_runs [Cond.code yX4_runs cX4_runs 7 (some FieldType.int)] ({ frames := 1, cells := 0, slots := 0, locals := 22 }) (va_Pc [.ref (ad 0 0), .int (i32 (x)), .int (i32 (q)), .int (i32 (r)), .int (i32 (v))] (PK g base ad S)) (gQ g base (an (some (.int (i32 (ruM S x q r v)))) ad S)) 0 0 (fun q => base ≤ q) := by
  refine mk_m (own := RX4) (lv0 := [(0, .ref (ad 0 0)), (1, .int (i32 (x))), (2, .int (i32 (q))), (3, .int (i32 (r))), (4, .int (i32 (v)))]) (by decide) rfl (Nat.le_of_ble_eq_true rfl) rfl ?_
  intro p e s m below meth cz av Qm hx hb hr hml hown hlocks hK hZ hP hQm ls hl
  have hS : va_S (fun q => base ≤ q) s.heap s.heap [] := va_S.rf
  have rS : ∀ (a1 b1 : Nat) (i1 : Int), rng (S a1 b1 i1) := fun a1 b1 i1 => hP.rg a1 b1 i1
  obtain ⟨hx0, hx1⟩ := id hxx
  obtain ⟨hc1, hc2, hr1, hr2, hv1, hv2, hd1, hd2⟩ := hw.pc x hx0 hx1
  refine lv_iload_n hx hb dX4_runs_0 rfl (lv_at hl 2 rfl) ?_
  refine lv_iconst (v := i32 (0)) hx hb dX4_runs_1 rfl ?_
  refine lv_aload_n hx hb dX4_runs_2 rfl (lv_at hl 0 rfl) ?_
  refine p_get (k := 0) hx hb hown hK hP hw.al rfl rfl rfl (lay_X4 hK) 15 713 (by decide) t_713 rfl rfl dX4_runs_3 ?_
  refine lv_iload_n hx hb dX4_runs_6 rfl (lv_at hl 1 rfl) ?_
  refine p_iald (k := 0) (r := 16) (n := 20) hx hb hK hP hw.al rfl rfl (by decide) (by decide) (by omega) (by omega) dX4_runs_7 ?_
  refine lv_iconst (v := i32 (1)) hx hb dX4_runs_8 rfl ?_
  refine q_isub hx hb dX4_runs_9 ?_
  refine q_callS hx hb hml hl.1 hown hK hZ hP hS (c_X4_in l g base ad S q 0 ((S 0 16 x) - 1) hrn ⟨by decide, by decide⟩ ⟨by omega, by omega⟩) t_807 (q_callB hK 806 36 808 t_806 t_36 t_808 f_yX4_in ⟨by decide, by decide⟩) rfl rfl (Nat.le_of_ble_eq_true rfl) dX4_runs_10 ⟨by decide, by decide⟩  (q_an (fun H locs hP hS => ?_))
  have J37 : ∀ (H : Heap) (locs : List Loc), pic g base ad S H → va_S (fun q => base ≤ q) s.heap H locs → W p l e ({ frames := 1, cells := 0, slots := 0, locals := 22 } : Room) s m av below meth cz H locs 0 0 Qm (F0 m 37 ls (Value.int (i32 (b2 ((0 ≤ q ∧ q ≤ ((S 0 16 x) - 1)) ∧ (0 ≤ r ∧ r ≤ ((S 0 17 x) - 1))))) :: [])) := by
    intro H locs hP hS
    refine lv_istore (lv' := [(5, .int (i32 (b2 ((0 ≤ q ∧ q ≤ ((S 0 16 x) - 1)) ∧ (0 ≤ r ∧ r ≤ ((S 0 17 x) - 1)))))), (0, .ref (ad 0 0)), (1, .int (i32 (x))), (2, .int (i32 (q))), (3, .int (i32 (r))), (4, .int (i32 (v)))]) hx hb dX4_runs_37 hl (by decide) rfl (fun ls hl => ?_)
    refine lv_iload hx hb dX4_runs_39 (lv_at hl 0 rfl) ?_
    have J60 : ∀ (b60 : Int) (H : Heap) (locs : List Loc), (((¬ ((0 ≤ q ∧ q ≤ ((S 0 16 x) - 1)) ∧ (0 ≤ r ∧ r ≤ ((S 0 17 x) - 1)))) ∧ b60 = v) ∨ (((0 ≤ q ∧ q ≤ ((S 0 16 x) - 1)) ∧ (0 ≤ r ∧ r ≤ ((S 0 17 x) - 1))) ∧ b60 = S 0 26 (240 * x + 10 * q + r))) → pic g base ad S H → va_S (fun q => base ≤ q) s.heap H locs → W p l e ({ frames := 1, cells := 0, slots := 0, locals := 22 } : Room) s m av below meth cz H locs 0 0 Qm (F0 m 60 ls (Value.int (i32 b60) :: [])) := by
      intro b60 H locs hb60 hP hS
      have z60 : b60 = v ∨ (0 ≤ b60 ∧ b60 < 20) := by
        rcases hb60 with ⟨h1, h2⟩ | ⟨h1, h2⟩
        · exact Or.inl h2
        · exact Or.inr (h2 ▸ hlo q r (by omega) (by omega) (by omega) (by omega))
      refine lv_istore (lv' := [(6, .int (i32 (b60))), (5, .int (i32 (b2 ((0 ≤ q ∧ q ≤ ((S 0 16 x) - 1)) ∧ (0 ≤ r ∧ r ≤ ((S 0 17 x) - 1)))))), (0, .ref (ad 0 0)), (1, .int (i32 (x))), (2, .int (i32 (q))), (3, .int (i32 (r))), (4, .int (i32 (v)))]) hx hb dX4_runs_60 hl (by decide) rfl (fun ls hl => ?_)
      refine lv_iload hx hb dX4_runs_62 (lv_at hl 0 rfl) ?_
      refine lv_iload hx hb dX4_runs_64 (lv_at hl 6 rfl) ?_
      refine q_icmp_eq (tgt := 83) hx hb (rng_or z60 hrn3) hrn3 dX4_runs_66 (by decide) (fun c_1 => ?_) (fun c_1 => ?_)
      · -- b60 = v
        refine lv_iconst (v := i32 (0)) hx hb dX4_runs_83 rfl ?_
        refine q_nm (show (0 : Int) = ruM S x q r v from by first | exact ruM_1 hb60 (by assumption) | exact ruM_2 hb60 (by assumption) (by assumption) | exact ruM_3 hb60 (by assumption) (by assumption)) ?_
        subst hQm
        exact q_iret hx hb hr hlocks hP hS ⟨rfl, rfl, rfl⟩ (by decide) (by decide) dX4_runs_84
      · -- b60 ≠ v
        refine lv_aload_n hx hb dX4_runs_69 rfl (lv_at hl 2 rfl) ?_
        refine p_get (k := 0) hx hb hown hK hP hw.al rfl rfl rfl (lay_X4 hK) 13 711 (by decide) t_711 rfl rfl dX4_runs_70 ?_
        refine lv_iload hx hb dX4_runs_73 (lv_at hl 0 rfl) ?_
        refine p_zald (k := 0) (r := 14) (n := 20) hx hb hK hP hw.al rfl rfl (by decide) (by decide) (by omega) (by omega) dX4_runs_75 ?_
        refine q_if_eq (tgt := 83) hx hb (hP.rg _ _ _) dX4_runs_76 (by decide) (fun c_2 => ?_) (fun c_2 => ?_)
        · -- (S 0 14 b60) = 0
          refine lv_iconst (v := i32 (0)) hx hb dX4_runs_83 rfl ?_
          refine q_nm (show (0 : Int) = ruM S x q r v from by first | exact ruM_1 hb60 (by assumption) | exact ruM_2 hb60 (by assumption) (by assumption) | exact ruM_3 hb60 (by assumption) (by assumption)) ?_
          subst hQm
          exact q_iret hx hb hr hlocks hP hS ⟨rfl, rfl, rfl⟩ (by decide) (by decide) dX4_runs_84
        · -- (S 0 14 b60) ≠ 0
          refine lv_iconst (v := i32 (5)) hx hb dX4_runs_79 rfl ?_
          refine lv_goto (tgt := 84) hx hb dX4_runs_80 (by decide) ?_
          refine q_nm (show (5 : Int) = ruM S x q r v from by first | exact ruM_1 hb60 (by assumption) | exact ruM_2 hb60 (by assumption) (by assumption) | exact ruM_3 hb60 (by assumption) (by assumption)) ?_
          subst hQm
          exact q_iret hx hb hr hlocks hP hS ⟨rfl, rfl, rfl⟩ (by decide) (by decide) dX4_runs_84
    refine q_if_eqb (tgt := 58) hx hb dX4_runs_41 (by decide) (fun c_3 => ?_) (fun c_3 => ?_)
    · -- ¬ ((0 ≤ q ∧ q ≤ ((S 0 16 x) - 1)) ∧ (0 ≤ r ∧ r ≤ ((S 0 17 x) - 1)))
      refine lv_iload hx hb dX4_runs_58 (lv_at hl 5 rfl) ?_
      exact J60 _ _ _ (by first | omega | (simp only [*]; done) | simp_all) hP hS
    · -- (0 ≤ q ∧ q ≤ ((S 0 16 x) - 1)) ∧ (0 ≤ r ∧ r ≤ ((S 0 17 x) - 1))
      refine lv_aload_n hx hb dX4_runs_44 rfl (lv_at hl 1 rfl) ?_
      refine p_get (k := 0) hx hb hown hK hP hw.al rfl rfl rfl (lay_X4 hK) 25 723 (by decide) t_723 rfl rfl dX4_runs_45 ?_
      refine lv_iload_n hx hb dX4_runs_48 rfl (lv_at hl 2 rfl) ?_
      refine lv_iload_n hx hb dX4_runs_49 rfl (lv_at hl 3 rfl) ?_
      refine lv_iload_n hx hb dX4_runs_50 rfl (lv_at hl 4 rfl) ?_
      refine q_callS hx hb hml hl.1 hown hK hZ hP hS (c_X4_at l g base ad S x q r ) t_841 (q_callB hK 840 36 842 t_840 t_36 t_842 f_yX4_at ⟨by decide, by decide⟩) rfl rfl (Nat.le_of_ble_eq_true rfl) dX4_runs_51 ⟨by decide, by decide⟩  (q_an (fun H locs hP hS => ?_))
      refine p_iald (k := 0) (r := 26) (n := 4800) hx hb hK hP hw.al rfl rfl (by decide) (by decide) (by omega) (by omega) dX4_runs_54 ?_
      refine lv_goto (tgt := 60) hx hb dX4_runs_55 (by decide) ?_
      exact J60 _ _ _ (by first | omega | (simp only [*]; done) | simp_all) hP hS
  refine q_if_eqb (tgt := 36) hx hb dX4_runs_13 (by decide) (fun c_4 => ?_) (fun c_4 => ?_)
  · -- ¬ (0 ≤ q ∧ q ≤ ((S 0 16 x) - 1))
    refine lv_iconst (v := i32 (0)) hx hb dX4_runs_36 rfl ?_
    refine q_nm (b2_f (show ¬ ((0 ≤ q ∧ q ≤ ((S 0 16 x) - 1)) ∧ (0 ≤ r ∧ r ≤ ((S 0 17 x) - 1))) from by first | omega | (simp only [*]; done) | simp_all)).symm ?_
    exact J37 _ _ hP hS
  · -- 0 ≤ q ∧ q ≤ ((S 0 16 x) - 1)
    refine lv_iload_n hx hb dX4_runs_16 rfl (lv_at hl 3 rfl) ?_
    refine lv_iconst (v := i32 (0)) hx hb dX4_runs_17 rfl ?_
    refine lv_aload_n hx hb dX4_runs_18 rfl (lv_at hl 0 rfl) ?_
    refine p_get (k := 0) hx hb hown hK hP hw.al rfl rfl rfl (lay_X4 hK) 16 714 (by decide) t_714 rfl rfl dX4_runs_19 ?_
    refine lv_iload_n hx hb dX4_runs_22 rfl (lv_at hl 1 rfl) ?_
    refine p_iald (k := 0) (r := 17) (n := 20) hx hb hK hP hw.al rfl rfl (by decide) (by decide) (by omega) (by omega) dX4_runs_23 ?_
    refine lv_iconst (v := i32 (1)) hx hb dX4_runs_24 rfl ?_
    refine q_isub hx hb dX4_runs_25 ?_
    refine q_callS hx hb hml hl.1 hown hK hZ hP hS (c_X4_in l g base ad S r 0 ((S 0 17 x) - 1) hrn2 ⟨by decide, by decide⟩ ⟨by omega, by omega⟩) t_807 (q_callB hK 806 36 808 t_806 t_36 t_808 f_yX4_in ⟨by decide, by decide⟩) rfl rfl (Nat.le_of_ble_eq_true rfl) dX4_runs_26 ⟨by decide, by decide⟩  (q_an (fun H locs hP hS => ?_))
    refine q_if_eqb (tgt := 36) hx hb dX4_runs_29 (by decide) (fun c_5 => ?_) (fun c_5 => ?_)
    · -- ¬ (0 ≤ r ∧ r ≤ ((S 0 17 x) - 1))
      refine lv_iconst (v := i32 (0)) hx hb dX4_runs_36 rfl ?_
      refine q_nm (b2_f (show ¬ ((0 ≤ q ∧ q ≤ ((S 0 16 x) - 1)) ∧ (0 ≤ r ∧ r ≤ ((S 0 17 x) - 1))) from by first | omega | (simp only [*]; done) | simp_all)).symm ?_
      exact J37 _ _ hP hS
    · -- 0 ≤ r ∧ r ≤ ((S 0 17 x) - 1)
      refine lv_iconst (v := i32 (1)) hx hb dX4_runs_32 rfl ?_
      refine lv_goto (tgt := 37) hx hb dX4_runs_33 (by decide) ?_
      refine q_nm (b2_t (show (0 ≤ q ∧ q ≤ ((S 0 16 x) - 1)) ∧ (0 ≤ r ∧ r ≤ ((S 0 17 x) - 1)) from by first | omega | (simp only [*]; done) | simp_all)).symm ?_
      exact J37 _ _ hP hS

set_option maxHeartbeats 4000000 in
set_option maxRecDepth 100000 in
theorem c_X4_match (l : Launch) (g : GT) (base : Nat) (ad : Nat → Nat → Nat) (S : St) (x z : Int) (hw : wM S) (hrn : rng x) (hrn2 : rng z) (hcl : ∀ a1, isP S a1 → 1 ≤ S 0 16 a1) : Met l yX4_match [Cond.code yX4_match cX4_match 6 (some FieldType.int)] ({ frames := 2, cells := 0, slots := 0, locals := 43 }) (va_Pc [.ref (ad 0 0), .int (i32 (x)), .int (i32 (z))] (PK g base ad S)) (gQ g base (mP ad ((isP S x) ∧ (isP S z)) (x ≠ z) (((isP S x) ∧ (isP S z)) ∧ (dnM S x) ∧ (dnM S z)) S (some (.int (i32 (mcM S x z)))) (fun Z => Z = (st S 0 0 27 (thr ((isP S x) ∧ (isP S z)) (x ≠ z) (((isP S x) ∧ (isP S z)) ∧ (dnM S x) ∧ (dnM S z))))))) 0 0 (fun q => base ≤ q) := by
  refine mk_m (own := RX4) (lv0 := [(0, .ref (ad 0 0)), (1, .int (i32 (x))), (2, .int (i32 (z)))]) (by decide) rfl (Nat.le_of_ble_eq_true rfl) rfl ?_
  intro p e s m below meth cz av Qm hx hb hr hml hown hlocks hK hZ hP hQm ls hl
  have hS : va_S (fun q => base ≤ q) s.heap s.heap [] := va_S.rf
  have rS : ∀ (a1 b1 : Nat) (i1 : Int), rng (S a1 b1 i1) := fun a1 b1 i1 => hP.rg a1 b1 i1
  obtain ⟨hp1, hp2⟩ := hw.ps
  refine lv_aload_n hx hb dX4_match_0 rfl (lv_at hl 0 rfl) ?_
  refine lv_iload_n hx hb dX4_match_1 rfl (lv_at hl 1 rfl) ?_
  refine q_callV (k := 0) hx hb hml hl.1 hown hK hZ hP hS hw.al rfl rfl rfl (c_X4_isPiece l g base ad S x hw hrn) t_861 t_19 (q_callB hK 859 36 862 t_859 t_36 t_862 f_yX4_isPiece ⟨by decide, by decide⟩) rfl rfl (Nat.le_of_ble_eq_true rfl) dX4_match_2 ⟨by decide, by decide⟩  (q_an (fun H locs hP hS => ?_))
  have J21 : ∀ (H : Heap) (locs : List Loc), pic g base ad S H → va_S (fun q => base ≤ q) s.heap H locs → W p l e ({ frames := 2, cells := 0, slots := 0, locals := 43 } : Room) s m av below meth cz H locs 0 0 Qm (F0 m 21 ls (Value.int (i32 (b2 ((isP S x) ∧ (isP S z)))) :: [])) := by
    intro H locs hP hS
    refine lv_istore_n (lv' := [(3, .int (i32 (b2 ((isP S x) ∧ (isP S z))))), (0, .ref (ad 0 0)), (1, .int (i32 (x))), (2, .int (i32 (z)))]) hx hb dX4_match_21 rfl hl (by decide) rfl (fun ls hl => ?_)
    refine lv_aload_n hx hb dX4_match_22 rfl (lv_at hl 1 rfl) ?_
    refine lv_iload_n hx hb dX4_match_23 rfl (lv_at hl 0 rfl) ?_
    refine lv_iload_n hx hb dX4_match_24 rfl (lv_at hl 2 rfl) ?_
    refine lv_iload_n hx hb dX4_match_25 rfl (lv_at hl 3 rfl) ?_
    have J34 : ∀ (H : Heap) (locs : List Loc), pic g base ad S H → va_S (fun q => base ≤ q) s.heap H locs → W p l e ({ frames := 2, cells := 0, slots := 0, locals := 43 } : Room) s m av below meth cz H locs 0 0 Qm (F0 m 34 ls (Value.int (i32 (b2 ((x ≠ z)))) :: Value.int (i32 (b2 ((isP S x) ∧ (isP S z)))) :: Value.ref (ad 0 0) :: [])) := by
      intro H locs hP hS
      refine lv_iload_n hx hb dX4_match_34 rfl (lv_at hl 0 rfl) ?_
      have J59 : ∀ (H : Heap) (locs : List Loc), pic g base ad S H → va_S (fun q => base ≤ q) s.heap H locs → W p l e ({ frames := 2, cells := 0, slots := 0, locals := 43 } : Room) s m av below meth cz H locs 0 0 Qm (F0 m 59 ls (Value.int (i32 (b2 (((isP S x) ∧ (isP S z)) ∧ (dnM S x) ∧ (dnM S z)))) :: Value.int (i32 (b2 ((x ≠ z)))) :: Value.int (i32 (b2 ((isP S x) ∧ (isP S z)))) :: Value.ref (ad 0 0) :: [])) := by
        intro H locs hP hS
        refine q_callV (k := 0) hx hb hml hl.1 hown hK hZ hP hS hw.al rfl rfl rfl (c_X4_goes l g base ad S ((isP S x) ∧ (isP S z)) ((x ≠ z)) (((isP S x) ∧ (isP S z)) ∧ (dnM S x) ∧ (dnM S z)) hw.al) t_796 t_14 (q_callB hK 794 36 797 t_794 t_36 t_797 f_yX4_goes ⟨by decide, by decide⟩) rfl rfl (Nat.le_of_ble_eq_true rfl) dX4_match_59 ⟨by decide, by decide⟩  (q_an (fun H locs hP hS => ?_))
        generalize eS1 : st S 0 0 27 (thr ((isP S x) ∧ (isP S z)) ((x ≠ z)) (((isP S x) ∧ (isP S z)) ∧ (dnM S x) ∧ (dnM S z))) = S1 at hP
        have rS1 : ∀ (a1 b1 : Nat) (i1 : Int), rng (S1 a1 b1 i1) := fun a1 b1 i1 => hP.rg a1 b1 i1
        have qS1 : ∀ (a1 b1 : Nat) (i1 : Int), S1 a1 b1 i1 = if a1 = 0 ∧ b1 = 0 ∧ i1 = 27 then thr ((isP S x) ∧ (isP S z)) ((x ≠ z)) (((isP S x) ∧ (isP S z)) ∧ (dnM S x) ∧ (dnM S z)) else S a1 b1 i1 := fun a1 b1 i1 => by rw [← eS1]; exact st_at _ _ _ _ _ _ _ _
        have aS1_0 : S1 0 0 (-1) = 1 := by rw [qS1, if_neg (by omega)]; exact hw.al
        have wS1 : wM S1 := wM.keep hw (fun r j h => by unfold wrow at h; rw [qS1, if_neg (by omega)])
        refine q_if_neb (tgt := 67) hx hb dX4_match_62 (by decide) (fun c_2 => ?_) (fun c_2 => ?_)
        · -- ((isP S x) ∧ (isP S z)) ∧ ((x ≠ z)) ∧ (((isP S x) ∧ (isP S z)) ∧ (dnM S x) ∧ (dnM S z))
          obtain ⟨⟨hpx, hpz⟩, -, -⟩ := id c_2
          obtain ⟨hq1, hq2, hq3⟩ := id hpx
          obtain ⟨hq4, hq5, hq6⟩ := id hpz
          obtain ⟨hc1, hc2, hr1, hr2, hv1, hv2, hd1, hd2⟩ := hw.pc x (by omega) (by omega)
          have hcx := hcl x hpx
          refine lv_iconst (v := i32 (0)) hx hb dX4_match_67 rfl ?_
          refine lv_istore (lv' := [(4, .int (i32 (0))), (3, .int (i32 (b2 ((isP S x) ∧ (isP S z))))), (0, .ref (ad 0 0)), (1, .int (i32 (x))), (2, .int (i32 (z)))]) hx hb dX4_match_68 hl (by decide) rfl (fun ls hl => ?_)
          refine lv_iconst (v := i32 (0)) hx hb dX4_match_70 rfl ?_
          refine lv_istore (lv' := [(5, .int (i32 (0))), (4, .int (i32 (0))), (3, .int (i32 (b2 ((isP S x) ∧ (isP S z))))), (0, .ref (ad 0 0)), (1, .int (i32 (x))), (2, .int (i32 (z)))]) hx hb dX4_match_71 hl (by decide) rfl (fun ls hl => ?_)
          have L73 : ∀ (k : Nat) (t r : Int) (H : Heap) (locs : List Loc) (ls : Array Slot), (0 ≤ r ∧ r ≤ S 0 17 x) → (t = sm (fun r => b2 (S 0 26 (240 * x + 10 * (S 0 16 x - 1) + r) = S 0 26 (240 * z + 10 * 0 + r))) r.toNat) → S 0 17 x - r < (k : Int) → pic g base ad S1 H → va_S (fun q => base ≤ q) s.heap H locs → lv_has ls 6 [(5, .int (i32 (r))), (4, .int (i32 (t))), (3, .int (i32 (b2 ((isP S x) ∧ (isP S z))))), (0, .ref (ad 0 0)), (1, .int (i32 (x))), (2, .int (i32 (z)))] → W p l e ({ frames := 2, cells := 0, slots := 0, locals := 43 } : Room) s m av below meth cz H locs 0 0 Qm (F0 m 73 ls []) := by
            intro k
            induction k with
            | zero => intro t r H locs ls zr zt hmu _ _ _; exact absurd hmu (by omega)
            | succ k ih73 =>
              intro t r H locs ls zr zt hmu hP hS hl
              refine lv_iload hx hb dX4_match_73 (lv_at hl 0 rfl) ?_
              refine lv_aload_n hx hb dX4_match_75 rfl (lv_at hl 3 rfl) ?_
              refine p_get (k := 0) hx hb hown hK hP aS1_0 rfl rfl rfl (lay_X4 hK) 16 714 (by decide) t_714 rfl rfl dX4_match_76 ?_
              refine lv_iload_n hx hb dX4_match_79 rfl (lv_at hl 4 rfl) ?_
              refine p_iald (k := 0) (r := 17) (n := 20) hx hb hK hP aS1_0 rfl rfl (by decide) (by decide) (by omega) (by omega) dX4_match_80 ?_
              refine q_nm (show S1 0 17 x = S 0 17 x from by rw [qS1, if_neg (by omega)]) ?_
              refine q_icmp_ge (tgt := 134) hx hb ⟨by omega, by omega⟩ (rS _ _ _) dX4_match_81 (by decide) (fun c_3 => ?_) (fun c_3 => ?_)
              · -- (S 0 17 x) ≤ r
                refine lv_aload_n hx hb dX4_match_134 rfl (lv_at hl 3 rfl) ?_
                refine p_get (k := 0) hx hb hown hK hP aS1_0 rfl rfl rfl (lay_X4 hK) 16 714 (by decide) t_714 rfl rfl dX4_match_135 ?_
                refine lv_iload_n hx hb dX4_match_138 rfl (lv_at hl 4 rfl) ?_
                refine p_iald (k := 0) (r := 17) (n := 20) hx hb hK hP aS1_0 rfl rfl (by decide) (by decide) (by omega) (by omega) dX4_match_139 ?_
                refine q_nm (show S1 0 17 x = S 0 17 x from by rw [qS1, if_neg (by omega)]) ?_
                refine lv_aload_n hx hb dX4_match_140 rfl (lv_at hl 3 rfl) ?_
                refine p_get (k := 0) hx hb hown hK hP aS1_0 rfl rfl rfl (lay_X4 hK) 16 714 (by decide) t_714 rfl rfl dX4_match_141 ?_
                refine lv_iload_n hx hb dX4_match_144 rfl (lv_at hl 5 rfl) ?_
                refine p_iald (k := 0) (r := 17) (n := 20) hx hb hK hP aS1_0 rfl rfl (by decide) (by decide) (by omega) (by omega) dX4_match_145 ?_
                refine q_nm (show S1 0 17 z = S 0 17 z from by rw [qS1, if_neg (by omega)]) ?_
                refine q_icmp_ne (tgt := 154) hx hb (rS _ _ _) (rS _ _ _) dX4_match_146 (by decide) (fun c_4 => ?_) (fun c_4 => ?_)
                · -- (S 0 17 x) ≠ (S 0 17 z)
                  refine lv_iconst (v := i32 (-1)) hx hb dX4_match_154 rfl ?_
                  subst hQm
                  exact q_iret hx hb hr hlocks hP hS (by exact ⟨rfl, Or.inr ⟨c_2, (ri (by unfold mcM; first | (rw [cif_t (by assumption), zt, show r = S 0 17 x from by omega]; done) | (rw [cif_f (by assumption)]; done))), eS1.symm⟩⟩) (by decide) (by decide) dX4_match_155
                · -- (S 0 17 x) = (S 0 17 z)
                  refine lv_iload hx hb dX4_match_149 (lv_at hl 1 rfl) ?_
                  refine lv_goto (tgt := 155) hx hb dX4_match_151 (by decide) ?_
                  subst hQm
                  exact q_iret hx hb hr hlocks hP hS (by exact ⟨rfl, Or.inr ⟨c_2, (ri (by unfold mcM; first | (rw [cif_t (by assumption), zt, show r = S 0 17 x from by omega]; done) | (rw [cif_f (by assumption)]; done))), eS1.symm⟩⟩) (by decide) (by decide) dX4_match_155
              · -- r < (S 0 17 x)
                refine lv_iload hx hb dX4_match_84 (lv_at hl 1 rfl) ?_
                refine lv_aload_n hx hb dX4_match_86 rfl (lv_at hl 3 rfl) ?_
                refine p_get (k := 0) hx hb hown hK hP aS1_0 rfl rfl rfl (lay_X4 hK) 25 723 (by decide) t_723 rfl rfl dX4_match_87 ?_
                refine lv_iload_n hx hb dX4_match_90 rfl (lv_at hl 4 rfl) ?_
                refine lv_aload_n hx hb dX4_match_91 rfl (lv_at hl 3 rfl) ?_
                refine p_get (k := 0) hx hb hown hK hP aS1_0 rfl rfl rfl (lay_X4 hK) 15 713 (by decide) t_713 rfl rfl dX4_match_92 ?_
                refine lv_iload_n hx hb dX4_match_95 rfl (lv_at hl 4 rfl) ?_
                refine p_iald (k := 0) (r := 16) (n := 20) hx hb hK hP aS1_0 rfl rfl (by decide) (by decide) (by omega) (by omega) dX4_match_96 ?_
                refine q_nm (show S1 0 16 x = S 0 16 x from by rw [qS1, if_neg (by omega)]) ?_
                refine lv_iconst (v := i32 (1)) hx hb dX4_match_97 rfl ?_
                refine q_isub hx hb dX4_match_98 ?_
                refine lv_iload hx hb dX4_match_99 (lv_at hl 0 rfl) ?_
                refine q_callS hx hb hml hl.1 hown hK hZ hP hS (c_X4_at l g base ad S1 x ((S 0 16 x) - 1) r ) t_841 (q_callB hK 840 36 842 t_840 t_36 t_842 f_yX4_at ⟨by decide, by decide⟩) rfl rfl (Nat.le_of_ble_eq_true rfl) dX4_match_101 ⟨by decide, by decide⟩  (q_an (fun H locs hP hS => ?_))
                refine p_iald (k := 0) (r := 26) (n := 4800) hx hb hK hP aS1_0 rfl rfl (by decide) (by decide) (by omega) (by omega) dX4_match_104 ?_
                refine q_nm (show S1 0 26 (240 * x + 10 * ((S 0 16 x) - 1) + r) = S 0 26 (240 * x + 10 * ((S 0 16 x) - 1) + r) from by rw [qS1, if_neg (by omega)]) ?_
                refine lv_aload_n hx hb dX4_match_105 rfl (lv_at hl 3 rfl) ?_
                refine p_get (k := 0) hx hb hown hK hP aS1_0 rfl rfl rfl (lay_X4 hK) 25 723 (by decide) t_723 rfl rfl dX4_match_106 ?_
                refine lv_iload_n hx hb dX4_match_109 rfl (lv_at hl 5 rfl) ?_
                refine lv_iconst (v := i32 (0)) hx hb dX4_match_110 rfl ?_
                refine lv_iload hx hb dX4_match_111 (lv_at hl 0 rfl) ?_
                refine q_callS hx hb hml hl.1 hown hK hZ hP hS (c_X4_at l g base ad S1 z 0 r ) t_841 (q_callB hK 840 36 842 t_840 t_36 t_842 f_yX4_at ⟨by decide, by decide⟩) rfl rfl (Nat.le_of_ble_eq_true rfl) dX4_match_113 ⟨by decide, by decide⟩  (q_an (fun H locs hP hS => ?_))
                refine p_iald (k := 0) (r := 26) (n := 4800) hx hb hK hP aS1_0 rfl rfl (by decide) (by decide) (by omega) (by omega) dX4_match_116 ?_
                refine q_nm (show S1 0 26 (240 * z + 10 * 0 + r) = S 0 26 (240 * z + 10 * 0 + r) from by rw [qS1, if_neg (by omega)]) ?_
                have J125 : ∀ (H : Heap) (locs : List Loc), pic g base ad S1 H → va_S (fun q => base ≤ q) s.heap H locs → W p l e ({ frames := 2, cells := 0, slots := 0, locals := 43 } : Room) s m av below meth cz H locs 0 0 Qm (F0 m 125 ls (Value.int (i32 (b2 (((S 0 26 (240 * x + 10 * ((S 0 16 x) - 1) + r)) = (S 0 26 (240 * z + 10 * 0 + r)))))) :: Value.int (i32 (t)) :: [])) := by
                  intro H locs hP hS
                  refine q_iadd hx hb dX4_match_125 ?_
                  refine lv_istore (lv' := [(4, .int (i32 (t + (b2 (((S 0 26 (240 * x + 10 * ((S 0 16 x) - 1) + r)) = (S 0 26 (240 * z + 10 * 0 + r)))))))), (5, .int (i32 (r))), (3, .int (i32 (b2 ((isP S x) ∧ (isP S z))))), (0, .ref (ad 0 0)), (1, .int (i32 (x))), (2, .int (i32 (z)))]) hx hb dX4_match_126 hl (by decide) rfl (fun ls hl => ?_)
                  refine lv_iinc (v := i32 (r + 1)) (lv' := [(5, .int (i32 (r + 1))), (4, .int (i32 (t + (b2 (((S 0 26 (240 * x + 10 * ((S 0 16 x) - 1) + r)) = (S 0 26 (240 * z + 10 * 0 + r)))))))), (3, .int (i32 (b2 ((isP S x) ∧ (isP S z))))), (0, .ref (ad 0 0)), (1, .int (i32 (x))), (2, .int (i32 (z)))]) hx hb dX4_match_128 hl (k := 1) rfl (i32_add _ _) (by decide) rfl (fun ls hl => ?_)
                  refine lv_goto (tgt := 73) hx hb dX4_match_131 (by decide) ?_
                  exact ih73 (t + (b2 (((S 0 26 (240 * x + 10 * ((S 0 16 x) - 1) + r)) = (S 0 26 (240 * z + 10 * 0 + r)))))) (r + 1) _ _ _ (by omega) (by rw [sm_1 _ zr.1, ← zt]) (by omega) hP hS (lv_sub hl [0, 1, 2, 3, 4, 5] rfl)
                refine q_icmp_ne (tgt := 124) hx hb (rS _ _ _) (rS _ _ _) dX4_match_117 (by decide) (fun c_5 => ?_) (fun c_5 => ?_)
                · -- (S 0 26 (240 * x + 10 * ((S 0 16 x) - 1) + r)) ≠ (S 0 26 (240 * z + 10 * 0 + r))
                  refine lv_iconst (v := i32 (0)) hx hb dX4_match_124 rfl ?_
                  refine q_nm (b2_f (show ¬ (((S 0 26 (240 * x + 10 * ((S 0 16 x) - 1) + r)) = (S 0 26 (240 * z + 10 * 0 + r)))) from by first | omega | (simp only [*]; done) | simp_all)).symm ?_
                  exact J125 _ _ hP hS
                · -- (S 0 26 (240 * x + 10 * ((S 0 16 x) - 1) + r)) = (S 0 26 (240 * z + 10 * 0 + r))
                  refine lv_iconst (v := i32 (1)) hx hb dX4_match_120 rfl ?_
                  refine lv_goto (tgt := 125) hx hb dX4_match_121 (by decide) ?_
                  refine q_nm (b2_t (show ((S 0 26 (240 * x + 10 * ((S 0 16 x) - 1) + r)) = (S 0 26 (240 * z + 10 * 0 + r))) from by first | omega | (simp only [*]; done) | simp_all)).symm ?_
                  exact J125 _ _ hP hS
          exact L73 ((S 0 17 x - 0) + 1).toNat 0 0 _ _ _ (by omega) (by rfl) (by omega) hP hS (lv_sub hl [0, 1, 2, 3, 4, 5] rfl)
        · -- ¬ (((isP S x) ∧ (isP S z)) ∧ ((x ≠ z)) ∧ (((isP S x) ∧ (isP S z)) ∧ (dnM S x) ∧ (dnM S z)))
          refine lv_iconst (v := i32 (0)) hx hb dX4_match_65 rfl ?_
          subst hQm
          exact q_iret hx hb hr hlocks hP hS (by subst eS1; exact ⟨rfl, Or.inl ⟨c_2, rfl, rfl⟩⟩) (by decide) (by decide) dX4_match_66
      refine q_if_eqb (tgt := 58) hx hb dX4_match_35 (by decide) (fun c_6 => ?_) (fun c_6 => ?_)
      · -- ¬ ((isP S x) ∧ (isP S z))
        refine lv_iconst (v := i32 (0)) hx hb dX4_match_58 rfl ?_
        refine q_nm (b2_f (show ¬ (((isP S x) ∧ (isP S z)) ∧ (dnM S x) ∧ (dnM S z)) from by first | omega | (simp only [*]; done) | simp_all)).symm ?_
        exact J59 _ _ hP hS
      · -- (isP S x) ∧ (isP S z)
        obtain ⟨⟨hq1, hq2, hq3⟩, hq4, hq5, hq6⟩ := id c_6
        refine lv_aload_n hx hb dX4_match_38 rfl (lv_at hl 1 rfl) ?_
        refine lv_iload_n hx hb dX4_match_39 rfl (lv_at hl 2 rfl) ?_
        refine q_callV (k := 0) hx hb hml hl.1 hown hK hZ hP hS hw.al rfl rfl rfl (c_X4_isDone l g base ad S x hw (by omega)) t_885 t_24 (q_callB hK 883 36 886 t_883 t_36 t_886 f_yX4_isDone ⟨by decide, by decide⟩) rfl rfl (Nat.le_of_ble_eq_true rfl) dX4_match_40 ⟨by decide, by decide⟩  (q_an (fun H locs hP hS => ?_))
        refine q_if_eqb (tgt := 58) hx hb dX4_match_43 (by decide) (fun c_7 => ?_) (fun c_7 => ?_)
        · -- ¬ (dnM S x)
          refine lv_iconst (v := i32 (0)) hx hb dX4_match_58 rfl ?_
          refine q_nm (b2_f (show ¬ (((isP S x) ∧ (isP S z)) ∧ (dnM S x) ∧ (dnM S z)) from by first | omega | (simp only [*]; done) | simp_all)).symm ?_
          exact J59 _ _ hP hS
        · -- dnM S x
          refine lv_aload_n hx hb dX4_match_46 rfl (lv_at hl 1 rfl) ?_
          refine lv_iload_n hx hb dX4_match_47 rfl (lv_at hl 3 rfl) ?_
          refine q_callV (k := 0) hx hb hml hl.1 hown hK hZ hP hS hw.al rfl rfl rfl (c_X4_isDone l g base ad S z hw (by omega)) t_885 t_24 (q_callB hK 883 36 886 t_883 t_36 t_886 f_yX4_isDone ⟨by decide, by decide⟩) rfl rfl (Nat.le_of_ble_eq_true rfl) dX4_match_48 ⟨by decide, by decide⟩  (q_an (fun H locs hP hS => ?_))
          refine q_if_eqb (tgt := 58) hx hb dX4_match_51 (by decide) (fun c_8 => ?_) (fun c_8 => ?_)
          · -- ¬ (dnM S z)
            refine lv_iconst (v := i32 (0)) hx hb dX4_match_58 rfl ?_
            refine q_nm (b2_f (show ¬ (((isP S x) ∧ (isP S z)) ∧ (dnM S x) ∧ (dnM S z)) from by first | omega | (simp only [*]; done) | simp_all)).symm ?_
            exact J59 _ _ hP hS
          · -- dnM S z
            refine lv_iconst (v := i32 (1)) hx hb dX4_match_54 rfl ?_
            refine lv_goto (tgt := 59) hx hb dX4_match_55 (by decide) ?_
            refine q_nm (b2_t (show ((isP S x) ∧ (isP S z)) ∧ (dnM S x) ∧ (dnM S z) from by first | omega | (simp only [*]; done) | simp_all)).symm ?_
            exact J59 _ _ hP hS
    refine q_icmp_eq (tgt := 33) hx hb hrn hrn2 dX4_match_26 (by decide) (fun c_9 => ?_) (fun c_9 => ?_)
    · -- x = z
      refine lv_iconst (v := i32 (0)) hx hb dX4_match_33 rfl ?_
      refine q_nm (b2_f (show ¬ ((x ≠ z)) from by first | omega | (simp only [*]; done) | simp_all)).symm ?_
      exact J34 _ _ hP hS
    · -- x ≠ z
      refine lv_iconst (v := i32 (1)) hx hb dX4_match_29 rfl ?_
      refine lv_goto (tgt := 34) hx hb dX4_match_30 (by decide) ?_
      refine q_nm (b2_t (show (x ≠ z) from by first | omega | (simp only [*]; done) | simp_all)).symm ?_
      exact J34 _ _ hP hS
  refine q_if_eqb (tgt := 20) hx hb dX4_match_5 (by decide) (fun c_10 => ?_) (fun c_10 => ?_)
  · -- ¬ (isP S x)
    refine lv_iconst (v := i32 (0)) hx hb dX4_match_20 rfl ?_
    refine q_nm (b2_f (show ¬ ((isP S x) ∧ (isP S z)) from by first | omega | (simp only [*]; done) | simp_all)).symm ?_
    exact J21 _ _ hP hS
  · -- isP S x
    refine lv_aload_n hx hb dX4_match_8 rfl (lv_at hl 0 rfl) ?_
    refine lv_iload_n hx hb dX4_match_9 rfl (lv_at hl 2 rfl) ?_
    refine q_callV (k := 0) hx hb hml hl.1 hown hK hZ hP hS hw.al rfl rfl rfl (c_X4_isPiece l g base ad S z hw hrn2) t_861 t_19 (q_callB hK 859 36 862 t_859 t_36 t_862 f_yX4_isPiece ⟨by decide, by decide⟩) rfl rfl (Nat.le_of_ble_eq_true rfl) dX4_match_10 ⟨by decide, by decide⟩  (q_an (fun H locs hP hS => ?_))
    refine q_if_eqb (tgt := 20) hx hb dX4_match_13 (by decide) (fun c_11 => ?_) (fun c_11 => ?_)
    · -- ¬ (isP S z)
      refine lv_iconst (v := i32 (0)) hx hb dX4_match_20 rfl ?_
      refine q_nm (b2_f (show ¬ ((isP S x) ∧ (isP S z)) from by first | omega | (simp only [*]; done) | simp_all)).symm ?_
      exact J21 _ _ hP hS
    · -- isP S z
      refine lv_iconst (v := i32 (1)) hx hb dX4_match_16 rfl ?_
      refine lv_goto (tgt := 21) hx hb dX4_match_17 (by decide) ?_
      refine q_nm (b2_t (show (isP S x) ∧ (isP S z) from by first | omega | (simp only [*]; done) | simp_all)).symm ?_
      exact J21 _ _ hP hS

set_option maxHeartbeats 4000000 in
set_option maxRecDepth 100000 in
theorem c_X4_likeness (l : Launch) (g : GT) (base : Nat) (ad : Nat → Nat → Nat) (S : St) (x i : Int) (hw : wM S) (hrn : rng x) (hrn2 : rng i) : Met l yX4_likeness [Cond.code yX4_likeness cX4_likeness 9 (some FieldType.int)] ({ frames := 2, cells := 0, slots := 0, locals := 43 }) (va_Pc [.ref (ad 0 0), .int (i32 (x)), .int (i32 (i))] (PK g base ad S)) (gQ g base (mP ad ((isP S x) ∧ (isC S i)) (True) (True) S (some (.int (i32 (lkM (st S 0 0 27 (thr ((isP S x) ∧ (isC S i)) (True) (True))) x i)))) (fun Z => Z = (st S 0 0 27 (thr ((isP S x) ∧ (isC S i)) (True) (True)))))) 0 0 (fun q => base ≤ q) := by
  refine mk_m (own := RX4) (lv0 := [(0, .ref (ad 0 0)), (1, .int (i32 (x))), (2, .int (i32 (i)))]) (by decide) rfl (Nat.le_of_ble_eq_true rfl) rfl ?_
  intro p e s m below meth cz av Qm hx hb hr hml hown hlocks hK hZ hP hQm ls hl
  have hS : va_S (fun q => base ≤ q) s.heap s.heap [] := va_S.rf
  have rS : ∀ (a1 b1 : Nat) (i1 : Int), rng (S a1 b1 i1) := fun a1 b1 i1 => hP.rg a1 b1 i1
  obtain ⟨hp1, hp2⟩ := hw.ps
  obtain ⟨hk1, hk2⟩ := hw.cs
  refine lv_aload_n hx hb dX4_likeness_0 rfl (lv_at hl 0 rfl) ?_
  refine lv_iload_n hx hb dX4_likeness_1 rfl (lv_at hl 1 rfl) ?_
  refine q_callV (k := 0) hx hb hml hl.1 hown hK hZ hP hS hw.al rfl rfl rfl (c_X4_isPiece l g base ad S x hw hrn) t_861 t_19 (q_callB hK 859 36 862 t_859 t_36 t_862 f_yX4_isPiece ⟨by decide, by decide⟩) rfl rfl (Nat.le_of_ble_eq_true rfl) dX4_likeness_2 ⟨by decide, by decide⟩  (q_an (fun H locs hP hS => ?_))
  have J21 : ∀ (H : Heap) (locs : List Loc), pic g base ad S H → va_S (fun q => base ≤ q) s.heap H locs → W p l e ({ frames := 2, cells := 0, slots := 0, locals := 43 } : Room) s m av below meth cz H locs 0 0 Qm (F0 m 21 ls (Value.int (i32 (b2 ((isP S x) ∧ (isC S i)))) :: [])) := by
    intro H locs hP hS
    refine lv_istore_n (lv' := [(3, .int (i32 (b2 ((isP S x) ∧ (isC S i))))), (0, .ref (ad 0 0)), (1, .int (i32 (x))), (2, .int (i32 (i)))]) hx hb dX4_likeness_21 rfl hl (by decide) rfl (fun ls hl => ?_)
    refine lv_aload_n hx hb dX4_likeness_22 rfl (lv_at hl 1 rfl) ?_
    refine lv_iload_n hx hb dX4_likeness_23 rfl (lv_at hl 0 rfl) ?_
    refine lv_iconst (v := i32 (1)) hx hb dX4_likeness_24 rfl ?_
    refine lv_iconst (v := i32 (1)) hx hb dX4_likeness_25 rfl ?_
    refine W.eq (g2 := F0 m 26 ls (Value.int (i32 (b2 (True))) :: Value.int (i32 (b2 (True))) :: Value.int (i32 (b2 ((isP S x) ∧ (isC S i)))) :: Value.ref (ad 0 0) :: [])) (by simp only [b2_t trivial, b2_f not_false] <;> rfl) ?_
    refine q_callV (k := 0) hx hb hml hl.1 hown hK hZ hP hS hw.al rfl rfl rfl (c_X4_goes l g base ad S ((isP S x) ∧ (isC S i)) True True hw.al) t_796 t_14 (q_callB hK 794 36 797 t_794 t_36 t_797 f_yX4_goes ⟨by decide, by decide⟩) rfl rfl (Nat.le_of_ble_eq_true rfl) dX4_likeness_26 ⟨by decide, by decide⟩  (q_an (fun H locs hP hS => ?_))
    generalize eS1 : st S 0 0 27 (thr ((isP S x) ∧ (isC S i)) True True) = S1 at hP
    have rS1 : ∀ (a1 b1 : Nat) (i1 : Int), rng (S1 a1 b1 i1) := fun a1 b1 i1 => hP.rg a1 b1 i1
    have qS1 : ∀ (a1 b1 : Nat) (i1 : Int), S1 a1 b1 i1 = if a1 = 0 ∧ b1 = 0 ∧ i1 = 27 then thr ((isP S x) ∧ (isC S i)) True True else S a1 b1 i1 := fun a1 b1 i1 => by rw [← eS1]; exact st_at _ _ _ _ _ _ _ _
    have aS1_0 : S1 0 0 (-1) = 1 := by rw [qS1, if_neg (by omega)]; exact hw.al
    have wS1 : wM S1 := wM.keep hw (fun r j h => by unfold wrow at h; rw [qS1, if_neg (by omega)])
    refine q_if_neb (tgt := 34) hx hb dX4_likeness_29 (by decide) (fun c_2 => ?_) (fun c_2 => ?_)
    · -- ((isP S x) ∧ (isC S i)) ∧ True ∧ True
      obtain ⟨⟨⟨hq1, hq2, hq3⟩, hq4, hq5⟩, -, -⟩ := id c_2
      obtain ⟨hc1, hc2, hr1, hr2, hv1, hv2, hd1, hd2⟩ := hw.pc x (by omega) (by omega)
      have hrw := hw.pr x (by omega) (by omega)
      obtain ⟨hg1, hg2, hg3, hg4⟩ := hw.cw i (by omega) (by omega)
      have hCR : 0 ≤ S 0 16 x * S 0 17 x := Int.mul_nonneg hc1 hr1
      have hCR2 : S 0 16 x * S 0 17 x ≤ 240 := mul240 hc1 hc2 hr1 hr2
      refine lv_aload_n hx hb dX4_likeness_34 rfl (lv_at hl 1 rfl) ?_
      refine p_get (k := 0) hx hb hown hK hP aS1_0 rfl rfl rfl (lay_X4 hK) 15 713 (by decide) t_713 rfl rfl dX4_likeness_35 ?_
      refine lv_iload_n hx hb dX4_likeness_38 rfl (lv_at hl 2 rfl) ?_
      refine p_iald (k := 0) (r := 16) (n := 20) hx hb hK hP aS1_0 rfl rfl (by decide) (by decide) (by omega) (by omega) dX4_likeness_39 ?_
      refine q_nm (show S1 0 16 x = S 0 16 x from by rw [qS1, if_neg (by omega)]) ?_
      refine lv_aload_n hx hb dX4_likeness_40 rfl (lv_at hl 1 rfl) ?_
      refine p_get (k := 0) hx hb hown hK hP aS1_0 rfl rfl rfl (lay_X4 hK) 3 701 (by decide) t_701 rfl rfl dX4_likeness_41 ?_
      refine lv_iload_n hx hb dX4_likeness_44 rfl (lv_at hl 3 rfl) ?_
      refine p_iald (k := 0) (r := 4) (n := 5) hx hb hK hP aS1_0 rfl rfl (by decide) (by decide) (by omega) (by omega) dX4_likeness_45 ?_
      refine q_nm (show S1 0 4 i = S 0 4 i from by rw [qS1, if_neg (by omega)]) ?_
      refine q_icmp_ne (tgt := 64) hx hb (rS _ _ _) (rS _ _ _) dX4_likeness_46 (by decide) (fun c_3 => ?_) (fun c_3 => ?_)
      · -- (S 0 16 x) ≠ (S 0 4 i)
        refine lv_iconst (v := i32 (-1)) hx hb dX4_likeness_64 rfl ?_
        subst hQm
        exact q_iret hx hb hr hlocks hP hS (by exact ⟨rfl, Or.inr ⟨c_2, (ri (by rw [eS1]; exact lkM_no qS1 (by assumption))), eS1.symm⟩⟩) (by decide) (by decide) dX4_likeness_65
      · -- (S 0 16 x) = (S 0 4 i)
        refine lv_aload_n hx hb dX4_likeness_49 rfl (lv_at hl 1 rfl) ?_
        refine p_get (k := 0) hx hb hown hK hP aS1_0 rfl rfl rfl (lay_X4 hK) 16 714 (by decide) t_714 rfl rfl dX4_likeness_50 ?_
        refine lv_iload_n hx hb dX4_likeness_53 rfl (lv_at hl 2 rfl) ?_
        refine p_iald (k := 0) (r := 17) (n := 20) hx hb hK hP aS1_0 rfl rfl (by decide) (by decide) (by omega) (by omega) dX4_likeness_54 ?_
        refine q_nm (show S1 0 17 x = S 0 17 x from by rw [qS1, if_neg (by omega)]) ?_
        refine lv_aload_n hx hb dX4_likeness_55 rfl (lv_at hl 1 rfl) ?_
        refine p_get (k := 0) hx hb hown hK hP aS1_0 rfl rfl rfl (lay_X4 hK) 4 702 (by decide) t_702 rfl rfl dX4_likeness_56 ?_
        refine lv_iload_n hx hb dX4_likeness_59 rfl (lv_at hl 3 rfl) ?_
        refine p_iald (k := 0) (r := 5) (n := 5) hx hb hK hP aS1_0 rfl rfl (by decide) (by decide) (by omega) (by omega) dX4_likeness_60 ?_
        refine q_nm (show S1 0 5 i = S 0 5 i from by rw [qS1, if_neg (by omega)]) ?_
        refine q_icmp_eq (tgt := 66) hx hb (rS _ _ _) (rS _ _ _) dX4_likeness_61 (by decide) (fun c_4 => ?_) (fun c_4 => ?_)
        · -- (S 0 17 x) = (S 0 5 i)
          refine lv_iconst (v := i32 (0)) hx hb dX4_likeness_66 rfl ?_
          refine lv_istore (lv' := [(4, .int (i32 (0))), (3, .int (i32 (b2 ((isP S x) ∧ (isC S i))))), (0, .ref (ad 0 0)), (1, .int (i32 (x))), (2, .int (i32 (i)))]) hx hb dX4_likeness_67 hl (by decide) rfl (fun ls hl => ?_)
          refine lv_iconst (v := i32 (0)) hx hb dX4_likeness_69 rfl ?_
          refine lv_istore (lv' := [(5, .int (i32 (0))), (4, .int (i32 (0))), (3, .int (i32 (b2 ((isP S x) ∧ (isC S i))))), (0, .ref (ad 0 0)), (1, .int (i32 (x))), (2, .int (i32 (i)))]) hx hb dX4_likeness_70 hl (by decide) rfl (fun ls hl => ?_)
          refine lv_iconst (v := i32 (0)) hx hb dX4_likeness_72 rfl ?_
          refine lv_istore (lv' := [(6, .int (i32 (0))), (5, .int (i32 (0))), (4, .int (i32 (0))), (3, .int (i32 (b2 ((isP S x) ∧ (isC S i))))), (0, .ref (ad 0 0)), (1, .int (i32 (x))), (2, .int (i32 (i)))]) hx hb dX4_likeness_73 hl (by decide) rfl (fun ls hl => ?_)
          have L75 : ∀ (k : Nat) (ta tb n : Int) (H : Heap) (locs : List Loc) (ls : Array Slot), (0 ≤ n ∧ n ≤ S 0 16 x * S 0 17 x) → (ta = sm (fun n => b2 (cM S 25 x n = drM S1 i (n % S 0 17 x) (n / S 0 17 x))) n.toNat) → (tb = sm (fun n => b2 (cM S 25 x n = drM S1 i (n % S 0 17 x) (S 0 16 x - 1 - n / S 0 17 x))) n.toNat) → S 0 16 x * S 0 17 x - n < (k : Int) → pic g base ad S1 H → va_S (fun q => base ≤ q) s.heap H locs → lv_has ls 9 [(6, .int (i32 (n))), (5, .int (i32 (tb))), (4, .int (i32 (ta))), (3, .int (i32 (b2 ((isP S x) ∧ (isC S i))))), (0, .ref (ad 0 0)), (1, .int (i32 (x))), (2, .int (i32 (i)))] → W p l e ({ frames := 2, cells := 0, slots := 0, locals := 43 } : Room) s m av below meth cz H locs 0 0 Qm (F0 m 75 ls []) := by
            intro k
            induction k with
            | zero => intro ta tb n H locs ls zn zta ztb hmu _ _ _; exact absurd hmu (by omega)
            | succ k ih75 =>
              intro ta tb n H locs ls zn zta ztb hmu hP hS hl
              refine lv_iload hx hb dX4_likeness_75 (lv_at hl 0 rfl) ?_
              refine lv_aload_n hx hb dX4_likeness_77 rfl (lv_at hl 4 rfl) ?_
              refine p_get (k := 0) hx hb hown hK hP aS1_0 rfl rfl rfl (lay_X4 hK) 15 713 (by decide) t_713 rfl rfl dX4_likeness_78 ?_
              refine lv_iload_n hx hb dX4_likeness_81 rfl (lv_at hl 5 rfl) ?_
              refine p_iald (k := 0) (r := 16) (n := 20) hx hb hK hP aS1_0 rfl rfl (by decide) (by decide) (by omega) (by omega) dX4_likeness_82 ?_
              refine q_nm (show S1 0 16 x = S 0 16 x from by rw [qS1, if_neg (by omega)]) ?_
              refine lv_aload_n hx hb dX4_likeness_83 rfl (lv_at hl 4 rfl) ?_
              refine p_get (k := 0) hx hb hown hK hP aS1_0 rfl rfl rfl (lay_X4 hK) 16 714 (by decide) t_714 rfl rfl dX4_likeness_84 ?_
              refine lv_iload_n hx hb dX4_likeness_87 rfl (lv_at hl 5 rfl) ?_
              refine p_iald (k := 0) (r := 17) (n := 20) hx hb hK hP aS1_0 rfl rfl (by decide) (by decide) (by omega) (by omega) dX4_likeness_88 ?_
              refine q_nm (show S1 0 17 x = S 0 17 x from by rw [qS1, if_neg (by omega)]) ?_
              refine q_imul hx hb dX4_likeness_89 ?_
              refine q_icmp_ge (tgt := 200) hx hb ⟨by omega, by omega⟩ ⟨by omega, by omega⟩ dX4_likeness_90 (by decide) (fun c_5 => ?_) (fun c_5 => ?_)
              · -- ((S 0 16 x) * (S 0 17 x)) ≤ n
                refine lv_iload hx hb dX4_likeness_200 (lv_at hl 2 rfl) ?_
                refine lv_iload hx hb dX4_likeness_202 (lv_at hl 1 rfl) ?_
                refine q_icmp_ge (tgt := 212) hx hb (zta_r zta zn.1 (by omega)) (zta_r ztb zn.1 (by omega)) dX4_likeness_204 (by decide) (fun c_6 => ?_) (fun c_6 => ?_)
                · -- tb ≤ ta
                  refine lv_iload hx hb dX4_likeness_212 (lv_at hl 2 rfl) ?_
                  subst hQm
                  exact q_iret hx hb hr hlocks hP hS (by exact ⟨rfl, Or.inr ⟨c_2, (ri (by rw [eS1]; exact lkM_yes qS1 (by assumption) (by assumption) zta ztb (by omega) (by exact Or.inl ⟨by omega, rfl⟩))), eS1.symm⟩⟩) (by decide) (by decide) dX4_likeness_214
                · -- ta < tb
                  refine lv_iload hx hb dX4_likeness_207 (lv_at hl 1 rfl) ?_
                  refine lv_goto (tgt := 214) hx hb dX4_likeness_209 (by decide) ?_
                  subst hQm
                  exact q_iret hx hb hr hlocks hP hS (by exact ⟨rfl, Or.inr ⟨c_2, (ri (by rw [eS1]; exact lkM_yes qS1 (by assumption) (by assumption) zta ztb (by omega) (by exact Or.inr ⟨by omega, rfl⟩))), eS1.symm⟩⟩) (by decide) (by decide) dX4_likeness_214
              · -- n < ((S 0 16 x) * (S 0 17 x))
                obtain ⟨hm1, hm2, hm3, hm4⟩ := dmb (n := n) (C := S 0 16 x) (R := S 0 17 x) zn.1 (by omega) (by omega)
                refine lv_iload hx hb dX4_likeness_93 (lv_at hl 0 rfl) ?_
                refine lv_aload_n hx hb dX4_likeness_95 rfl (lv_at hl 4 rfl) ?_
                refine p_get (k := 0) hx hb hown hK hP aS1_0 rfl rfl rfl (lay_X4 hK) 16 714 (by decide) t_714 rfl rfl dX4_likeness_96 ?_
                refine lv_iload_n hx hb dX4_likeness_99 rfl (lv_at hl 5 rfl) ?_
                refine p_iald (k := 0) (r := 17) (n := 20) hx hb hK hP aS1_0 rfl rfl (by decide) (by decide) (by omega) (by omega) dX4_likeness_100 ?_
                refine q_nm (show S1 0 17 x = S 0 17 x from by rw [qS1, if_neg (by omega)]) ?_
                refine q_idiv hx hb (by omega) (by omega) (by omega) (by omega) dX4_likeness_101 ?_
                refine lv_istore (lv' := [(7, .int (i32 (n / (S 0 17 x)))), (6, .int (i32 (n))), (5, .int (i32 (tb))), (4, .int (i32 (ta))), (3, .int (i32 (b2 ((isP S x) ∧ (isC S i))))), (0, .ref (ad 0 0)), (1, .int (i32 (x))), (2, .int (i32 (i)))]) hx hb dX4_likeness_102 hl (by decide) rfl (fun ls hl => ?_)
                refine lv_iload hx hb dX4_likeness_104 (lv_at hl 1 rfl) ?_
                refine lv_aload_n hx hb dX4_likeness_106 rfl (lv_at hl 5 rfl) ?_
                refine p_get (k := 0) hx hb hown hK hP aS1_0 rfl rfl rfl (lay_X4 hK) 16 714 (by decide) t_714 rfl rfl dX4_likeness_107 ?_
                refine lv_iload_n hx hb dX4_likeness_110 rfl (lv_at hl 6 rfl) ?_
                refine p_iald (k := 0) (r := 17) (n := 20) hx hb hK hP aS1_0 rfl rfl (by decide) (by decide) (by omega) (by omega) dX4_likeness_111 ?_
                refine q_nm (show S1 0 17 x = S 0 17 x from by rw [qS1, if_neg (by omega)]) ?_
                refine q_irem hx hb (by omega) (by omega) (by omega) (by omega) dX4_likeness_112 ?_
                refine lv_istore (lv' := [(8, .int (i32 (n % (S 0 17 x)))), (7, .int (i32 (n / (S 0 17 x)))), (6, .int (i32 (n))), (5, .int (i32 (tb))), (4, .int (i32 (ta))), (3, .int (i32 (b2 ((isP S x) ∧ (isC S i))))), (0, .ref (ad 0 0)), (1, .int (i32 (x))), (2, .int (i32 (i)))]) hx hb dX4_likeness_113 hl (by decide) rfl (fun ls hl => ?_)
                refine lv_iload hx hb dX4_likeness_115 (lv_at hl 4 rfl) ?_
                refine lv_aload_n hx hb dX4_likeness_117 rfl (lv_at hl 6 rfl) ?_
                refine p_get (k := 0) hx hb hown hK hP aS1_0 rfl rfl rfl (lay_X4 hK) 24 722 (by decide) t_722 rfl rfl dX4_likeness_118 ?_
                refine lv_iload_n hx hb dX4_likeness_121 rfl (lv_at hl 7 rfl) ?_
                refine lv_iload hx hb dX4_likeness_122 (lv_at hl 1 rfl) ?_
                refine lv_iload hx hb dX4_likeness_124 (lv_at hl 0 rfl) ?_
                refine q_callS hx hb hml hl.1 hown hK hZ hP hS (c_X4_at l g base ad S1 x (n / (S 0 17 x)) (n % (S 0 17 x)) ) t_841 (q_callB hK 840 36 842 t_840 t_36 t_842 f_yX4_at ⟨by decide, by decide⟩) rfl rfl (Nat.le_of_ble_eq_true rfl) dX4_likeness_126 ⟨by decide, by decide⟩  (q_an (fun H locs hP hS => ?_))
                refine p_iald (k := 0) (r := 25) (n := 4800) hx hb hK hP aS1_0 rfl rfl (by decide) (by decide) (by omega) (by omega) dX4_likeness_129 ?_
                refine q_nm (show S1 0 25 (240 * x + 10 * (n / (S 0 17 x)) + (n % (S 0 17 x))) = S 0 25 (240 * x + 10 * (n / (S 0 17 x)) + (n % (S 0 17 x))) from by rw [qS1, if_neg (by omega)]) ?_
                refine lv_aload_n hx hb dX4_likeness_130 rfl (lv_at hl 6 rfl) ?_
                refine lv_iload_n hx hb dX4_likeness_131 rfl (lv_at hl 8 rfl) ?_
                refine lv_iload hx hb dX4_likeness_132 (lv_at hl 0 rfl) ?_
                refine lv_iload hx hb dX4_likeness_134 (lv_at hl 1 rfl) ?_
                refine q_callV (k := 0) hx hb hml hl.1 hown hK hZ hP hS aS1_0 rfl rfl rfl (c_X4_drawnAt l g base ad S1 i (n % (S 0 17 x)) (n / (S 0 17 x)) wS1 (by omega) (by omega) (by omega)) t_853 t_18 (q_callB hK 851 36 854 t_851 t_36 t_854 f_yX4_drawnAt ⟨by decide, by decide⟩) rfl rfl (Nat.le_of_ble_eq_true rfl) dX4_likeness_136 ⟨by decide, by decide⟩  (q_an (fun H locs hP hS => ?_))
                have J147 : ∀ (H : Heap) (locs : List Loc), pic g base ad S1 H → va_S (fun q => base ≤ q) s.heap H locs → W p l e ({ frames := 2, cells := 0, slots := 0, locals := 43 } : Room) s m av below meth cz H locs 0 0 Qm (F0 m 147 ls (Value.int (i32 (b2 (((S 0 25 (240 * x + 10 * (n / (S 0 17 x)) + (n % (S 0 17 x)))) = (drM S1 i (n % (S 0 17 x)) (n / (S 0 17 x))))))) :: Value.int (i32 (ta)) :: [])) := by
                  intro H locs hP hS
                  refine q_iadd hx hb dX4_likeness_147 ?_
                  refine lv_istore (lv' := [(4, .int (i32 (ta + (b2 (((S 0 25 (240 * x + 10 * (n / (S 0 17 x)) + (n % (S 0 17 x)))) = (drM S1 i (n % (S 0 17 x)) (n / (S 0 17 x))))))))), (8, .int (i32 (n % (S 0 17 x)))), (7, .int (i32 (n / (S 0 17 x)))), (6, .int (i32 (n))), (5, .int (i32 (tb))), (3, .int (i32 (b2 ((isP S x) ∧ (isC S i))))), (0, .ref (ad 0 0)), (1, .int (i32 (x))), (2, .int (i32 (i)))]) hx hb dX4_likeness_148 hl (by decide) rfl (fun ls hl => ?_)
                  refine lv_iload hx hb dX4_likeness_150 (lv_at hl 4 rfl) ?_
                  refine lv_aload_n hx hb dX4_likeness_152 rfl (lv_at hl 6 rfl) ?_
                  refine p_get (k := 0) hx hb hown hK hP aS1_0 rfl rfl rfl (lay_X4 hK) 24 722 (by decide) t_722 rfl rfl dX4_likeness_153 ?_
                  refine lv_iload_n hx hb dX4_likeness_156 rfl (lv_at hl 7 rfl) ?_
                  refine lv_iload hx hb dX4_likeness_157 (lv_at hl 2 rfl) ?_
                  refine lv_iload hx hb dX4_likeness_159 (lv_at hl 1 rfl) ?_
                  refine q_callS hx hb hml hl.1 hown hK hZ hP hS (c_X4_at l g base ad S1 x (n / (S 0 17 x)) (n % (S 0 17 x)) ) t_841 (q_callB hK 840 36 842 t_840 t_36 t_842 f_yX4_at ⟨by decide, by decide⟩) rfl rfl (Nat.le_of_ble_eq_true rfl) dX4_likeness_161 ⟨by decide, by decide⟩  (q_an (fun H locs hP hS => ?_))
                  refine p_iald (k := 0) (r := 25) (n := 4800) hx hb hK hP aS1_0 rfl rfl (by decide) (by decide) (by omega) (by omega) dX4_likeness_164 ?_
                  refine q_nm (show S1 0 25 (240 * x + 10 * (n / (S 0 17 x)) + (n % (S 0 17 x))) = S 0 25 (240 * x + 10 * (n / (S 0 17 x)) + (n % (S 0 17 x))) from by rw [qS1, if_neg (by omega)]) ?_
                  refine lv_aload_n hx hb dX4_likeness_165 rfl (lv_at hl 6 rfl) ?_
                  refine lv_iload_n hx hb dX4_likeness_166 rfl (lv_at hl 8 rfl) ?_
                  refine lv_iload hx hb dX4_likeness_167 (lv_at hl 1 rfl) ?_
                  refine lv_aload_n hx hb dX4_likeness_169 rfl (lv_at hl 6 rfl) ?_
                  refine p_get (k := 0) hx hb hown hK hP aS1_0 rfl rfl rfl (lay_X4 hK) 15 713 (by decide) t_713 rfl rfl dX4_likeness_170 ?_
                  refine lv_iload_n hx hb dX4_likeness_173 rfl (lv_at hl 7 rfl) ?_
                  refine p_iald (k := 0) (r := 16) (n := 20) hx hb hK hP aS1_0 rfl rfl (by decide) (by decide) (by omega) (by omega) dX4_likeness_174 ?_
                  refine q_nm (show S1 0 16 x = S 0 16 x from by rw [qS1, if_neg (by omega)]) ?_
                  refine lv_iconst (v := i32 (1)) hx hb dX4_likeness_175 rfl ?_
                  refine q_isub hx hb dX4_likeness_176 ?_
                  refine lv_iload hx hb dX4_likeness_177 (lv_at hl 2 rfl) ?_
                  refine q_isub hx hb dX4_likeness_179 ?_
                  refine q_callV (k := 0) hx hb hml hl.1 hown hK hZ hP hS aS1_0 rfl rfl rfl (c_X4_drawnAt l g base ad S1 i (n % (S 0 17 x)) (((S 0 16 x) - 1) - (n / (S 0 17 x))) wS1 (by omega) (by omega) (by omega)) t_853 t_18 (q_callB hK 851 36 854 t_851 t_36 t_854 f_yX4_drawnAt ⟨by decide, by decide⟩) rfl rfl (Nat.le_of_ble_eq_true rfl) dX4_likeness_180 ⟨by decide, by decide⟩  (q_an (fun H locs hP hS => ?_))
                  have J191 : ∀ (H : Heap) (locs : List Loc), pic g base ad S1 H → va_S (fun q => base ≤ q) s.heap H locs → W p l e ({ frames := 2, cells := 0, slots := 0, locals := 43 } : Room) s m av below meth cz H locs 0 0 Qm (F0 m 191 ls (Value.int (i32 (b2 (((S 0 25 (240 * x + 10 * (n / (S 0 17 x)) + (n % (S 0 17 x)))) = (drM S1 i (n % (S 0 17 x)) (((S 0 16 x) - 1) - (n / (S 0 17 x)))))))) :: Value.int (i32 (tb)) :: [])) := by
                    intro H locs hP hS
                    refine q_iadd hx hb dX4_likeness_191 ?_
                    refine lv_istore (lv' := [(5, .int (i32 (tb + (b2 (((S 0 25 (240 * x + 10 * (n / (S 0 17 x)) + (n % (S 0 17 x)))) = (drM S1 i (n % (S 0 17 x)) (((S 0 16 x) - 1) - (n / (S 0 17 x)))))))))), (4, .int (i32 (ta + (b2 (((S 0 25 (240 * x + 10 * (n / (S 0 17 x)) + (n % (S 0 17 x)))) = (drM S1 i (n % (S 0 17 x)) (n / (S 0 17 x))))))))), (8, .int (i32 (n % (S 0 17 x)))), (7, .int (i32 (n / (S 0 17 x)))), (6, .int (i32 (n))), (3, .int (i32 (b2 ((isP S x) ∧ (isC S i))))), (0, .ref (ad 0 0)), (1, .int (i32 (x))), (2, .int (i32 (i)))]) hx hb dX4_likeness_192 hl (by decide) rfl (fun ls hl => ?_)
                    refine lv_iinc (v := i32 (n + 1)) (lv' := [(6, .int (i32 (n + 1))), (5, .int (i32 (tb + (b2 (((S 0 25 (240 * x + 10 * (n / (S 0 17 x)) + (n % (S 0 17 x)))) = (drM S1 i (n % (S 0 17 x)) (((S 0 16 x) - 1) - (n / (S 0 17 x)))))))))), (4, .int (i32 (ta + (b2 (((S 0 25 (240 * x + 10 * (n / (S 0 17 x)) + (n % (S 0 17 x)))) = (drM S1 i (n % (S 0 17 x)) (n / (S 0 17 x))))))))), (8, .int (i32 (n % (S 0 17 x)))), (7, .int (i32 (n / (S 0 17 x)))), (3, .int (i32 (b2 ((isP S x) ∧ (isC S i))))), (0, .ref (ad 0 0)), (1, .int (i32 (x))), (2, .int (i32 (i)))]) hx hb dX4_likeness_194 hl (k := 4) rfl (i32_add _ _) (by decide) rfl (fun ls hl => ?_)
                    refine lv_goto (tgt := 75) hx hb dX4_likeness_197 (by decide) ?_
                    exact ih75 (ta + (b2 (((S 0 25 (240 * x + 10 * (n / (S 0 17 x)) + (n % (S 0 17 x)))) = (drM S1 i (n % (S 0 17 x)) (n / (S 0 17 x))))))) (tb + (b2 (((S 0 25 (240 * x + 10 * (n / (S 0 17 x)) + (n % (S 0 17 x)))) = (drM S1 i (n % (S 0 17 x)) (((S 0 16 x) - 1) - (n / (S 0 17 x)))))))) (n + 1) _ _ _ (by omega) (by rw [sm_1 _ zn.1, ← zta]; rfl) (by rw [sm_1 _ zn.1, ← ztb]; rfl) (by omega) hP hS (lv_sub hl [0, 1, 2, 5, 6, 7, 8] rfl)
                  refine q_icmp_ne (tgt := 190) hx hb (rS _ _ _) (drM_rng rS1 _ _ _) dX4_likeness_183 (by decide) (fun c_7 => ?_) (fun c_7 => ?_)
                  · -- (S 0 25 (240 * x + 10 * (n / (S 0 17 x)) + (n % (S 0 17 x)))) ≠ (drM S1 i (n % (S 0 17 x)) (((S 0 16 x) - 1) - (n / (S 0 17 x))))
                    refine lv_iconst (v := i32 (0)) hx hb dX4_likeness_190 rfl ?_
                    refine q_nm (b2_f (show ¬ (((S 0 25 (240 * x + 10 * (n / (S 0 17 x)) + (n % (S 0 17 x)))) = (drM S1 i (n % (S 0 17 x)) (((S 0 16 x) - 1) - (n / (S 0 17 x)))))) from by first | omega | (simp only [*]; done) | simp_all)).symm ?_
                    exact J191 _ _ hP hS
                  · -- (S 0 25 (240 * x + 10 * (n / (S 0 17 x)) + (n % (S 0 17 x)))) = (drM S1 i (n % (S 0 17 x)) (((S 0 16 x) - 1) - (n / (S 0 17 x))))
                    refine lv_iconst (v := i32 (1)) hx hb dX4_likeness_186 rfl ?_
                    refine lv_goto (tgt := 191) hx hb dX4_likeness_187 (by decide) ?_
                    refine q_nm (b2_t (show ((S 0 25 (240 * x + 10 * (n / (S 0 17 x)) + (n % (S 0 17 x)))) = (drM S1 i (n % (S 0 17 x)) (((S 0 16 x) - 1) - (n / (S 0 17 x))))) from by first | omega | (simp only [*]; done) | simp_all)).symm ?_
                    exact J191 _ _ hP hS
                refine q_icmp_ne (tgt := 146) hx hb (rS _ _ _) (drM_rng rS1 _ _ _) dX4_likeness_139 (by decide) (fun c_8 => ?_) (fun c_8 => ?_)
                · -- (S 0 25 (240 * x + 10 * (n / (S 0 17 x)) + (n % (S 0 17 x)))) ≠ (drM S1 i (n % (S 0 17 x)) (n / (S 0 17 x)))
                  refine lv_iconst (v := i32 (0)) hx hb dX4_likeness_146 rfl ?_
                  refine q_nm (b2_f (show ¬ (((S 0 25 (240 * x + 10 * (n / (S 0 17 x)) + (n % (S 0 17 x)))) = (drM S1 i (n % (S 0 17 x)) (n / (S 0 17 x))))) from by first | omega | (simp only [*]; done) | simp_all)).symm ?_
                  exact J147 _ _ hP hS
                · -- (S 0 25 (240 * x + 10 * (n / (S 0 17 x)) + (n % (S 0 17 x)))) = (drM S1 i (n % (S 0 17 x)) (n / (S 0 17 x)))
                  refine lv_iconst (v := i32 (1)) hx hb dX4_likeness_142 rfl ?_
                  refine lv_goto (tgt := 147) hx hb dX4_likeness_143 (by decide) ?_
                  refine q_nm (b2_t (show ((S 0 25 (240 * x + 10 * (n / (S 0 17 x)) + (n % (S 0 17 x)))) = (drM S1 i (n % (S 0 17 x)) (n / (S 0 17 x)))) from by first | omega | (simp only [*]; done) | simp_all)).symm ?_
                  exact J147 _ _ hP hS
          exact L75 ((S 0 16 x * S 0 17 x - 0) + 1).toNat 0 0 0 _ _ _ (by omega) (by rfl) (by rfl) (by omega) hP hS (lv_sub hl [0, 1, 2, 3, 4, 5, 6] rfl)
        · -- (S 0 17 x) ≠ (S 0 5 i)
          refine lv_iconst (v := i32 (-1)) hx hb dX4_likeness_64 rfl ?_
          subst hQm
          exact q_iret hx hb hr hlocks hP hS (by exact ⟨rfl, Or.inr ⟨c_2, (ri (by rw [eS1]; exact lkM_n2 qS1 (by assumption))), eS1.symm⟩⟩) (by decide) (by decide) dX4_likeness_65
    · -- ¬ (((isP S x) ∧ (isC S i)) ∧ True ∧ True)
      refine lv_iconst (v := i32 (0)) hx hb dX4_likeness_32 rfl ?_
      subst hQm
      exact q_iret hx hb hr hlocks hP hS (by subst eS1; exact ⟨rfl, Or.inl ⟨c_2, rfl, rfl⟩⟩) (by decide) (by decide) dX4_likeness_33
  refine q_if_eqb (tgt := 20) hx hb dX4_likeness_5 (by decide) (fun c_9 => ?_) (fun c_9 => ?_)
  · -- ¬ (isP S x)
    refine lv_iconst (v := i32 (0)) hx hb dX4_likeness_20 rfl ?_
    refine q_nm (b2_f (show ¬ ((isP S x) ∧ (isC S i)) from by first | omega | (simp only [*]; done) | simp_all)).symm ?_
    exact J21 _ _ hP hS
  · -- isP S x
    refine lv_aload_n hx hb dX4_likeness_8 rfl (lv_at hl 0 rfl) ?_
    refine lv_iload_n hx hb dX4_likeness_9 rfl (lv_at hl 2 rfl) ?_
    refine q_callV (k := 0) hx hb hml hl.1 hown hK hZ hP hS hw.al rfl rfl rfl (c_X4_isCartoon l g base ad S i hw hrn2) t_815 t_15 (q_callB hK 813 36 816 t_813 t_36 t_816 f_yX4_isCartoon ⟨by decide, by decide⟩) rfl rfl (Nat.le_of_ble_eq_true rfl) dX4_likeness_10 ⟨by decide, by decide⟩  (q_an (fun H locs hP hS => ?_))
    refine q_if_eqb (tgt := 20) hx hb dX4_likeness_13 (by decide) (fun c_10 => ?_) (fun c_10 => ?_)
    · -- ¬ (isC S i)
      refine lv_iconst (v := i32 (0)) hx hb dX4_likeness_20 rfl ?_
      refine q_nm (b2_f (show ¬ ((isP S x) ∧ (isC S i)) from by first | omega | (simp only [*]; done) | simp_all)).symm ?_
      exact J21 _ _ hP hS
    · -- isC S i
      refine lv_iconst (v := i32 (1)) hx hb dX4_likeness_16 rfl ?_
      refine lv_goto (tgt := 21) hx hb dX4_likeness_17 (by decide) ?_
      refine q_nm (b2_t (show (isP S x) ∧ (isC S i) from by first | omega | (simp only [*]; done) | simp_all)).symm ?_
      exact J21 _ _ hP hS
