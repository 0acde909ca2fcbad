set_option maxHeartbeats 4000000 in
set_option maxRecDepth 100000 in
theorem c_X4_loom (l : Launch) (g : GT) (base : Nat) (ad : Nat → Nat → Nat) (S : St) (i n : Int) (mi : Prop) (hw : wM S) (hrn : rng i) (hrn2 : rng n) : Met l yX4_loom [Cond.code yX4_loom cX4_loom 9 (some FieldType.int)] ({ frames := 2, cells := 0, slots := 0, locals := 43 }) (va_Pc [.ref (ad 0 0), .int (i32 (i)), .int (i32 (n)), .int (i32 (b2 (mi)))] (PK g base ad S)) (gQ g base (mP ad (isC S i) (((1 ≤ n ∧ n ≤ 4) ∧ (¬ (isC S i)) ∧ (n ≤ (S 0 4 0))) ∨ ((1 ≤ n ∧ n ≤ 4) ∧ (isC S i) ∧ (n ≤ (S 0 4 i)))) ((isC S i) ∧ (0 < (S 0 5 i)) ∧ ((S 0 0 14) < 20)) S (some (.int (i32 (((S 0 0 14) + 1) - 1)))) (fun Z => ∀ (a1 b1 : Nat) (i1 : Int), Z a1 b1 i1 = if a1 = 0 ∧ b1 = 0 ∧ i1 = 14 then (S 0 0 14) + 1 else lmF (st (st (st (st (st S 0 0 27 (thr (isC S i) (((1 ≤ n ∧ n ≤ 4) ∧ (¬ (isC S i)) ∧ (n ≤ (S 0 4 0))) ∨ ((1 ≤ n ∧ n ≤ 4) ∧ (isC S i) ∧ (n ≤ (S 0 4 i)))) ((isC S i) ∧ (0 < (S 0 5 i)) ∧ ((S 0 0 14) < 20)))) 0 16 (S 0 0 14) (S 0 4 i)) 0 21 (S 0 0 14) (S 0 4 i)) 0 17 (S 0 0 14) (S 0 5 i)) 0 18 (S 0 0 14) n) (S 0 0 14) (S 0 5 i) (S 0 4 i) 0 (S 0 4 i) (fun r1 c1 => drM S i r1 (cif mi (S 0 4 i - 1 - c1) c1)) a1 b1 i1))) 0 0 (fun q => base ≤ q) := by
  refine mk_m (own := RX4) (lv0 := [(0, .ref (ad 0 0)), (1, .int (i32 (i))), (2, .int (i32 (n))), (3, .int (i32 (b2 (mi))))]) (by decide) rfl (Nat.le_of_ble_eq_true rfl) rfl ?_
  intro p e s m below meth cz av Qm hx hb hr hml hown hlocks hK hZ hP hQm ls hl
  have hS : va_S (fun q => base ≤ q) s.heap s.heap [] := va_S.rf
  have rS : ∀ (a1 b1 : Nat) (i1 : Int), rng (S a1 b1 i1) := fun a1 b1 i1 => hP.rg a1 b1 i1
  obtain ⟨hp1, hp2⟩ := hw.ps
  obtain ⟨hk1, hk2⟩ := hw.cs
  refine lv_aload_n hx hb dX4_loom_0 rfl (lv_at hl 0 rfl) ?_
  refine lv_iload_n hx hb dX4_loom_1 rfl (lv_at hl 1 rfl) ?_
  refine q_callV (k := 0) hx hb hml hl.1 hown hK hZ hP hS hw.al rfl rfl rfl (c_X4_isCartoon l g base ad S i hw hrn) t_815 t_15 (q_callB hK 813 36 816 t_813 t_36 t_816 f_yX4_isCartoon ⟨by decide, by decide⟩) rfl rfl (Nat.le_of_ble_eq_true rfl) dX4_loom_2 ⟨by decide, by decide⟩  (q_an (fun H locs hP hS => ?_))
  refine lv_istore (lv' := [(4, .int (i32 (b2 (isC S i)))), (0, .ref (ad 0 0)), (1, .int (i32 (i))), (2, .int (i32 (n))), (3, .int (i32 (b2 (mi))))]) hx hb dX4_loom_5 hl (by decide) rfl (fun ls hl => ?_)
  refine lv_iload_n hx hb dX4_loom_7 rfl (lv_at hl 3 rfl) ?_
  refine lv_iconst (v := i32 (1)) hx hb dX4_loom_8 rfl ?_
  refine lv_iconst (v := i32 (4)) hx hb dX4_loom_9 rfl ?_
  refine q_callS hx hb hml hl.1 hown hK hZ hP hS (c_X4_in l g base ad S n 1 4 hrn2 ⟨by decide, by decide⟩ ⟨by decide, by decide⟩) t_807 (q_callB hK 806 36 808 t_806 t_36 t_808 f_yX4_in ⟨by decide, by decide⟩) rfl rfl (Nat.le_of_ble_eq_true rfl) dX4_loom_10 ⟨by decide, by decide⟩  (q_an (fun H locs hP hS => ?_))
  have J40 : ∀ (H : Heap) (locs : List Loc), pic g base ad S H → va_S (fun q => base ≤ q) s.heap H locs → W p l e ({ frames := 2, cells := 0, slots := 0, locals := 43 } : Room) s m av below meth cz H locs 0 0 Qm (F0 m 40 ls (Value.int (i32 (b2 (((1 ≤ n ∧ n ≤ 4) ∧ (¬ (isC S i)) ∧ (n ≤ (S 0 4 0))) ∨ ((1 ≤ n ∧ n ≤ 4) ∧ (isC S i) ∧ (n ≤ (S 0 4 i)))))) :: [])) := by
    intro H locs hP hS
    refine lv_istore (lv' := [(5, .int (i32 (b2 (((1 ≤ n ∧ n ≤ 4) ∧ (¬ (isC S i)) ∧ (n ≤ (S 0 4 0))) ∨ ((1 ≤ n ∧ n ≤ 4) ∧ (isC S i) ∧ (n ≤ (S 0 4 i))))))), (4, .int (i32 (b2 (isC S i)))), (0, .ref (ad 0 0)), (1, .int (i32 (i))), (2, .int (i32 (n))), (3, .int (i32 (b2 (mi))))]) hx hb dX4_loom_40 hl (by decide) rfl (fun ls hl => ?_)
    refine lv_aload_n hx hb dX4_loom_42 rfl (lv_at hl 2 rfl) ?_
    refine lv_iload hx hb dX4_loom_43 (lv_at hl 1 rfl) ?_
    refine lv_iload hx hb dX4_loom_45 (lv_at hl 0 rfl) ?_
    refine lv_iload hx hb dX4_loom_47 (lv_at hl 1 rfl) ?_
    have J84 : ∀ (H : Heap) (locs : List Loc), pic g base ad S H → va_S (fun q => base ≤ q) s.heap H locs → W p l e ({ frames := 2, cells := 0, slots := 0, locals := 43 } : Room) s m av below meth cz H locs 0 0 Qm (F0 m 84 ls (Value.int (i32 (b2 ((isC S i) ∧ (0 < (S 0 5 i)) ∧ ((S 0 0 14) < 20)))) :: Value.int (i32 (b2 (((1 ≤ n ∧ n ≤ 4) ∧ (¬ (isC S i)) ∧ (n ≤ (S 0 4 0))) ∨ ((1 ≤ n ∧ n ≤ 4) ∧ (isC S i) ∧ (n ≤ (S 0 4 i)))))) :: Value.int (i32 (b2 (isC S i))) :: Value.ref (ad 0 0) :: [])) := by
      intro H locs hP hS
      refine q_callV (k := 0) hx hb hml hl.1 hown hK hZ hP hS hw.al rfl rfl rfl (c_X4_goes l g base ad S (isC S i) (((1 ≤ n ∧ n ≤ 4) ∧ (¬ (isC S i)) ∧ (n ≤ (S 0 4 0))) ∨ ((1 ≤ n ∧ n ≤ 4) ∧ (isC S i) ∧ (n ≤ (S 0 4 i)))) ((isC S i) ∧ (0 < (S 0 5 i)) ∧ ((S 0 0 14) < 20)) hw.al) t_796 t_14 (q_callB hK 794 36 797 t_794 t_36 t_797 f_yX4_goes ⟨by decide, by decide⟩) rfl rfl (Nat.le_of_ble_eq_true rfl) dX4_loom_84 ⟨by decide, by decide⟩  (q_an (fun H locs hP hS => ?_))
      generalize eS1 : st S 0 0 27 (thr (isC S i) (((1 ≤ n ∧ n ≤ 4) ∧ (¬ (isC S i)) ∧ (n ≤ (S 0 4 0))) ∨ ((1 ≤ n ∧ n ≤ 4) ∧ (isC S i) ∧ (n ≤ (S 0 4 i)))) ((isC S i) ∧ (0 < (S 0 5 i)) ∧ ((S 0 0 14) < 20))) = S1 at hP
      have rS1 : ∀ (a1 b1 : Nat) (i1 : Int), rng (S1 a1 b1 i1) := fun a1 b1 i1 => hP.rg a1 b1 i1
      have qS1 : ∀ (a1 b1 : Nat) (i1 : Int), S1 a1 b1 i1 = if a1 = 0 ∧ b1 = 0 ∧ i1 = 27 then thr (isC S i) (((1 ≤ n ∧ n ≤ 4) ∧ (¬ (isC S i)) ∧ (n ≤ (S 0 4 0))) ∨ ((1 ≤ n ∧ n ≤ 4) ∧ (isC S i) ∧ (n ≤ (S 0 4 i)))) ((isC S i) ∧ (0 < (S 0 5 i)) ∧ ((S 0 0 14) < 20)) else S a1 b1 i1 := fun a1 b1 i1 => by rw [← eS1]; exact st_at _ _ _ _ _ _ _ _
      have aS1_0 : S1 0 0 (-1) = 1 := by rw [qS1, if_neg (by omega)]; exact hw.al
      have wS1 : wM S1 := wM.keep hw (fun r j h => by unfold wrow at h; rw [qS1, if_neg (by omega)])
      refine q_if_neb (tgt := 92) hx hb dX4_loom_87 (by decide) (fun c_2 => ?_) (fun c_2 => ?_)
      · -- (isC S i) ∧ (((1 ≤ n ∧ n ≤ 4) ∧ (¬ (isC S i)) ∧ (n ≤ (S 0 4 0))) ∨ ((1 ≤ n ∧ n ≤ 4) ∧ (isC S i) ∧ (n ≤ (S 0 4 i)))) ∧ ((isC S i) ∧ (0 < (S 0 5 i)) ∧ ((S 0 0 14) < 20))
        obtain ⟨⟨hi1, hi2⟩, hbl, -, hi3, hi4⟩ := id c_2
        have hn14 : (1 ≤ n ∧ n ≤ 4) ∧ n ≤ S 0 4 i := by
          rcases hbl with ⟨h1, h2, h3⟩ | ⟨h1, h2, h3⟩
          · exact absurd ⟨hi1, hi2⟩ h2
          · exact ⟨h1, h3⟩
        obtain ⟨hg1, hg2, hg3, hg4⟩ := hw.cw i (by omega) (by omega)
        refine lv_aload_n hx hb dX4_loom_92 rfl (lv_at hl 2 rfl) ?_
        refine p_get (k := 0) hx hb hown hK hP aS1_0 rfl rfl rfl (lay_X4 hK) 3 701 (by decide) t_701 rfl rfl dX4_loom_93 ?_
        refine lv_iload_n hx hb dX4_loom_96 rfl (lv_at hl 3 rfl) ?_
        refine p_iald (k := 0) (r := 4) (n := 5) hx hb hK hP aS1_0 rfl rfl (by decide) (by decide) (by omega) (by omega) dX4_loom_97 ?_
        refine q_nm (show S1 0 4 i = S 0 4 i from by rw [qS1, if_neg (by omega)]) ?_
        refine lv_istore (lv' := [(6, .int (i32 (S 0 4 i))), (5, .int (i32 (b2 (((1 ≤ n ∧ n ≤ 4) ∧ (¬ (isC S i)) ∧ (n ≤ (S 0 4 0))) ∨ ((1 ≤ n ∧ n ≤ 4) ∧ (isC S i) ∧ (n ≤ (S 0 4 i))))))), (4, .int (i32 (b2 (isC S i)))), (0, .ref (ad 0 0)), (1, .int (i32 (i))), (2, .int (i32 (n))), (3, .int (i32 (b2 (mi))))]) hx hb dX4_loom_98 hl (by decide) rfl (fun ls hl => ?_)
        refine lv_aload_n hx hb dX4_loom_100 rfl (lv_at hl 3 rfl) ?_
        refine p_get (k := 0) hx hb hown hK hP aS1_0 rfl rfl rfl (lay_X4 hK) 15 713 (by decide) t_713 rfl rfl dX4_loom_101 ?_
        refine lv_aload_n hx hb dX4_loom_104 rfl (lv_at hl 3 rfl) ?_
        refine p_get (k := 0) hx hb hown hK hP aS1_0 rfl rfl rfl (lay_X4 hK) 14 712 (by decide) t_712 rfl rfl dX4_loom_105 ?_
        refine q_nm (show S1 0 0 14 = S 0 0 14 from by rw [qS1, if_neg (by omega)]) ?_
        refine lv_iload hx hb dX4_loom_108 (lv_at hl 0 rfl) ?_
        refine p_iast (k := 0) (r := 16) (n := 20) hx hb hK hP hS aS1_0 rfl rfl (by decide) (by decide) (by omega) (by omega) (rS _ _ _) dX4_loom_110 (fun H locs hP hS => ?_)
        generalize eS3 : st S1 0 16 (S 0 0 14) (S 0 4 i) = S3 at hP
        have qS3 : ∀ (a1 b1 : Nat) (i1 : Int), S3 a1 b1 i1 = if a1 = 0 ∧ b1 = 16 ∧ i1 = S 0 0 14 then S 0 4 i else S1 a1 b1 i1 := fun a1 b1 i1 => by rw [← eS3]; exact st_at _ _ _ _ _ _ _ _
        have rS3 : ∀ (a1 b1 : Nat) (i1 : Int), rng (S3 a1 b1 i1) := fun a1 b1 i1 => hP.rg a1 b1 i1
        have aS3_0 : S3 0 0 (-1) = 1 := by rw [qS3, if_neg (by omega)]; exact aS1_0
        have wS3 : wM S3 := wM_16 wS1 qS3 (by omega) (by omega)
        refine lv_aload_n hx hb dX4_loom_111 rfl (lv_at hl 3 rfl) ?_
        refine p_get (k := 0) hx hb hown hK hP aS3_0 rfl rfl rfl (lay_X4 hK) 20 718 (by decide) t_718 rfl rfl dX4_loom_112 ?_
        refine lv_aload_n hx hb dX4_loom_115 rfl (lv_at hl 3 rfl) ?_
        refine p_get (k := 0) hx hb hown hK hP aS3_0 rfl rfl rfl (lay_X4 hK) 14 712 (by decide) t_712 rfl rfl dX4_loom_116 ?_
        refine q_nm (show S3 0 0 14 = S 0 0 14 from by rw [qS3, if_neg (by omega), qS1, if_neg (by omega)]) ?_
        refine lv_iload hx hb dX4_loom_119 (lv_at hl 0 rfl) ?_
        refine p_iast (k := 0) (r := 21) (n := 20) hx hb hK hP hS aS3_0 rfl rfl (by decide) (by decide) (by omega) (by omega) (rS _ _ _) dX4_loom_121 (fun H locs hP hS => ?_)
        generalize eS4 : st S3 0 21 (S 0 0 14) (S 0 4 i) = S4 at hP
        have qS4 : ∀ (a1 b1 : Nat) (i1 : Int), S4 a1 b1 i1 = if a1 = 0 ∧ b1 = 21 ∧ i1 = S 0 0 14 then S 0 4 i else S3 a1 b1 i1 := fun a1 b1 i1 => by rw [← eS4]; exact st_at _ _ _ _ _ _ _ _
        have rS4 : ∀ (a1 b1 : Nat) (i1 : Int), rng (S4 a1 b1 i1) := fun a1 b1 i1 => hP.rg a1 b1 i1
        have aS4_0 : S4 0 0 (-1) = 1 := by rw [qS4, if_neg (by omega)]; exact aS3_0
        have wS4 : wM S4 := wM_21 wS3 qS4 (by omega) (by omega)
        refine lv_aload_n hx hb dX4_loom_122 rfl (lv_at hl 3 rfl) ?_
        refine p_get (k := 0) hx hb hown hK hP aS4_0 rfl rfl rfl (lay_X4 hK) 16 714 (by decide) t_714 rfl rfl dX4_loom_123 ?_
        refine lv_aload_n hx hb dX4_loom_126 rfl (lv_at hl 3 rfl) ?_
        refine p_get (k := 0) hx hb hown hK hP aS4_0 rfl rfl rfl (lay_X4 hK) 14 712 (by decide) t_712 rfl rfl dX4_loom_127 ?_
        refine q_nm (show S4 0 0 14 = S 0 0 14 from by rw [qS4, if_neg (by omega), qS3, if_neg (by omega), qS1, if_neg (by omega)]) ?_
        refine lv_aload_n hx hb dX4_loom_130 rfl (lv_at hl 3 rfl) ?_
        refine p_get (k := 0) hx hb hown hK hP aS4_0 rfl rfl rfl (lay_X4 hK) 4 702 (by decide) t_702 rfl rfl dX4_loom_131 ?_
        refine lv_iload_n hx hb dX4_loom_134 rfl (lv_at hl 4 rfl) ?_
        refine p_iald (k := 0) (r := 5) (n := 5) hx hb hK hP aS4_0 rfl rfl (by decide) (by decide) (by omega) (by omega) dX4_loom_135 ?_
        refine q_nm (show S4 0 5 i = S 0 5 i from by rw [qS4, if_neg (by omega), qS3, if_neg (by omega), qS1, if_neg (by omega)]) ?_
        refine p_iast (k := 0) (r := 17) (n := 20) hx hb hK hP hS aS4_0 rfl rfl (by decide) (by decide) (by omega) (by omega) (rS _ _ _) dX4_loom_136 (fun H locs hP hS => ?_)
        generalize eS5 : st S4 0 17 (S 0 0 14) (S 0 5 i) = S5 at hP
        have qS5 : ∀ (a1 b1 : Nat) (i1 : Int), S5 a1 b1 i1 = if a1 = 0 ∧ b1 = 17 ∧ i1 = S 0 0 14 then S 0 5 i else S4 a1 b1 i1 := fun a1 b1 i1 => by rw [← eS5]; exact st_at _ _ _ _ _ _ _ _
        have rS5 : ∀ (a1 b1 : Nat) (i1 : Int), rng (S5 a1 b1 i1) := fun a1 b1 i1 => hP.rg a1 b1 i1
        have aS5_0 : S5 0 0 (-1) = 1 := by rw [qS5, if_neg (by omega)]; exact aS4_0
        have wS5 : wM S5 := wM_17 wS4 qS5 (by omega) (by omega)
        refine lv_aload_n hx hb dX4_loom_137 rfl (lv_at hl 3 rfl) ?_
        refine p_get (k := 0) hx hb hown hK hP aS5_0 rfl rfl rfl (lay_X4 hK) 17 715 (by decide) t_715 rfl rfl dX4_loom_138 ?_
        refine lv_aload_n hx hb dX4_loom_141 rfl (lv_at hl 3 rfl) ?_
        refine p_get (k := 0) hx hb hown hK hP aS5_0 rfl rfl rfl (lay_X4 hK) 14 712 (by decide) t_712 rfl rfl dX4_loom_142 ?_
        refine q_nm (show S5 0 0 14 = S 0 0 14 from by rw [qS5, if_neg (by omega), qS4, if_neg (by omega), qS3, if_neg (by omega), qS1, if_neg (by omega)]) ?_
        refine lv_iload_n hx hb dX4_loom_145 rfl (lv_at hl 5 rfl) ?_
        refine p_iast (k := 0) (r := 18) (n := 20) hx hb hK hP hS aS5_0 rfl rfl (by decide) (by decide) (by omega) (by omega) hrn2 dX4_loom_146 (fun H locs hP hS => ?_)
        generalize eS6 : st S5 0 18 (S 0 0 14) n = S6 at hP
        have qS6 : ∀ (a1 b1 : Nat) (i1 : Int), S6 a1 b1 i1 = if a1 = 0 ∧ b1 = 18 ∧ i1 = S 0 0 14 then n else S5 a1 b1 i1 := fun a1 b1 i1 => by rw [← eS6]; exact st_at _ _ _ _ _ _ _ _
        have rS6 : ∀ (a1 b1 : Nat) (i1 : Int), rng (S6 a1 b1 i1) := fun a1 b1 i1 => hP.rg a1 b1 i1
        have aS6_0 : S6 0 0 (-1) = 1 := by rw [qS6, if_neg (by omega)]; exact aS5_0
        have wS6 : wM S6 := wM_18 wS5 qS6 (by omega) (by omega)
        refine lv_iconst (v := i32 (0)) hx hb dX4_loom_147 rfl ?_
        refine lv_istore (lv' := [(7, .int (i32 (0))), (6, .int (i32 (S 0 4 i))), (5, .int (i32 (b2 (((1 ≤ n ∧ n ≤ 4) ∧ (¬ (isC S i)) ∧ (n ≤ (S 0 4 0))) ∨ ((1 ≤ n ∧ n ≤ 4) ∧ (isC S i) ∧ (n ≤ (S 0 4 i))))))), (4, .int (i32 (b2 (isC S i)))), (0, .ref (ad 0 0)), (1, .int (i32 (i))), (2, .int (i32 (n))), (3, .int (i32 (b2 (mi))))]) hx hb dX4_loom_148 hl (by decide) rfl (fun ls hl => ?_)
        have L150 : ∀ (k : Nat) (q : Int) (Sa : St) (H : Heap) (locs : List Loc) (ls : Array Slot), (0 ≤ q ∧ q ≤ S 0 4 i) → (∀ (a1 b1 : Nat) (i1 : Int), Sa a1 b1 i1 = lmF S6 (S 0 0 14) (S 0 5 i) q 0 q (fun r1 c1 => drM S i r1 (cif mi (S 0 4 i - 1 - c1) c1)) a1 b1 i1) → S 0 4 i - q < (k : Int) → pic g base ad Sa H → va_S (fun q => base ≤ q) s.heap H locs → lv_has ls 9 [(7, .int (i32 (q))), (6, .int (i32 (S 0 4 i))), (5, .int (i32 (b2 (((1 ≤ n ∧ n ≤ 4) ∧ (¬ (isC S i)) ∧ (n ≤ (S 0 4 0))) ∨ ((1 ≤ n ∧ n ≤ 4) ∧ (isC S i) ∧ (n ≤ (S 0 4 i))))))), (4, .int (i32 (b2 (isC S i)))), (0, .ref (ad 0 0)), (1, .int (i32 (i))), (2, .int (i32 (n))), (3, .int (i32 (b2 (mi))))] → W p l e ({ frames := 2, cells := 0, slots := 0, locals := 43 } : Room) s m av below meth cz H locs 0 0 Qm (F0 m 150 ls []) := by
          intro k
          induction k with
          | zero => intro q Sa H locs ls zq zS hmu _ _ _; exact absurd hmu (by omega)
          | succ k ih150 =>
            intro q Sa H locs ls zq zS hmu hP hS hl
            have aSa_0 : Sa 0 0 (-1) = 1 := by rw [zS, lmF_o _ _ _ _ _ _ _ (by decide)]; exact aS6_0
            have wSa : wM Sa := wM.keep wS6 (fun r j h => by unfold wrow at h; rw [zS, lmF_o _ _ _ _ _ _ _ (by omega)])
            have rSa : ∀ (a1 b1 : Nat) (i1 : Int), rng (Sa a1 b1 i1) := fun a1 b1 i1 => hP.rg a1 b1 i1
            refine lv_iload hx hb dX4_loom_150 (lv_at hl 0 rfl) ?_
            refine lv_iload hx hb dX4_loom_152 (lv_at hl 1 rfl) ?_
            refine q_icmp_ge (tgt := 255) hx hb ⟨by omega, by omega⟩ (rS _ _ _) dX4_loom_154 (by decide) (fun c_7 => ?_) (fun c_7 => ?_)
            · -- (S 0 4 i) ≤ q
              refine lv_aload_n hx hb dX4_loom_255 rfl (lv_at hl 4 rfl) ?_
              refine lv_dup hx hb dX4_loom_256 rfl ?_
              refine p_get (k := 0) hx hb hown hK hP aSa_0 rfl rfl rfl (lay_X4 hK) 14 712 (by decide) t_712 rfl rfl dX4_loom_257 ?_
              refine q_nm (show Sa 0 0 14 = S 0 0 14 from by rw [zS, lmF_o _ _ _ _ _ _ _ (by decide), qS6, if_neg (by omega), qS5, if_neg (by omega), qS4, if_neg (by omega), qS3, if_neg (by omega), qS1, if_neg (by omega)]) ?_
              refine lv_iconst (v := i32 (1)) hx hb dX4_loom_260 rfl ?_
              refine q_iadd hx hb dX4_loom_261 ?_
              refine p_put (k := 0) hx hb hown hK hP hS aSa_0 rfl rfl rfl (lay_X4 hK) tyX4 tyX4_ok nmX4 14 712 (by decide) t_712 rfl rfl (by decide +kernel) ⟨by omega, by omega⟩ (Nat.le_of_ble_eq_true rfl) (set_0_14 _ _ _ _) dX4_loom_262 (fun H locs hP hS => ?_)
              generalize eS8 : st Sa 0 0 14 ((S 0 0 14) + 1) = S8 at hP
              have qS8 : ∀ (a1 b1 : Nat) (i1 : Int), S8 a1 b1 i1 = if a1 = 0 ∧ b1 = 0 ∧ i1 = 14 then (S 0 0 14) + 1 else Sa a1 b1 i1 := fun a1 b1 i1 => by rw [← eS8]; exact st_at _ _ _ _ _ _ _ _
              have rS8 : ∀ (a1 b1 : Nat) (i1 : Int), rng (S8 a1 b1 i1) := fun a1 b1 i1 => hP.rg a1 b1 i1
              have aS8_0 : S8 0 0 (-1) = 1 := by rw [qS8, if_neg (by omega)]; exact aSa_0
              refine lv_aload_n hx hb dX4_loom_265 rfl (lv_at hl 4 rfl) ?_
              refine p_get (k := 0) hx hb hown hK hP aS8_0 rfl rfl rfl (lay_X4 hK) 14 712 (by decide) t_712 rfl rfl dX4_loom_266 ?_
              refine q_nm (show S8 0 0 14 = (S 0 0 14) + 1 from by rw [qS8, if_pos ⟨rfl, rfl, rfl⟩]) ?_
              refine lv_iconst (v := i32 (1)) hx hb dX4_loom_269 rfl ?_
              refine q_isub hx hb dX4_loom_270 ?_
              subst hQm
              exact q_iret hx hb hr hlocks hP hS (by exact ⟨rfl, Or.inr ⟨c_2, rfl, fun a1 b1 i1 => by rw [eS1, eS3, eS4, eS5, eS6, qS8, zS, show q = S 0 4 i from by omega]⟩⟩) (by decide) (by decide) dX4_loom_271
            · -- q < (S 0 4 i)
              refine lv_aload_n hx hb dX4_loom_157 rfl (lv_at hl 4 rfl) ?_
              refine lv_aload_n hx hb dX4_loom_158 rfl (lv_at hl 4 rfl) ?_
              refine p_get (k := 0) hx hb hown hK hP aSa_0 rfl rfl rfl (lay_X4 hK) 14 712 (by decide) t_712 rfl rfl dX4_loom_159 ?_
              refine q_nm (show Sa 0 0 14 = S 0 0 14 from by rw [zS, lmF_o _ _ _ _ _ _ _ (by decide), qS6, if_neg (by omega), qS5, if_neg (by omega), qS4, if_neg (by omega), qS3, if_neg (by omega), qS1, if_neg (by omega)]) ?_
              refine lv_iload hx hb dX4_loom_162 (lv_at hl 0 rfl) ?_
              refine lv_aload_n hx hb dX4_loom_164 rfl (lv_at hl 4 rfl) ?_
              refine p_get (k := 0) hx hb hown hK hP aSa_0 rfl rfl rfl (lay_X4 hK) 14 712 (by decide) t_712 rfl rfl dX4_loom_165 ?_
              refine q_nm (show Sa 0 0 14 = S 0 0 14 from by rw [zS, lmF_o _ _ _ _ _ _ _ (by decide), qS6, if_neg (by omega), qS5, if_neg (by omega), qS4, if_neg (by omega), qS3, if_neg (by omega), qS1, if_neg (by omega)]) ?_
              refine lv_iload hx hb dX4_loom_168 (lv_at hl 0 rfl) ?_
              refine q_callV (k := 0) hx hb hml hl.1 hown hK hZ hP hS aSa_0 rfl rfl rfl (c_X4_setsColumn l g base ad Sa (S 0 0 14) q (S 0 0 14) q wSa (by omega) (by omega) (rS _ _ _) ⟨by omega, by omega⟩) t_849 t_17 (q_callB hK 847 36 850 t_847 t_36 t_850 f_yX4_setsColumn ⟨by decide, by decide⟩) rfl rfl (Nat.le_of_ble_eq_true rfl) dX4_loom_170 ⟨by decide, by decide⟩  (q_an (fun H locs hP hS => ?_))
              generalize eS9 : st Sa 0 22 (24 * (S 0 0 14) + q) (S 0 0 14) = S9 at hP
              have qS9 : ∀ (a1 b1 : Nat) (i1 : Int), S9 a1 b1 i1 = if a1 = 0 ∧ b1 = 22 ∧ i1 = 24 * (S 0 0 14) + q then S 0 0 14 else Sa a1 b1 i1 := fun a1 b1 i1 => by rw [← eS9]; exact st_at _ _ _ _ _ _ _ _
              have aS9_0 : S9 0 0 (-1) = 1 := by rw [qS9, if_neg (by omega)]; exact aSa_0
              have wS9 : wM S9 := wM.keep wSa (fun r j h => by unfold wrow at h; rw [qS9, if_neg (by omega)])
              generalize eS10 : st S9 0 23 (24 * (S 0 0 14) + q) q = S10 at hP
              have qS10 : ∀ (a1 b1 : Nat) (i1 : Int), S10 a1 b1 i1 = if a1 = 0 ∧ b1 = 23 ∧ i1 = 24 * (S 0 0 14) + q then q else S9 a1 b1 i1 := fun a1 b1 i1 => by rw [← eS10]; exact st_at _ _ _ _ _ _ _ _
              have aS10_0 : S10 0 0 (-1) = 1 := by rw [qS10, if_neg (by omega)]; exact aS9_0
              have wS10 : wM S10 := wM.keep wS9 (fun r j h => by unfold wrow at h; rw [qS10, if_neg (by omega)])
              generalize eS11 : st S10 0 24 (24 * (S 0 0 14) + q) 0 = S11 at hP
              have rS11 : ∀ (a1 b1 : Nat) (i1 : Int), rng (S11 a1 b1 i1) := fun a1 b1 i1 => hP.rg a1 b1 i1
              have qS11 : ∀ (a1 b1 : Nat) (i1 : Int), S11 a1 b1 i1 = if a1 = 0 ∧ b1 = 24 ∧ i1 = 24 * (S 0 0 14) + q then 0 else S10 a1 b1 i1 := fun a1 b1 i1 => by rw [← eS11]; exact st_at _ _ _ _ _ _ _ _
              have aS11_0 : S11 0 0 (-1) = 1 := by rw [qS11, if_neg (by omega)]; exact aS10_0
              have wS11 : wM S11 := wM.keep wS10 (fun r j h => by unfold wrow at h; rw [qS11, if_neg (by omega)])
              refine lv_iconst (v := i32 (0)) hx hb dX4_loom_173 rfl ?_
              refine lv_istore (lv' := [(8, .int (i32 (0))), (7, .int (i32 (q))), (6, .int (i32 (S 0 4 i))), (5, .int (i32 (b2 (((1 ≤ n ∧ n ≤ 4) ∧ (¬ (isC S i)) ∧ (n ≤ (S 0 4 0))) ∨ ((1 ≤ n ∧ n ≤ 4) ∧ (isC S i) ∧ (n ≤ (S 0 4 i))))))), (4, .int (i32 (b2 (isC S i)))), (0, .ref (ad 0 0)), (1, .int (i32 (i))), (2, .int (i32 (n))), (3, .int (i32 (b2 (mi))))]) hx hb dX4_loom_174 hl (by decide) rfl (fun ls hl => ?_)
              have L176 : ∀ (k : Nat) (r : Int) (Sb : St) (H : Heap) (locs : List Loc) (ls : Array Slot), (0 ≤ r ∧ r ≤ S 0 5 i) → (∀ (a1 b1 : Nat) (i1 : Int), Sb a1 b1 i1 = lmF S6 (S 0 0 14) (S 0 5 i) q r (q + 1) (fun r1 c1 => drM S i r1 (cif mi (S 0 4 i - 1 - c1) c1)) a1 b1 i1) → S 0 5 i - r < (k : Int) → pic g base ad Sb H → va_S (fun q => base ≤ q) s.heap H locs → lv_has ls 9 [(8, .int (i32 (r))), (7, .int (i32 (q))), (6, .int (i32 (S 0 4 i))), (5, .int (i32 (b2 (((1 ≤ n ∧ n ≤ 4) ∧ (¬ (isC S i)) ∧ (n ≤ (S 0 4 0))) ∨ ((1 ≤ n ∧ n ≤ 4) ∧ (isC S i) ∧ (n ≤ (S 0 4 i))))))), (4, .int (i32 (b2 (isC S i)))), (0, .ref (ad 0 0)), (1, .int (i32 (i))), (2, .int (i32 (n))), (3, .int (i32 (b2 (mi))))] → W p l e ({ frames := 2, cells := 0, slots := 0, locals := 43 } : Room) s m av below meth cz H locs 0 0 Qm (F0 m 176 ls []) := by
                intro k
                induction k with
                | zero => intro r Sb H locs ls zr zT hmu _ _ _; exact absurd hmu (by omega)
                | succ k ih176 =>
                  intro r Sb H locs ls zr zT hmu hP hS hl
                  have aSb_0 : Sb 0 0 (-1) = 1 := by rw [zT, lmF_o _ _ _ _ _ _ _ (by decide)]; exact aS6_0
                  have wSb : wM Sb := wM.keep wS6 (fun r j h => by unfold wrow at h; rw [zT, lmF_o _ _ _ _ _ _ _ (by omega)])
                  have rSb : ∀ (a1 b1 : Nat) (i1 : Int), rng (Sb a1 b1 i1) := fun a1 b1 i1 => hP.rg a1 b1 i1
                  have yy : ∀ r j, (r = 6 ∨ r = 7 ∨ r = 8) → Sb 0 r j = S 0 r j := fun r j h => by rw [zT, lmF_o _ _ _ _ _ _ _ (by omega)]; rw [qS6, if_neg (by omega), qS5, if_neg (by omega), qS4, if_neg (by omega), qS3, if_neg (by omega), qS1, if_neg (by omega)]
                  refine lv_iload hx hb dX4_loom_176 (lv_at hl 0 rfl) ?_
                  refine lv_aload_n hx hb dX4_loom_178 rfl (lv_at hl 5 rfl) ?_
                  refine p_get (k := 0) hx hb hown hK hP aSb_0 rfl rfl rfl (lay_X4 hK) 4 702 (by decide) t_702 rfl rfl dX4_loom_179 ?_
                  refine lv_iload_n hx hb dX4_loom_182 rfl (lv_at hl 6 rfl) ?_
                  refine p_iald (k := 0) (r := 5) (n := 5) hx hb hK hP aSb_0 rfl rfl (by decide) (by decide) (by omega) (by omega) dX4_loom_183 ?_
                  refine q_nm (show Sb 0 5 i = S 0 5 i from by rw [zT, lmF_o _ _ _ _ _ _ _ (by decide), qS6, if_neg (by omega), qS5, if_neg (by omega), qS4, if_neg (by omega), qS3, if_neg (by omega), qS1, if_neg (by omega)]) ?_
                  refine q_icmp_ge (tgt := 249) hx hb ⟨by omega, by omega⟩ (rS _ _ _) dX4_loom_184 (by decide) (fun c_12 => ?_) (fun c_12 => ?_)
                  · -- (S 0 5 i) ≤ r
                    have zS2 : ∀ (a1 b1 : Nat) (i1 : Int), Sb a1 b1 i1 = lmF S6 (S 0 0 14) (S 0 5 i) (q + 1) 0 (q + 1) (fun r1 c1 => drM S i r1 (cif mi (S 0 4 i - 1 - c1) c1)) a1 b1 i1 := fun a1 b1 i1 => by rw [zT, show r = S 0 5 i from by omega]; exact lm_s3 _ _ (by omega) a1 b1 i1
                    refine lv_iinc (v := i32 (q + 1)) (lv' := [(7, .int (i32 (q + 1))), (8, .int (i32 (r))), (6, .int (i32 (S 0 4 i))), (5, .int (i32 (b2 (((1 ≤ n ∧ n ≤ 4) ∧ (¬ (isC S i)) ∧ (n ≤ (S 0 4 0))) ∨ ((1 ≤ n ∧ n ≤ 4) ∧ (isC S i) ∧ (n ≤ (S 0 4 i))))))), (4, .int (i32 (b2 (isC S i)))), (0, .ref (ad 0 0)), (1, .int (i32 (i))), (2, .int (i32 (n))), (3, .int (i32 (b2 (mi))))]) hx hb dX4_loom_249 hl (k := 1) rfl (i32_add _ _) (by decide) rfl (fun ls hl => ?_)
                    refine lv_goto (tgt := 150) hx hb dX4_loom_252 (by decide) ?_
                    exact ih150 (q + 1) Sb _ _ _ (by omega) (by exact zS2) (by omega) hP hS (lv_sub hl [0, 2, 3, 4, 5, 6, 7, 8] rfl)
                  · -- r < (S 0 5 i)
                    refine lv_aload_n hx hb dX4_loom_187 rfl (lv_at hl 5 rfl) ?_
                    refine p_get (k := 0) hx hb hown hK hP aSb_0 rfl rfl rfl (lay_X4 hK) 24 722 (by decide) t_722 rfl rfl dX4_loom_188 ?_
                    refine lv_aload_n hx hb dX4_loom_191 rfl (lv_at hl 5 rfl) ?_
                    refine p_get (k := 0) hx hb hown hK hP aSb_0 rfl rfl rfl (lay_X4 hK) 14 712 (by decide) t_712 rfl rfl dX4_loom_192 ?_
                    refine q_nm (show Sb 0 0 14 = S 0 0 14 from by rw [zT, lmF_o _ _ _ _ _ _ _ (by decide), qS6, if_neg (by omega), qS5, if_neg (by omega), qS4, if_neg (by omega), qS3, if_neg (by omega), qS1, if_neg (by omega)]) ?_
                    refine lv_iload hx hb dX4_loom_195 (lv_at hl 1 rfl) ?_
                    refine lv_iload hx hb dX4_loom_197 (lv_at hl 0 rfl) ?_
                    refine q_callS hx hb hml hl.1 hown hK hZ hP hS (c_X4_at l g base ad Sb (S 0 0 14) q r ) t_841 (q_callB hK 840 36 842 t_840 t_36 t_842 f_yX4_at ⟨by decide, by decide⟩) rfl rfl (Nat.le_of_ble_eq_true rfl) dX4_loom_199 ⟨by decide, by decide⟩  (q_an (fun H locs hP hS => ?_))
                    refine lv_aload_n hx hb dX4_loom_202 rfl (lv_at hl 5 rfl) ?_
                    refine lv_iload_n hx hb dX4_loom_203 rfl (lv_at hl 6 rfl) ?_
                    refine lv_iload hx hb dX4_loom_204 (lv_at hl 0 rfl) ?_
                    refine lv_iload_n hx hb dX4_loom_206 rfl (lv_at hl 8 rfl) ?_
                    have J222 : ∀ (b222 : Int) (H : Heap) (locs : List Loc), (((¬ (mi)) ∧ b222 = q) ∨ ((mi) ∧ b222 = ((S 0 4 i) - 1) - q)) → pic g base ad Sb H → va_S (fun q => base ≤ q) s.heap H locs → W p l e ({ frames := 2, cells := 0, slots := 0, locals := 43 } : Room) s m av below meth cz H locs 0 0 Qm (F0 m 222 ls (Value.int (i32 b222) :: Value.int (i32 (r)) :: Value.int (i32 (i)) :: Value.ref (ad 0 0) :: Value.int (i32 (240 * (S 0 0 14) + 10 * q + r)) :: Value.ref (ad 0 25) :: [])) := by
                      intro b222 H locs hb222 hP hS
                      have yd : drM Sb i r b222 = (fun r1 c1 => drM S i r1 (cif mi (S 0 4 i - 1 - c1) c1)) r q := by
                        rw [drM_e (S := S) yy]
                        show drM S i r b222 = drM S i r (cif mi (S 0 4 i - 1 - q) q)
                        rcases hb222 with ⟨h1, h2⟩ | ⟨h1, h2⟩
                        · rw [h2, cif_f h1]
                        · rw [h2, cif_t h1]
                      refine q_callV (k := 0) hx hb hml hl.1 hown hK hZ hP hS aSb_0 rfl rfl rfl (c_X4_drawnAt l g base ad Sb i r b222 wSb (by omega) (by omega) (by omega)) t_853 t_18 (q_callB hK 851 36 854 t_851 t_36 t_854 f_yX4_drawnAt ⟨by decide, by decide⟩) rfl rfl (Nat.le_of_ble_eq_true rfl) dX4_loom_222 ⟨by decide, by decide⟩  (q_an (fun H locs hP hS => ?_))
                      refine p_iast (k := 0) (r := 25) (n := 4800) hx hb hK hP hS aSb_0 rfl rfl (by decide) (by decide) (by omega) (by omega) (drM_rng rSb _ _ _) dX4_loom_225 (fun H locs hP hS => ?_)
                      generalize eS13 : st Sb 0 25 (240 * (S 0 0 14) + 10 * q + r) (drM Sb i r b222) = S13 at hP
                      have qS13 : ∀ (a1 b1 : Nat) (i1 : Int), S13 a1 b1 i1 = if a1 = 0 ∧ b1 = 25 ∧ i1 = 240 * (S 0 0 14) + 10 * q + r then drM Sb i r b222 else Sb a1 b1 i1 := fun a1 b1 i1 => by rw [← eS13]; exact st_at _ _ _ _ _ _ _ _
                      have rS13 : ∀ (a1 b1 : Nat) (i1 : Int), rng (S13 a1 b1 i1) := fun a1 b1 i1 => hP.rg a1 b1 i1
                      have aS13_0 : S13 0 0 (-1) = 1 := by rw [qS13, if_neg (by omega)]; exact aSb_0
                      have wS13 : wM S13 := wM.keep wSb (fun r j h => by unfold wrow at h; rw [qS13, if_neg (by omega)])
                      refine lv_aload_n hx hb dX4_loom_226 rfl (lv_at hl 5 rfl) ?_
                      refine p_get (k := 0) hx hb hown hK hP aS13_0 rfl rfl rfl (lay_X4 hK) 25 723 (by decide) t_723 rfl rfl dX4_loom_227 ?_
                      refine lv_aload_n hx hb dX4_loom_230 rfl (lv_at hl 5 rfl) ?_
                      refine p_get (k := 0) hx hb hown hK hP aS13_0 rfl rfl rfl (lay_X4 hK) 14 712 (by decide) t_712 rfl rfl dX4_loom_231 ?_
                      refine q_nm (show S13 0 0 14 = S 0 0 14 from by rw [qS13, if_neg (by omega), zT, lmF_o _ _ _ _ _ _ _ (by decide), qS6, if_neg (by omega), qS5, if_neg (by omega), qS4, if_neg (by omega), qS3, if_neg (by omega), qS1, if_neg (by omega)]) ?_
                      refine lv_iload hx hb dX4_loom_234 (lv_at hl 1 rfl) ?_
                      refine lv_iload hx hb dX4_loom_236 (lv_at hl 0 rfl) ?_
                      refine q_callS hx hb hml hl.1 hown hK hZ hP hS (c_X4_at l g base ad S13 (S 0 0 14) q r ) t_841 (q_callB hK 840 36 842 t_840 t_36 t_842 f_yX4_at ⟨by decide, by decide⟩) rfl rfl (Nat.le_of_ble_eq_true rfl) dX4_loom_238 ⟨by decide, by decide⟩  (q_an (fun H locs hP hS => ?_))
                      refine lv_iconst (v := i32 (-1)) hx hb dX4_loom_241 rfl ?_
                      refine p_iast (k := 0) (r := 26) (n := 4800) hx hb hK hP hS aS13_0 rfl rfl (by decide) (by decide) (by omega) (by omega) ⟨by decide, by decide⟩ dX4_loom_242 (fun H locs hP hS => ?_)
                      generalize eS14 : st S13 0 26 (240 * (S 0 0 14) + 10 * q + r) (-1) = S14 at hP
                      have qS14 : ∀ (a1 b1 : Nat) (i1 : Int), S14 a1 b1 i1 = if a1 = 0 ∧ b1 = 26 ∧ i1 = 240 * (S 0 0 14) + 10 * q + r then -1 else S13 a1 b1 i1 := fun a1 b1 i1 => by rw [← eS14]; exact st_at _ _ _ _ _ _ _ _
                      have rS14 : ∀ (a1 b1 : Nat) (i1 : Int), rng (S14 a1 b1 i1) := fun a1 b1 i1 => hP.rg a1 b1 i1
                      have aS14_0 : S14 0 0 (-1) = 1 := by rw [qS14, if_neg (by omega)]; exact aS13_0
                      have wS14 : wM S14 := wM.keep wS13 (fun r j h => by unfold wrow at h; rw [qS14, if_neg (by omega)])
                      refine lv_iinc (v := i32 (r + 1)) (lv' := [(8, .int (i32 (r + 1))), (7, .int (i32 (q))), (6, .int (i32 (S 0 4 i))), (5, .int (i32 (b2 (((1 ≤ n ∧ n ≤ 4) ∧ (¬ (isC S i)) ∧ (n ≤ (S 0 4 0))) ∨ ((1 ≤ n ∧ n ≤ 4) ∧ (isC S i) ∧ (n ≤ (S 0 4 i))))))), (4, .int (i32 (b2 (isC S i)))), (0, .ref (ad 0 0)), (1, .int (i32 (i))), (2, .int (i32 (n))), (3, .int (i32 (b2 (mi))))]) hx hb dX4_loom_243 hl (k := 0) rfl (i32_add _ _) (by decide) rfl (fun ls hl => ?_)
                      refine lv_goto (tgt := 176) hx hb dX4_loom_246 (by decide) ?_
                      exact ih176 (r + 1) S14 _ _ _ (by omega) (by exact lm_s2 zT qS13 qS14 (by rw [yd]) (by omega) (by omega)) (by omega) hP hS (lv_sub hl [0, 1, 2, 3, 4, 5, 6, 7, 8] rfl)
                    refine q_if_eqb (tgt := 220) hx hb dX4_loom_207 (by decide) (fun c_15 => ?_) (fun c_15 => ?_)
                    · -- ¬ (mi)
                      refine lv_iload hx hb dX4_loom_220 (lv_at hl 1 rfl) ?_
                      exact J222 _ _ _ (by first | omega | (simp only [*]; done) | simp_all) hP hS
                    · -- mi
                      refine lv_iload hx hb dX4_loom_210 (lv_at hl 2 rfl) ?_
                      refine lv_iconst (v := i32 (1)) hx hb dX4_loom_212 rfl ?_
                      refine q_isub hx hb dX4_loom_213 ?_
                      refine lv_iload hx hb dX4_loom_214 (lv_at hl 1 rfl) ?_
                      refine q_isub hx hb dX4_loom_216 ?_
                      refine lv_goto (tgt := 222) hx hb dX4_loom_217 (by decide) ?_
                      exact J222 _ _ _ (by first | omega | (simp only [*]; done) | simp_all) hP hS
              exact L176 ((S 0 5 i - 0) + 1).toNat 0 S11 _ _ _ (by omega) (by exact lm_s1 zS qS9 qS10 qS11 zq.1) (by omega) hP hS (lv_sub hl [0, 1, 2, 3, 4, 5, 6, 7, 8] rfl)
        exact L150 ((S 0 4 i - 0) + 1).toNat 0 S6 _ _ _ (by omega) (by intro a1 b1 i1; exact lm_0 _ _ _ _ a1 b1 i1) (by omega) hP hS (lv_sub hl [0, 1, 2, 3, 4, 5, 6, 7] rfl)
      · -- ¬ ((isC S i) ∧ (((1 ≤ n ∧ n ≤ 4) ∧ (¬ (isC S i)) ∧ (n ≤ (S 0 4 0))) ∨ ((1 ≤ n ∧ n ≤ 4) ∧ (isC S i) ∧ (n ≤ (S 0 4 i)))) ∧ ((isC S i) ∧ (0 < (S 0 5 i)) ∧ ((S 0 0 14) < 20)))
        refine lv_iconst (v := i32 (0)) hx hb dX4_loom_90 rfl ?_
        subst hQm
        exact q_iret hx hb hr hlocks hP hS (by subst eS1; exact ⟨rfl, Or.inl ⟨c_2, rfl, rfl⟩⟩) (by decide) (by decide) dX4_loom_91
    refine q_if_eqb (tgt := 83) hx hb dX4_loom_49 (by decide) (fun c_16 => ?_) (fun c_16 => ?_)
    · -- ¬ (isC S i)
      refine lv_iconst (v := i32 (0)) hx hb dX4_loom_83 rfl ?_
      refine q_nm (b2_f (show ¬ ((isC S i) ∧ (0 < (S 0 5 i)) ∧ ((S 0 0 14) < 20)) from by first | omega | (simp only [*]; done) | simp_all)).symm ?_
      exact J84 _ _ hP hS
    · -- isC S i
      obtain ⟨hi1, hi2⟩ := id c_16
      refine lv_aload_n hx hb dX4_loom_52 rfl (lv_at hl 2 rfl) ?_
      refine p_get (k := 0) hx hb hown hK hP hw.al rfl rfl rfl (lay_X4 hK) 4 702 (by decide) t_702 rfl rfl dX4_loom_53 ?_
      refine lv_iload hx hb dX4_loom_56 (lv_at hl 1 rfl) ?_
      refine q_if_eqb (tgt := 65) hx hb dX4_loom_58 (by decide) (fun h => by first | exact absurd c_16 h | exact absurd h c_16 | omega) (fun _ => ?_)
      refine lv_iload_n hx hb dX4_loom_61 rfl (lv_at hl 3 rfl) ?_
      refine lv_goto (tgt := 66) hx hb dX4_loom_62 (by decide) ?_
      refine p_iald (k := 0) (r := 5) (n := 5) hx hb hK hP hw.al rfl rfl (by decide) (by decide) (by omega) (by omega) dX4_loom_66 ?_
      refine q_if_le (tgt := 83) hx hb (hP.rg _ _ _) dX4_loom_67 (by decide) (fun c_17 => ?_) (fun c_17 => ?_)
      · -- (S 0 5 i) ≤ 0
        refine lv_iconst (v := i32 (0)) hx hb dX4_loom_83 rfl ?_
        refine q_nm (b2_f (show ¬ ((isC S i) ∧ (0 < (S 0 5 i)) ∧ ((S 0 0 14) < 20)) from by first | omega | (simp only [*]; done) | simp_all)).symm ?_
        exact J84 _ _ hP hS
      · -- 0 < (S 0 5 i)
        refine lv_aload_n hx hb dX4_loom_70 rfl (lv_at hl 2 rfl) ?_
        refine p_get (k := 0) hx hb hown hK hP hw.al rfl rfl rfl (lay_X4 hK) 14 712 (by decide) t_712 rfl rfl dX4_loom_71 ?_
        refine lv_bipush (v := i32 (20)) hx hb dX4_loom_74 (by decide) ?_
        refine q_icmp_ge (tgt := 83) hx hb (hP.rg _ _ _) ⟨by decide, by decide⟩ dX4_loom_76 (by decide) (fun c_18 => ?_) (fun c_18 => ?_)
        · -- 20 ≤ (S 0 0 14)
          refine lv_iconst (v := i32 (0)) hx hb dX4_loom_83 rfl ?_
          refine q_nm (b2_f (show ¬ ((isC S i) ∧ (0 < (S 0 5 i)) ∧ ((S 0 0 14) < 20)) from by first | omega | (simp only [*]; done) | simp_all)).symm ?_
          exact J84 _ _ hP hS
        · -- (S 0 0 14) < 20
          refine lv_iconst (v := i32 (1)) hx hb dX4_loom_79 rfl ?_
          refine lv_goto (tgt := 84) hx hb dX4_loom_80 (by decide) ?_
          refine q_nm (b2_t (show (isC S i) ∧ (0 < (S 0 5 i)) ∧ ((S 0 0 14) < 20) from by first | omega | (simp only [*]; done) | simp_all)).symm ?_
          exact J84 _ _ hP hS
  refine q_if_eqb (tgt := 39) hx hb dX4_loom_13 (by decide) (fun c_19 => ?_) (fun c_19 => ?_)
  · -- ¬ (1 ≤ n ∧ n ≤ 4)
    refine lv_iconst (v := i32 (0)) hx hb dX4_loom_39 rfl ?_
    refine q_nm (b2_f (show ¬ (((1 ≤ n ∧ n ≤ 4) ∧ (¬ (isC S i)) ∧ (n ≤ (S 0 4 0))) ∨ ((1 ≤ n ∧ n ≤ 4) ∧ (isC S i) ∧ (n ≤ (S 0 4 i)))) from by first | omega | (simp only [*]; done) | simp_all)).symm ?_
    exact J40 _ _ hP hS
  · -- 1 ≤ n ∧ n ≤ 4
    refine lv_iload_n hx hb dX4_loom_16 rfl (lv_at hl 3 rfl) ?_
    refine lv_aload_n hx hb dX4_loom_17 rfl (lv_at hl 1 rfl) ?_
    refine p_get (k := 0) hx hb hown hK hP hw.al rfl rfl rfl (lay_X4 hK) 3 701 (by decide) t_701 rfl rfl dX4_loom_18 ?_
    refine lv_iload hx hb dX4_loom_21 (lv_at hl 0 rfl) ?_
    refine q_if_eqb (tgt := 30) hx hb dX4_loom_23 (by decide) (fun c_20 => ?_) (fun c_20 => ?_)
    · -- ¬ (isC S i)
      refine lv_iconst (v := i32 (0)) hx hb dX4_loom_30 rfl ?_
      refine p_iald (k := 0) (r := 4) (n := 5) hx hb hK hP hw.al rfl rfl (by decide) (by decide) (by omega) (by omega) dX4_loom_31 ?_
      refine q_icmp_gt (tgt := 39) hx hb hrn2 (hP.rg _ _ _) dX4_loom_32 (by decide) (fun c_21 => ?_) (fun c_21 => ?_)
      · -- (S 0 4 0) < n
        refine lv_iconst (v := i32 (0)) hx hb dX4_loom_39 rfl ?_
        refine q_nm (b2_f (show ¬ (((1 ≤ n ∧ n ≤ 4) ∧ (¬ (isC S i)) ∧ (n ≤ (S 0 4 0))) ∨ ((1 ≤ n ∧ n ≤ 4) ∧ (isC S i) ∧ (n ≤ (S 0 4 i)))) from by first | omega | (simp only [*]; done) | simp_all)).symm ?_
        exact J40 _ _ hP hS
      · -- n ≤ (S 0 4 0)
        refine lv_iconst (v := i32 (1)) hx hb dX4_loom_35 rfl ?_
        refine lv_goto (tgt := 40) hx hb dX4_loom_36 (by decide) ?_
        refine q_nm (b2_t (show ((1 ≤ n ∧ n ≤ 4) ∧ (¬ (isC S i)) ∧ (n ≤ (S 0 4 0))) ∨ ((1 ≤ n ∧ n ≤ 4) ∧ (isC S i) ∧ (n ≤ (S 0 4 i))) from by first | omega | (simp only [*]; done) | simp_all)).symm ?_
        exact J40 _ _ hP hS
    · -- isC S i
      obtain ⟨hi1, hi2⟩ := id c_20
      refine lv_iload_n hx hb dX4_loom_26 rfl (lv_at hl 2 rfl) ?_
      refine lv_goto (tgt := 31) hx hb dX4_loom_27 (by decide) ?_
      refine p_iald (k := 0) (r := 4) (n := 5) hx hb hK hP hw.al rfl rfl (by decide) (by decide) (by omega) (by omega) dX4_loom_31 ?_
      refine q_icmp_gt (tgt := 39) hx hb hrn2 (hP.rg _ _ _) dX4_loom_32 (by decide) (fun c_22 => ?_) (fun c_22 => ?_)
      · -- (S 0 4 i) < n
        refine lv_iconst (v := i32 (0)) hx hb dX4_loom_39 rfl ?_
        refine q_nm (b2_f (show ¬ (((1 ≤ n ∧ n ≤ 4) ∧ (¬ (isC S i)) ∧ (n ≤ (S 0 4 0))) ∨ ((1 ≤ n ∧ n ≤ 4) ∧ (isC S i) ∧ (n ≤ (S 0 4 i)))) from by first | omega | (simp only [*]; done) | simp_all)).symm ?_
        exact J40 _ _ hP hS
      · -- n ≤ (S 0 4 i)
        refine lv_iconst (v := i32 (1)) hx hb dX4_loom_35 rfl ?_
        refine lv_goto (tgt := 40) hx hb dX4_loom_36 (by decide) ?_
        refine q_nm (b2_t (show ((1 ≤ n ∧ n ≤ 4) ∧ (¬ (isC S i)) ∧ (n ≤ (S 0 4 0))) ∨ ((1 ≤ n ∧ n ≤ 4) ∧ (isC S i) ∧ (n ≤ (S 0 4 i))) from by first | omega | (simp only [*]; done) | simp_all)).symm ?_
        exact J40 _ _ hP hS
