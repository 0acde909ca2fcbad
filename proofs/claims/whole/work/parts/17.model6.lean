set_option maxHeartbeats 4000000 in
set_option maxRecDepth 100000 in
theorem c_X4_cut (l : Launch) (g : GT) (base : Nat) (ad : Nat → Nat → Nat) (S : St) (x q : Int) (hw : wM S) (hrn : rng x) (hrn2 : rng q) : Met l yX4_cut [Cond.code yX4_cut cX4_cut 5 (some FieldType.int)] ({ frames := 3, cells := 0, slots := 0, locals := 65 }) (va_Pc [.ref (ad 0 0), .int (i32 (x)), .int (i32 (q))] (PK g base ad S)) (gQ g base (mP ad (inM S x q) ((inM S x q) ∧ (dnM S x) ∧ ((S 0 0 14) < 20)) (True) S (some (.int (i32 (((S 0 0 14) + 1) - 1)))) (fun Z => ∀ (a1 b1 : Nat) (i1 : Int), Z a1 b1 i1 = if a1 = 0 ∧ b1 = 0 ∧ i1 = 14 then (S 0 0 14) + 1 else if a1 = 0 ∧ b1 = 16 ∧ i1 = x then q else cmF (st (st (st S 0 0 27 (thr (inM S x q) ((inM S x q) ∧ (dnM S x) ∧ ((S 0 0 14) < 20)) (True))) 0 17 (S 0 0 14) (S 0 17 x)) 0 16 (S 0 0 14) ((S 0 16 x) - q)) x q (S 0 0 14) 0 (S 0 16 x - q) a1 b1 i1))) 0 0 (fun q => base ≤ q) := by
  refine mk_m (own := RX4) (lv0 := [(0, .ref (ad 0 0)), (1, .int (i32 (x))), (2, .int (i32 (q)))]) (by decide) rfl (Nat.le_of_ble_eq_true rfl) rfl ?_
  intro p e s m below meth cz av Qm hx hb hr hml hown hlocks hK hZ hP hQm ls hl
  have hS : va_S (fun q => base ≤ q) s.heap s.heap [] := va_S.rf
  have rS : ∀ (a1 b1 : Nat) (i1 : Int), rng (S a1 b1 i1) := fun a1 b1 i1 => hP.rg a1 b1 i1
  obtain ⟨hp1, hp2⟩ := hw.ps
  refine lv_aload_n hx hb dX4_cut_0 rfl (lv_at hl 0 rfl) ?_
  refine lv_iload_n hx hb dX4_cut_1 rfl (lv_at hl 1 rfl) ?_
  refine lv_iload_n hx hb dX4_cut_2 rfl (lv_at hl 2 rfl) ?_
  refine q_callV (k := 0) hx hb hml hl.1 hown hK hZ hP hS hw.al rfl rfl rfl (c_X4_isInner l g base ad S x q hw hrn hrn2) t_913 t_29 (q_callB hK 911 36 914 t_911 t_36 t_914 f_yX4_isInner ⟨by decide, by decide⟩) rfl rfl (Nat.le_of_ble_eq_true rfl) dX4_cut_3 ⟨by decide, by decide⟩  (q_an (fun H locs hP hS => ?_))
  refine lv_istore_n (lv' := [(3, .int (i32 (b2 (inM S x q)))), (0, .ref (ad 0 0)), (1, .int (i32 (x))), (2, .int (i32 (q)))]) hx hb dX4_cut_6 rfl hl (by decide) rfl (fun ls hl => ?_)
  refine lv_aload_n hx hb dX4_cut_7 rfl (lv_at hl 1 rfl) ?_
  refine lv_iload_n hx hb dX4_cut_8 rfl (lv_at hl 0 rfl) ?_
  refine lv_iload_n hx hb dX4_cut_9 rfl (lv_at hl 0 rfl) ?_
  have J35 : ∀ (H : Heap) (locs : List Loc), pic g base ad S H → va_S (fun q => base ≤ q) s.heap H locs → W p l e ({ frames := 3, cells := 0, slots := 0, locals := 65 } : Room) s m av below meth cz H locs 0 0 Qm (F0 m 35 ls (Value.int (i32 (b2 ((inM S x q) ∧ (dnM S x) ∧ ((S 0 0 14) < 20)))) :: Value.int (i32 (b2 (inM S x q))) :: Value.ref (ad 0 0) :: [])) := by
    intro H locs hP hS
    refine lv_iconst (v := i32 (1)) hx hb dX4_cut_35 rfl ?_
    refine W.eq (g2 := F0 m 36 ls (Value.int (i32 (b2 (True))) :: Value.int (i32 (b2 ((inM S x q) ∧ (dnM S x) ∧ ((S 0 0 14) < 20)))) :: Value.int (i32 (b2 (inM S x q))) :: Value.ref (ad 0 0) :: [])) (by simp only [b2_t trivial, b2_f not_false] <;> rfl) ?_
    refine q_callV (k := 0) hx hb hml hl.1 hown hK hZ hP hS hw.al rfl rfl rfl (c_X4_goes l g base ad S (inM S x q) ((inM S x q) ∧ (dnM S x) ∧ ((S 0 0 14) < 20)) True hw.al) t_796 t_14 (q_callB hK 794 36 797 t_794 t_36 t_797 f_yX4_goes ⟨by decide, by decide⟩) rfl rfl (Nat.le_of_ble_eq_true rfl) dX4_cut_36 ⟨by decide, by decide⟩  (q_an (fun H locs hP hS => ?_))
    generalize eS1 : st S 0 0 27 (thr (inM S x q) ((inM S x q) ∧ (dnM S x) ∧ ((S 0 0 14) < 20)) True) = S1 at hP
    have rS1 : ∀ (a1 b1 : Nat) (i1 : Int), rng (S1 a1 b1 i1) := fun a1 b1 i1 => hP.rg a1 b1 i1
    have qS1 : ∀ (a1 b1 : Nat) (i1 : Int), S1 a1 b1 i1 = if a1 = 0 ∧ b1 = 0 ∧ i1 = 27 then thr (inM S x q) ((inM S x q) ∧ (dnM S x) ∧ ((S 0 0 14) < 20)) True else S a1 b1 i1 := fun a1 b1 i1 => by rw [← eS1]; exact st_at _ _ _ _ _ _ _ _
    have aS1_0 : S1 0 0 (-1) = 1 := by rw [qS1, if_neg (by omega)]; exact hw.al
    have wS1 : wM S1 := wM.keep hw (fun r j h => by unfold wrow at h; rw [qS1, if_neg (by omega)])
    refine q_if_neb (tgt := 44) hx hb dX4_cut_39 (by decide) (fun c_2 => ?_) (fun c_2 => ?_)
    · -- (inM S x q) ∧ ((inM S x q) ∧ (dnM S x) ∧ ((S 0 0 14) < 20)) ∧ True
      obtain ⟨⟨⟨hq1, hq2, hq3⟩, hq4, hq5⟩, ⟨-, -, hq6⟩, -⟩ := id c_2
      obtain ⟨hc1, hc2, hr1, hr2, hv1, hv2, hd1, hd2⟩ := hw.pc x (by omega) (by omega)
      have hrw := hw.pr x (by omega) (by omega)
      refine lv_aload_n hx hb dX4_cut_44 rfl (lv_at hl 1 rfl) ?_
      refine p_get (k := 0) hx hb hown hK hP aS1_0 rfl rfl rfl (lay_X4 hK) 16 714 (by decide) t_714 rfl rfl dX4_cut_45 ?_
      refine lv_aload_n hx hb dX4_cut_48 rfl (lv_at hl 1 rfl) ?_
      refine p_get (k := 0) hx hb hown hK hP aS1_0 rfl rfl rfl (lay_X4 hK) 14 712 (by decide) t_712 rfl rfl dX4_cut_49 ?_
      refine q_nm (show S1 0 0 14 = S 0 0 14 from by rw [qS1, if_neg (by omega)]) ?_
      refine lv_aload_n hx hb dX4_cut_52 rfl (lv_at hl 1 rfl) ?_
      refine p_get (k := 0) hx hb hown hK hP aS1_0 rfl rfl rfl (lay_X4 hK) 16 714 (by decide) t_714 rfl rfl dX4_cut_53 ?_
      refine lv_iload_n hx hb dX4_cut_56 rfl (lv_at hl 2 rfl) ?_
      refine p_iald (k := 0) (r := 17) (n := 20) hx hb hK hP aS1_0 rfl rfl (by decide) (by decide) (by omega) (by omega) dX4_cut_57 ?_
      refine q_nm (show S1 0 17 x = S 0 17 x from by rw [qS1, if_neg (by omega)]) ?_
      refine p_iast (k := 0) (r := 17) (n := 20) hx hb hK hP hS aS1_0 rfl rfl (by decide) (by decide) (by omega) (by omega) (rS _ _ _) dX4_cut_58 (fun H locs hP hS => ?_)
      generalize eS3 : st S1 0 17 (S 0 0 14) (S 0 17 x) = S3 at hP
      have qS3 : ∀ (a1 b1 : Nat) (i1 : Int), S3 a1 b1 i1 = if a1 = 0 ∧ b1 = 17 ∧ i1 = S 0 0 14 then S 0 17 x else S1 a1 b1 i1 := fun a1 b1 i1 => by rw [← eS3]; exact st_at _ _ _ _ _ _ _ _
      have rS3 : ∀ (a1 b1 : Nat) (i1 : Int), rng (S3 a1 b1 i1) := fun a1 b1 i1 => hP.rg a1 b1 i1
      have aS3_0 : S3 0 0 (-1) = 1 := by rw [qS3, if_neg (by omega)]; exact aS1_0
      have wS3 : wM S3 := wM_17 wS1 qS3 (by omega) (by omega)
      refine lv_aload_n hx hb dX4_cut_59 rfl (lv_at hl 1 rfl) ?_
      refine p_get (k := 0) hx hb hown hK hP aS3_0 rfl rfl rfl (lay_X4 hK) 15 713 (by decide) t_713 rfl rfl dX4_cut_60 ?_
      refine lv_aload_n hx hb dX4_cut_63 rfl (lv_at hl 1 rfl) ?_
      refine p_get (k := 0) hx hb hown hK hP aS3_0 rfl rfl rfl (lay_X4 hK) 14 712 (by decide) t_712 rfl rfl dX4_cut_64 ?_
      refine q_nm (show S3 0 0 14 = S 0 0 14 from by rw [qS3, if_neg (by omega), qS1, if_neg (by omega)]) ?_
      refine lv_aload_n hx hb dX4_cut_67 rfl (lv_at hl 1 rfl) ?_
      refine p_get (k := 0) hx hb hown hK hP aS3_0 rfl rfl rfl (lay_X4 hK) 15 713 (by decide) t_713 rfl rfl dX4_cut_68 ?_
      refine lv_iload_n hx hb dX4_cut_71 rfl (lv_at hl 2 rfl) ?_
      refine p_iald (k := 0) (r := 16) (n := 20) hx hb hK hP aS3_0 rfl rfl (by decide) (by decide) (by omega) (by omega) dX4_cut_72 ?_
      refine q_nm (show S3 0 16 x = S 0 16 x from by rw [qS3, if_neg (by omega), qS1, if_neg (by omega)]) ?_
      refine lv_iload_n hx hb dX4_cut_73 rfl (lv_at hl 3 rfl) ?_
      refine q_isub hx hb dX4_cut_74 ?_
      refine p_iast (k := 0) (r := 16) (n := 20) hx hb hK hP hS aS3_0 rfl rfl (by decide) (by decide) (by omega) (by omega) ⟨by omega, by omega⟩ dX4_cut_75 (fun H locs hP hS => ?_)
      generalize eS4 : st S3 0 16 (S 0 0 14) ((S 0 16 x) - q) = S4 at hP
      have qS4 : ∀ (a1 b1 : Nat) (i1 : Int), S4 a1 b1 i1 = if a1 = 0 ∧ b1 = 16 ∧ i1 = S 0 0 14 then (S 0 16 x) - q else S3 a1 b1 i1 := fun a1 b1 i1 => by rw [← eS4]; exact st_at _ _ _ _ _ _ _ _
      have rS4 : ∀ (a1 b1 : Nat) (i1 : Int), rng (S4 a1 b1 i1) := fun a1 b1 i1 => hP.rg a1 b1 i1
      have aS4_0 : S4 0 0 (-1) = 1 := by rw [qS4, if_neg (by omega)]; exact aS3_0
      have wS4 : wM S4 := wM_16 wS3 qS4 (by omega) (by omega)
      refine lv_iload_n hx hb dX4_cut_76 rfl (lv_at hl 3 rfl) ?_
      have y16 : S4 0 16 x = S 0 16 x := by rw [qS4, if_neg (by omega), qS3, if_neg (by omega), qS1, if_neg (by omega)]
      have y17 : S4 0 17 x = S 0 17 x := by rw [qS4, if_neg (by omega), qS3, if_neg (by omega), qS1, if_neg (by omega)]
      refine lv_istore (lv' := [(4, .int (i32 (q))), (3, .int (i32 (b2 (inM S x q)))), (0, .ref (ad 0 0)), (1, .int (i32 (x))), (2, .int (i32 (q)))]) hx hb dX4_cut_77 hl (by decide) rfl (fun ls hl => ?_)
      have L79 : ∀ (k : Nat) (k1 : Int) (Sa : St) (H : Heap) (locs : List Loc) (ls : Array Slot), (q ≤ k1 ∧ k1 ≤ S 0 16 x) → (∀ (a1 b1 : Nat) (i1 : Int), Sa a1 b1 i1 = cmF S4 x q (S 0 0 14) 0 (k1 - q) a1 b1 i1) → S 0 16 x - k1 < (k : Int) → pic g base ad Sa H → va_S (fun q => base ≤ q) s.heap H locs → lv_has ls 5 [(4, .int (i32 (k1))), (3, .int (i32 (b2 (inM S x q)))), (0, .ref (ad 0 0)), (1, .int (i32 (x))), (2, .int (i32 (q)))] → W p l e ({ frames := 3, cells := 0, slots := 0, locals := 65 } : Room) s m av below meth cz H locs 0 0 Qm (F0 m 79 ls []) := by
        intro k
        induction k with
        | zero => intro k1 Sa H locs ls zk zS hmu _ _ _; exact absurd hmu (by omega)
        | succ k ih79 =>
          intro k1 Sa H locs ls zk zS hmu hP hS hl
          have aSa_0 : Sa 0 0 (-1) = 1 := by rw [zS, cmF_o _ _ _ _ _ _ (by decide)]; exact aS4_0
          have wSa : wM Sa := wM.keep wS4 (fun r j h => by unfold wrow at h; rw [zS, cmF_o _ _ _ _ _ _ (by omega)])
          have rSa : ∀ (a1 b1 : Nat) (i1 : Int), rng (Sa a1 b1 i1) := fun a1 b1 i1 => hP.rg a1 b1 i1
          have y17a : Sa 0 17 x = S 0 17 x := by rw [zS, cmF_o _ _ _ _ _ _ (by decide)]; exact y17
          refine lv_iload hx hb dX4_cut_79 (lv_at hl 0 rfl) ?_
          refine lv_aload_n hx hb dX4_cut_81 rfl (lv_at hl 2 rfl) ?_
          refine p_get (k := 0) hx hb hown hK hP aSa_0 rfl rfl rfl (lay_X4 hK) 15 713 (by decide) t_713 rfl rfl dX4_cut_82 ?_
          refine lv_iload_n hx hb dX4_cut_85 rfl (lv_at hl 3 rfl) ?_
          refine p_iald (k := 0) (r := 16) (n := 20) hx hb hK hP aSa_0 rfl rfl (by decide) (by decide) (by omega) (by omega) dX4_cut_86 ?_
          refine q_nm (show Sa 0 16 x = S4 0 16 x from by rw [zS, cmF_o _ _ _ _ _ _ (by decide)]) ?_
          refine q_icmp_ge (tgt := 111) hx hb ⟨by omega, by omega⟩ (rS4 _ _ _) dX4_cut_87 (by decide) (fun c_5 => ?_) (fun c_5 => ?_)
          · -- (S4 0 16 x) ≤ k1
            refine lv_aload_n hx hb dX4_cut_111 rfl (lv_at hl 2 rfl) ?_
            refine p_get (k := 0) hx hb hown hK hP aSa_0 rfl rfl rfl (lay_X4 hK) 15 713 (by decide) t_713 rfl rfl dX4_cut_112 ?_
            refine lv_iload_n hx hb dX4_cut_115 rfl (lv_at hl 3 rfl) ?_
            refine lv_iload_n hx hb dX4_cut_116 rfl (lv_at hl 4 rfl) ?_
            refine p_iast (k := 0) (r := 16) (n := 20) hx hb hK hP hS aSa_0 rfl rfl (by decide) (by decide) (by omega) (by omega) hrn2 dX4_cut_117 (fun H locs hP hS => ?_)
            generalize eS6 : st Sa 0 16 x q = S6 at hP
            have qS6 : ∀ (a1 b1 : Nat) (i1 : Int), S6 a1 b1 i1 = if a1 = 0 ∧ b1 = 16 ∧ i1 = x then q else Sa a1 b1 i1 := fun a1 b1 i1 => by rw [← eS6]; exact st_at _ _ _ _ _ _ _ _
            have rS6 : ∀ (a1 b1 : Nat) (i1 : Int), rng (S6 a1 b1 i1) := fun a1 b1 i1 => hP.rg a1 b1 i1
            have aS6_0 : S6 0 0 (-1) = 1 := by rw [qS6, if_neg (by omega)]; exact aSa_0
            refine lv_aload_n hx hb dX4_cut_118 rfl (lv_at hl 2 rfl) ?_
            refine lv_dup hx hb dX4_cut_119 rfl ?_
            refine p_get (k := 0) hx hb hown hK hP aS6_0 rfl rfl rfl (lay_X4 hK) 14 712 (by decide) t_712 rfl rfl dX4_cut_120 ?_
            refine q_nm (show S6 0 0 14 = S 0 0 14 from by rw [qS6, if_neg (by omega), zS, cmF_o _ _ _ _ _ _ (by decide), qS4, if_neg (by omega), qS3, if_neg (by omega), qS1, if_neg (by omega)]) ?_
            refine lv_iconst (v := i32 (1)) hx hb dX4_cut_123 rfl ?_
            refine q_iadd hx hb dX4_cut_124 ?_
            refine p_put (k := 0) hx hb hown hK hP hS aS6_0 rfl rfl rfl (lay_X4 hK) tyX4 tyX4_ok nmX4 14 712 (by decide) t_712 rfl rfl (by decide +kernel) ⟨by omega, by omega⟩ (Nat.le_of_ble_eq_true rfl) (set_0_14 _ _ _ _) dX4_cut_125 (fun H locs hP hS => ?_)
            generalize eS7 : st S6 0 0 14 ((S 0 0 14) + 1) = S7 at hP
            have qS7 : ∀ (a1 b1 : Nat) (i1 : Int), S7 a1 b1 i1 = if a1 = 0 ∧ b1 = 0 ∧ i1 = 14 then (S 0 0 14) + 1 else S6 a1 b1 i1 := fun a1 b1 i1 => by rw [← eS7]; exact st_at _ _ _ _ _ _ _ _
            have rS7 : ∀ (a1 b1 : Nat) (i1 : Int), rng (S7 a1 b1 i1) := fun a1 b1 i1 => hP.rg a1 b1 i1
            have aS7_0 : S7 0 0 (-1) = 1 := by rw [qS7, if_neg (by omega)]; exact aS6_0
            refine lv_aload_n hx hb dX4_cut_128 rfl (lv_at hl 2 rfl) ?_
            refine p_get (k := 0) hx hb hown hK hP aS7_0 rfl rfl rfl (lay_X4 hK) 14 712 (by decide) t_712 rfl rfl dX4_cut_129 ?_
            refine q_nm (show S7 0 0 14 = (S 0 0 14) + 1 from by rw [qS7, if_pos ⟨rfl, rfl, rfl⟩]) ?_
            refine lv_iconst (v := i32 (1)) hx hb dX4_cut_132 rfl ?_
            refine q_isub hx hb dX4_cut_133 ?_
            subst hQm
            exact q_iret hx hb hr hlocks hP hS (by exact ⟨rfl, Or.inr ⟨c_2, rfl, fun a1 b1 i1 => by rw [eS1, eS3, eS4, qS7, qS6, zS, show k1 - q = S 0 16 x - q from by omega]⟩⟩) (by decide) (by decide) dX4_cut_134
          · -- k1 < (S4 0 16 x)
            refine lv_aload_n hx hb dX4_cut_90 rfl (lv_at hl 2 rfl) ?_
            refine lv_iload_n hx hb dX4_cut_91 rfl (lv_at hl 3 rfl) ?_
            refine lv_iload hx hb dX4_cut_92 (lv_at hl 0 rfl) ?_
            refine lv_aload_n hx hb dX4_cut_94 rfl (lv_at hl 2 rfl) ?_
            refine p_get (k := 0) hx hb hown hK hP aSa_0 rfl rfl rfl (lay_X4 hK) 14 712 (by decide) t_712 rfl rfl dX4_cut_95 ?_
            refine q_nm (show Sa 0 0 14 = S 0 0 14 from by rw [zS, cmF_o _ _ _ _ _ _ (by decide), qS4, if_neg (by omega), qS3, if_neg (by omega), qS1, if_neg (by omega)]) ?_
            refine lv_iload hx hb dX4_cut_98 (lv_at hl 0 rfl) ?_
            refine lv_iload_n hx hb dX4_cut_100 rfl (lv_at hl 4 rfl) ?_
            refine q_isub hx hb dX4_cut_101 ?_
            refine q_callV (k := 0) hx hb hml hl.1 hown hK hZ hP hS aSa_0 rfl rfl rfl (c_X4_copies l g base ad Sa x k1 (S 0 0 14) (k1 - q) wSa (by omega) (by omega) (by omega) (by omega)) t_933 t_31 (q_callB hK 931 36 934 t_931 t_36 t_934 f_yX4_copies ⟨by decide, by decide⟩) rfl rfl (Nat.le_of_ble_eq_true rfl) dX4_cut_102 ⟨by decide, by decide⟩  (q_an (fun H locs hP hS => ?_))
            generalize eS8 : cpF Sa x k1 (S 0 0 14) (k1 - q) = S8 at hP
            have rS8 : ∀ (a1 b1 : Nat) (i1 : Int), rng (S8 a1 b1 i1) := fun a1 b1 i1 => hP.rg a1 b1 i1
            have qS8 : ∀ (a1 b1 : Nat) (i1 : Int), S8 a1 b1 i1 = cpF Sa x k1 (S 0 0 14) (k1 - q) a1 b1 i1 := fun a1 b1 i1 => by rw [← eS8]
            have aS8_0 : S8 0 0 (-1) = 1 := by rw [qS8, cpF_o _ _ _ _ _ (by decide)]; exact aSa_0
            have wS8 : wM S8 := wM.keep wSa (fun r j h => by unfold wrow at h; rw [qS8, cpF_o _ _ _ _ _ (by omega)])
            refine lv_iinc (v := i32 (k1 + 1)) (lv' := [(4, .int (i32 (k1 + 1))), (3, .int (i32 (b2 (inM S x q)))), (0, .ref (ad 0 0)), (1, .int (i32 (x))), (2, .int (i32 (q)))]) hx hb dX4_cut_105 hl (k := 0) rfl (i32_add _ _) (by decide) rfl (fun ls hl => ?_)
            refine lv_goto (tgt := 79) hx hb dX4_cut_108 (by decide) ?_
            exact ih79 (k1 + 1) S8 _ _ _ (by omega) (by intro a1 b1 i1; rw [qS8, show k1 + 1 - q = (k1 - q) + 1 from by omega, show cpF Sa x k1 (S 0 0 14) (k1 - q) = cpF Sa x (q + (k1 - q)) (S 0 0 14) (0 + (k1 - q)) from by rw [show q + (k1 - q) = k1 from by omega, Int.zero_add]]; exact cmF_s zS (by omega) (by omega) (by omega) (by omega) (by omega) (by omega) a1 b1 i1) (by omega) hP hS (lv_sub hl [0, 1, 2, 3, 4] rfl)
      exact L79 ((S 0 16 x - q) + 1).toNat q S4 _ _ _ (by omega) (by intro a1 b1 i1; rw [show q - q = 0 from by omega]; exact cmF_0 _ _ _ _ _ a1 b1 i1) (by omega) hP hS (lv_sub hl [0, 1, 2, 3, 4] rfl)
    · -- ¬ ((inM S x q) ∧ ((inM S x q) ∧ (dnM S x) ∧ ((S 0 0 14) < 20)) ∧ True)
      refine lv_iconst (v := i32 (0)) hx hb dX4_cut_42 rfl ?_
      subst hQm
      exact q_iret hx hb hr hlocks hP hS (by subst eS1; exact ⟨rfl, Or.inl ⟨c_2, rfl, rfl⟩⟩) (by decide) (by decide) dX4_cut_43
  refine q_if_eqb (tgt := 34) hx hb dX4_cut_10 (by decide) (fun c_9 => ?_) (fun c_9 => ?_)
  · -- ¬ (inM S x q)
    refine lv_iconst (v := i32 (0)) hx hb dX4_cut_34 rfl ?_
    refine q_nm (b2_f (show ¬ ((inM S x q) ∧ (dnM S x) ∧ ((S 0 0 14) < 20)) from by first | omega | (simp only [*]; done) | simp_all)).symm ?_
    exact J35 _ _ hP hS
  · -- inM S x q
    obtain ⟨⟨hq1, hq2, hq3⟩, hq4, hq5⟩ := id c_9
    refine lv_aload_n hx hb dX4_cut_13 rfl (lv_at hl 1 rfl) ?_
    refine lv_iload_n hx hb dX4_cut_14 rfl (lv_at hl 2 rfl) ?_
    refine q_callV (k := 0) hx hb hml hl.1 hown hK hZ hP hS hw.al rfl rfl rfl (c_X4_isDone l g base ad S x hw (by omega)) t_885 t_24 (q_callB hK 883 36 886 t_883 t_36 t_886 f_yX4_isDone ⟨by decide, by decide⟩) rfl rfl (Nat.le_of_ble_eq_true rfl) dX4_cut_15 ⟨by decide, by decide⟩  (q_an (fun H locs hP hS => ?_))
    refine q_if_eqb (tgt := 34) hx hb dX4_cut_18 (by decide) (fun c_10 => ?_) (fun c_10 => ?_)
    · -- ¬ (dnM S x)
      refine lv_iconst (v := i32 (0)) hx hb dX4_cut_34 rfl ?_
      refine q_nm (b2_f (show ¬ ((inM S x q) ∧ (dnM S x) ∧ ((S 0 0 14) < 20)) from by first | omega | (simp only [*]; done) | simp_all)).symm ?_
      exact J35 _ _ hP hS
    · -- dnM S x
      refine lv_aload_n hx hb dX4_cut_21 rfl (lv_at hl 1 rfl) ?_
      refine p_get (k := 0) hx hb hown hK hP hw.al rfl rfl rfl (lay_X4 hK) 14 712 (by decide) t_712 rfl rfl dX4_cut_22 ?_
      refine lv_bipush (v := i32 (20)) hx hb dX4_cut_25 (by decide) ?_
      refine q_icmp_ge (tgt := 34) hx hb (hP.rg _ _ _) ⟨by decide, by decide⟩ dX4_cut_27 (by decide) (fun c_11 => ?_) (fun c_11 => ?_)
      · -- 20 ≤ (S 0 0 14)
        refine lv_iconst (v := i32 (0)) hx hb dX4_cut_34 rfl ?_
        refine q_nm (b2_f (show ¬ ((inM S x q) ∧ (dnM S x) ∧ ((S 0 0 14) < 20)) from by first | omega | (simp only [*]; done) | simp_all)).symm ?_
        exact J35 _ _ hP hS
      · -- (S 0 0 14) < 20
        refine lv_iconst (v := i32 (1)) hx hb dX4_cut_30 rfl ?_
        refine lv_goto (tgt := 35) hx hb dX4_cut_31 (by decide) ?_
        refine q_nm (b2_t (show (inM S x q) ∧ (dnM S x) ∧ ((S 0 0 14) < 20) from by first | omega | (simp only [*]; done) | simp_all)).symm ?_
        exact J35 _ _ hP hS

set_option maxHeartbeats 4000000 in
set_option maxRecDepth 100000 in
theorem c_X4_join (l : Launch) (g : GT) (base : Nat) (ad : Nat → Nat → Nat) (S : St) (x z : Int) (hw : wM S) (hrn : rng x) (hrn2 : rng z) (hcl : ∀ a1, isP S a1 → 1 ≤ S 0 16 a1) (hfc : ∀ j, 0 ≤ j → j < 480 → 0 ≤ S 0 23 j ∧ S 0 23 j ≤ 24) : Met l yX4_join [Cond.code yX4_join cX4_join 7 (some FieldType.boolean)] ({ frames := 2, cells := 0, slots := 0, locals := 51 }) (va_Pc [.ref (ad 0 0), .int (i32 (x)), .int (i32 (z))] (PK g base ad S)) (gQ g base (mPz ad ((isP S x) ∧ (isP S z)) (x ≠ z) (((isP S x) ∧ (isP S z)) ∧ (dnM S x) ∧ (dnM S z) ∧ ((S 0 17 x) = (S 0 17 z)) ∧ (((S 0 16 x) + (S 0 16 z)) ≤ 24)) S (fun Z => some (.int (i32 (b2 (riM Z x (S 0 16 x)))))) (fun Z => ∀ (a1 b1 : Nat) (i1 : Int), Z a1 b1 i1 = if a1 = 0 ∧ b1 = 19 ∧ i1 = z then 1 else if a1 = 0 ∧ b1 = 16 ∧ i1 = x then (S 0 16 x) + (S 0 16 z) else cmF (st S 0 0 27 (thr ((isP S x) ∧ (isP S z)) (x ≠ z) (((isP S x) ∧ (isP S z)) ∧ (dnM S x) ∧ (dnM S z) ∧ ((S 0 17 x) = (S 0 17 z)) ∧ (((S 0 16 x) + (S 0 16 z)) ≤ 24)))) z 0 x (S 0 16 x) (S 0 16 z) a1 b1 i1))) 0 0 (fun q => base ≤ q) := by
  refine mk_m (own := RX4) (lv0 := [(0, .ref (ad 0 0)), (1, .int (i32 (x))), (2, .int (i32 (z)))]) (by decide) rfl (Nat.le_of_ble_eq_true rfl) rfl ?_
  intro p e s m below meth cz av Qm hx hb hr hml hown hlocks hK hZ hP hQm ls hl
  have hS : va_S (fun q => base ≤ q) s.heap s.heap [] := va_S.rf
  have rS : ∀ (a1 b1 : Nat) (i1 : Int), rng (S a1 b1 i1) := fun a1 b1 i1 => hP.rg a1 b1 i1
  obtain ⟨hp1, hp2⟩ := hw.ps
  refine lv_aload_n hx hb dX4_join_0 rfl (lv_at hl 0 rfl) ?_
  refine lv_iload_n hx hb dX4_join_1 rfl (lv_at hl 1 rfl) ?_
  refine q_callV (k := 0) hx hb hml hl.1 hown hK hZ hP hS hw.al rfl rfl rfl (c_X4_isPiece l g base ad S x hw hrn) t_861 t_19 (q_callB hK 859 36 862 t_859 t_36 t_862 f_yX4_isPiece ⟨by decide, by decide⟩) rfl rfl (Nat.le_of_ble_eq_true rfl) dX4_join_2 ⟨by decide, by decide⟩  (q_an (fun H locs hP hS => ?_))
  have J21 : ∀ (H : Heap) (locs : List Loc), pic g base ad S H → va_S (fun q => base ≤ q) s.heap H locs → W p l e ({ frames := 2, cells := 0, slots := 0, locals := 51 } : Room) s m av below meth cz H locs 0 0 Qm (F0 m 21 ls (Value.int (i32 (b2 ((isP S x) ∧ (isP S z)))) :: [])) := by
    intro H locs hP hS
    refine lv_istore_n (lv' := [(3, .int (i32 (b2 ((isP S x) ∧ (isP S z))))), (0, .ref (ad 0 0)), (1, .int (i32 (x))), (2, .int (i32 (z)))]) hx hb dX4_join_21 rfl hl (by decide) rfl (fun ls hl => ?_)
    refine lv_iload_n hx hb dX4_join_22 rfl (lv_at hl 0 rfl) ?_
    have J80 : ∀ (H : Heap) (locs : List Loc), pic g base ad S H → va_S (fun q => base ≤ q) s.heap H locs → W p l e ({ frames := 2, cells := 0, slots := 0, locals := 51 } : Room) s m av below meth cz H locs 0 0 Qm (F0 m 80 ls (Value.int (i32 (b2 (((isP S x) ∧ (isP S z)) ∧ (dnM S x) ∧ (dnM S z) ∧ ((S 0 17 x) = (S 0 17 z)) ∧ (((S 0 16 x) + (S 0 16 z)) ≤ 24)))) :: [])) := by
      intro H locs hP hS
      refine lv_istore (lv' := [(4, .int (i32 (b2 (((isP S x) ∧ (isP S z)) ∧ (dnM S x) ∧ (dnM S z) ∧ ((S 0 17 x) = (S 0 17 z)) ∧ (((S 0 16 x) + (S 0 16 z)) ≤ 24))))), (3, .int (i32 (b2 ((isP S x) ∧ (isP S z))))), (0, .ref (ad 0 0)), (1, .int (i32 (x))), (2, .int (i32 (z)))]) hx hb dX4_join_80 hl (by decide) rfl (fun ls hl => ?_)
      refine lv_aload_n hx hb dX4_join_82 rfl (lv_at hl 2 rfl) ?_
      refine lv_iload_n hx hb dX4_join_83 rfl (lv_at hl 1 rfl) ?_
      refine lv_iload_n hx hb dX4_join_84 rfl (lv_at hl 3 rfl) ?_
      refine lv_iload_n hx hb dX4_join_85 rfl (lv_at hl 4 rfl) ?_
      have J94 : ∀ (H : Heap) (locs : List Loc), pic g base ad S H → va_S (fun q => base ≤ q) s.heap H locs → W p l e ({ frames := 2, cells := 0, slots := 0, locals := 51 } : Room) s m av below meth cz H locs 0 0 Qm (F0 m 94 ls (Value.int (i32 (b2 ((x ≠ z)))) :: Value.int (i32 (b2 ((isP S x) ∧ (isP S z)))) :: Value.ref (ad 0 0) :: [])) := by
        intro H locs hP hS
        refine lv_iload hx hb dX4_join_94 (lv_at hl 0 rfl) ?_
        refine q_callV (k := 0) hx hb hml hl.1 hown hK hZ hP hS hw.al rfl rfl rfl (c_X4_goes l g base ad S ((isP S x) ∧ (isP S z)) ((x ≠ z)) (((isP S x) ∧ (isP S z)) ∧ (dnM S x) ∧ (dnM S z) ∧ ((S 0 17 x) = (S 0 17 z)) ∧ (((S 0 16 x) + (S 0 16 z)) ≤ 24)) hw.al) t_796 t_14 (q_callB hK 794 36 797 t_794 t_36 t_797 f_yX4_goes ⟨by decide, by decide⟩) rfl rfl (Nat.le_of_ble_eq_true rfl) dX4_join_96 ⟨by decide, by decide⟩  (q_an (fun H locs hP hS => ?_))
        generalize eS1 : st S 0 0 27 (thr ((isP S x) ∧ (isP S z)) ((x ≠ z)) (((isP S x) ∧ (isP S z)) ∧ (dnM S x) ∧ (dnM S z) ∧ ((S 0 17 x) = (S 0 17 z)) ∧ (((S 0 16 x) + (S 0 16 z)) ≤ 24))) = S1 at hP
        have rS1 : ∀ (a1 b1 : Nat) (i1 : Int), rng (S1 a1 b1 i1) := fun a1 b1 i1 => hP.rg a1 b1 i1
        have qS1 : ∀ (a1 b1 : Nat) (i1 : Int), S1 a1 b1 i1 = if a1 = 0 ∧ b1 = 0 ∧ i1 = 27 then thr ((isP S x) ∧ (isP S z)) ((x ≠ z)) (((isP S x) ∧ (isP S z)) ∧ (dnM S x) ∧ (dnM S z) ∧ ((S 0 17 x) = (S 0 17 z)) ∧ (((S 0 16 x) + (S 0 16 z)) ≤ 24)) else S a1 b1 i1 := fun a1 b1 i1 => by rw [← eS1]; exact st_at _ _ _ _ _ _ _ _
        have aS1_0 : S1 0 0 (-1) = 1 := by rw [qS1, if_neg (by omega)]; exact hw.al
        have wS1 : wM S1 := wM.keep hw (fun r j h => by unfold wrow at h; rw [qS1, if_neg (by omega)])
        refine q_if_neb (tgt := 104) hx hb dX4_join_99 (by decide) (fun c_2 => ?_) (fun c_2 => ?_)
        · -- ((isP S x) ∧ (isP S z)) ∧ ((x ≠ z)) ∧ (((isP S x) ∧ (isP S z)) ∧ (dnM S x) ∧ (dnM S z) ∧ ((S 0 17 x) = (S 0 17 z)) ∧ (((S 0 16 x) + (S 0 16 z)) ≤ 24))
          obtain ⟨⟨hpx, hpz⟩, hxz, -, -, -, hrr, hcc⟩ := id c_2
          obtain ⟨hq1, hq2, hq3⟩ := id hpx
          obtain ⟨hq4, hq5, hq6⟩ := id hpz
          obtain ⟨hc1, hc2, hr1, hr2, hv1, hv2, hd1, hd2⟩ := hw.pc x (by omega) (by omega)
          obtain ⟨gc1, gc2, gr1, gr2, gv1, gv2, gd1, gd2⟩ := hw.pc z (by omega) (by omega)
          have hcx := hcl x hpx
          have hcz := hcl z hpz
          have y17 : S1 0 17 z = S 0 17 z := by rw [qS1, if_neg (by omega)]
          refine lv_aload_n hx hb dX4_join_104 rfl (lv_at hl 2 rfl) ?_
          refine p_get (k := 0) hx hb hown hK hP aS1_0 rfl rfl rfl (lay_X4 hK) 15 713 (by decide) t_713 rfl rfl dX4_join_105 ?_
          refine lv_iload_n hx hb dX4_join_108 rfl (lv_at hl 3 rfl) ?_
          refine p_iald (k := 0) (r := 16) (n := 20) hx hb hK hP aS1_0 rfl rfl (by decide) (by decide) (by omega) (by omega) dX4_join_109 ?_
          refine q_nm (show S1 0 16 x = S 0 16 x from by rw [qS1, if_neg (by omega)]) ?_
          refine lv_istore (lv' := [(5, .int (i32 (S 0 16 x))), (4, .int (i32 (b2 (((isP S x) ∧ (isP S z)) ∧ (dnM S x) ∧ (dnM S z) ∧ ((S 0 17 x) = (S 0 17 z)) ∧ (((S 0 16 x) + (S 0 16 z)) ≤ 24))))), (3, .int (i32 (b2 ((isP S x) ∧ (isP S z))))), (0, .ref (ad 0 0)), (1, .int (i32 (x))), (2, .int (i32 (z)))]) hx hb dX4_join_110 hl (by decide) rfl (fun ls hl => ?_)
          refine lv_iconst (v := i32 (0)) hx hb dX4_join_112 rfl ?_
          refine lv_istore (lv' := [(6, .int (i32 (0))), (5, .int (i32 (S 0 16 x))), (4, .int (i32 (b2 (((isP S x) ∧ (isP S z)) ∧ (dnM S x) ∧ (dnM S z) ∧ ((S 0 17 x) = (S 0 17 z)) ∧ (((S 0 16 x) + (S 0 16 z)) ≤ 24))))), (3, .int (i32 (b2 ((isP S x) ∧ (isP S z))))), (0, .ref (ad 0 0)), (1, .int (i32 (x))), (2, .int (i32 (z)))]) hx hb dX4_join_113 hl (by decide) rfl (fun ls hl => ?_)
          have L115 : ∀ (k : Nat) (k1 : Int) (Sa : St) (H : Heap) (locs : List Loc) (ls : Array Slot), (0 ≤ k1 ∧ k1 ≤ S 0 16 z) → (∀ (a1 b1 : Nat) (i1 : Int), Sa a1 b1 i1 = cmF S1 z 0 x (S 0 16 x) k1 a1 b1 i1) → S 0 16 z - k1 < (k : Int) → pic g base ad Sa H → va_S (fun q => base ≤ q) s.heap H locs → lv_has ls 7 [(6, .int (i32 (k1))), (5, .int (i32 (S 0 16 x))), (4, .int (i32 (b2 (((isP S x) ∧ (isP S z)) ∧ (dnM S x) ∧ (dnM S z) ∧ ((S 0 17 x) = (S 0 17 z)) ∧ (((S 0 16 x) + (S 0 16 z)) ≤ 24))))), (3, .int (i32 (b2 ((isP S x) ∧ (isP S z))))), (0, .ref (ad 0 0)), (1, .int (i32 (x))), (2, .int (i32 (z)))] → W p l e ({ frames := 2, cells := 0, slots := 0, locals := 51 } : Room) s m av below meth cz H locs 0 0 Qm (F0 m 115 ls []) := by
            intro k
            induction k with
            | zero => intro k1 Sa H locs ls zk zS hmu _ _ _; exact absurd hmu (by omega)
            | succ k ih115 =>
              intro k1 Sa H locs ls zk zS hmu hP hS hl
              have aSa_0 : Sa 0 0 (-1) = 1 := by rw [zS, cmF_o _ _ _ _ _ _ (by decide)]; exact aS1_0
              have wSa : wM Sa := wM.keep wS1 (fun r j h => by unfold wrow at h; rw [zS, cmF_o _ _ _ _ _ _ (by omega)])
              have rSa : ∀ (a1 b1 : Nat) (i1 : Int), rng (Sa a1 b1 i1) := fun a1 b1 i1 => hP.rg a1 b1 i1
              have y17a : Sa 0 17 z = S 0 17 z := by rw [zS, cmF_o _ _ _ _ _ _ (by decide)]; exact y17
              refine lv_iload hx hb dX4_join_115 (lv_at hl 0 rfl) ?_
              refine lv_aload_n hx hb dX4_join_117 rfl (lv_at hl 4 rfl) ?_
              refine p_get (k := 0) hx hb hown hK hP aSa_0 rfl rfl rfl (lay_X4 hK) 15 713 (by decide) t_713 rfl rfl dX4_join_118 ?_
              refine lv_iload_n hx hb dX4_join_121 rfl (lv_at hl 6 rfl) ?_
              refine p_iald (k := 0) (r := 16) (n := 20) hx hb hK hP aSa_0 rfl rfl (by decide) (by decide) (by omega) (by omega) dX4_join_122 ?_
              refine q_nm (show Sa 0 16 z = S 0 16 z from by rw [zS, cmF_o _ _ _ _ _ _ (by decide), qS1, if_neg (by omega)]) ?_
              refine q_icmp_ge (tgt := 145) hx hb ⟨by omega, by omega⟩ (rS _ _ _) dX4_join_123 (by decide) (fun c_3 => ?_) (fun c_3 => ?_)
              · -- (S 0 16 z) ≤ k1
                refine lv_aload_n hx hb dX4_join_145 rfl (lv_at hl 4 rfl) ?_
                refine p_get (k := 0) hx hb hown hK hP aSa_0 rfl rfl rfl (lay_X4 hK) 15 713 (by decide) t_713 rfl rfl dX4_join_146 ?_
                refine lv_iload_n hx hb dX4_join_149 rfl (lv_at hl 5 rfl) ?_
                refine lv_dup2_11 hx hb dX4_join_150 rfl rfl ?_
                refine p_iald (k := 0) (r := 16) (n := 20) hx hb hK hP aSa_0 rfl rfl (by decide) (by decide) (by omega) (by omega) dX4_join_151 ?_
                refine q_nm (show Sa 0 16 x = S 0 16 x from by rw [zS, cmF_o _ _ _ _ _ _ (by decide), qS1, if_neg (by omega)]) ?_
                refine lv_aload_n hx hb dX4_join_152 rfl (lv_at hl 4 rfl) ?_
                refine p_get (k := 0) hx hb hown hK hP aSa_0 rfl rfl rfl (lay_X4 hK) 15 713 (by decide) t_713 rfl rfl dX4_join_153 ?_
                refine lv_iload_n hx hb dX4_join_156 rfl (lv_at hl 6 rfl) ?_
                refine p_iald (k := 0) (r := 16) (n := 20) hx hb hK hP aSa_0 rfl rfl (by decide) (by decide) (by omega) (by omega) dX4_join_157 ?_
                refine q_nm (show Sa 0 16 z = S 0 16 z from by rw [zS, cmF_o _ _ _ _ _ _ (by decide), qS1, if_neg (by omega)]) ?_
                refine q_iadd hx hb dX4_join_158 ?_
                refine p_iast (k := 0) (r := 16) (n := 20) hx hb hK hP hS aSa_0 rfl rfl (by decide) (by decide) (by omega) (by omega) ⟨by omega, by omega⟩ dX4_join_159 (fun H locs hP hS => ?_)
                generalize eS4 : st Sa 0 16 x ((S 0 16 x) + (S 0 16 z)) = S4 at hP
                have qS4 : ∀ (a1 b1 : Nat) (i1 : Int), S4 a1 b1 i1 = if a1 = 0 ∧ b1 = 16 ∧ i1 = x then (S 0 16 x) + (S 0 16 z) else Sa a1 b1 i1 := fun a1 b1 i1 => by rw [← eS4]; exact st_at _ _ _ _ _ _ _ _
                have rS4 : ∀ (a1 b1 : Nat) (i1 : Int), rng (S4 a1 b1 i1) := fun a1 b1 i1 => hP.rg a1 b1 i1
                have aS4_0 : S4 0 0 (-1) = 1 := by rw [qS4, if_neg (by omega)]; exact aSa_0
                have wS4 : wM S4 := wM_16 wSa qS4 (by omega) (by omega)
                refine lv_aload_n hx hb dX4_join_160 rfl (lv_at hl 4 rfl) ?_
                refine p_get (k := 0) hx hb hown hK hP aS4_0 rfl rfl rfl (lay_X4 hK) 18 716 (by decide) t_716 rfl rfl dX4_join_161 ?_
                refine lv_iload_n hx hb dX4_join_164 rfl (lv_at hl 6 rfl) ?_
                refine lv_iconst (v := i32 (1)) hx hb dX4_join_165 rfl ?_
                refine p_zast (k := 0) (r := 19) (n := 20) hx hb hK hP hS aS4_0 rfl rfl (by decide) (by decide) (by omega) (by omega) (by omega) dX4_join_166 (fun H locs hP hS => ?_)
                generalize eS5 : st S4 0 19 z 1 = S5 at hP
                have qS5 : ∀ (a1 b1 : Nat) (i1 : Int), S5 a1 b1 i1 = if a1 = 0 ∧ b1 = 19 ∧ i1 = z then 1 else S4 a1 b1 i1 := fun a1 b1 i1 => by rw [← eS5]; exact st_at _ _ _ _ _ _ _ _
                have rS5 : ∀ (a1 b1 : Nat) (i1 : Int), rng (S5 a1 b1 i1) := fun a1 b1 i1 => hP.rg a1 b1 i1
                have aS5_0 : S5 0 0 (-1) = 1 := by rw [qS5, if_neg (by omega)]; exact aS4_0
                have wS5 : wM S5 := wM.keep wS4 (fun r j h => by unfold wrow at h; rw [qS5, if_neg (by omega)])
                have hfz : ∀ j, 0 ≤ j → j < 480 → 0 ≤ S5 0 23 j ∧ S5 0 23 j ≤ 24 := fun j h0 h1 => by
                  rw [qS5, if_neg (by omega), qS4, if_neg (by omega), zS]
                  exact cmF_fc (fun j h0 h1 => by rw [qS1, if_neg (by omega)]; exact hfc j h0 h1) (by omega) (by omega) (by omega) (by omega) j h0 h1
                refine lv_aload_n hx hb dX4_join_167 rfl (lv_at hl 4 rfl) ?_
                refine lv_iload_n hx hb dX4_join_168 rfl (lv_at hl 5 rfl) ?_
                refine lv_iload hx hb dX4_join_169 (lv_at hl 1 rfl) ?_
                refine q_callV (k := 0) hx hb hml hl.1 hown hK hZ hP hS aS5_0 rfl rfl rfl (c_X4_isRight l g base ad S5 x (S 0 16 x) wS5 (by omega) (by omega) hfz) t_945 t_32 (q_callB hK 943 36 946 t_943 t_36 t_946 f_yX4_isRight ⟨by decide, by decide⟩) rfl rfl (Nat.le_of_ble_eq_true rfl) dX4_join_171 ⟨by decide, by decide⟩  (q_an (fun H locs hP hS => ?_))
                subst hQm
                exact q_zret hx hb hr hlocks hP hS (b2_01 _) (by exact ⟨rfl, Or.inr ⟨c_2, rfl, fun a1 b1 i1 => by rw [eS1, qS5, qS4, zS, show k1 = S 0 16 z from by omega]⟩⟩) (by decide) (by decide) dX4_join_174
              · -- k1 < (S 0 16 z)
                refine lv_aload_n hx hb dX4_join_126 rfl (lv_at hl 4 rfl) ?_
                refine lv_iload_n hx hb dX4_join_127 rfl (lv_at hl 6 rfl) ?_
                refine lv_iload hx hb dX4_join_128 (lv_at hl 0 rfl) ?_
                refine lv_iload_n hx hb dX4_join_130 rfl (lv_at hl 5 rfl) ?_
                refine lv_iload hx hb dX4_join_131 (lv_at hl 1 rfl) ?_
                refine lv_iload hx hb dX4_join_133 (lv_at hl 0 rfl) ?_
                refine q_iadd hx hb dX4_join_135 ?_
                refine q_callV (k := 0) hx hb hml hl.1 hown hK hZ hP hS aSa_0 rfl rfl rfl (c_X4_copies l g base ad Sa z k1 x ((S 0 16 x) + k1) wSa (by omega) (by omega) (by omega) (by omega)) t_933 t_31 (q_callB hK 931 36 934 t_931 t_36 t_934 f_yX4_copies ⟨by decide, by decide⟩) rfl rfl (Nat.le_of_ble_eq_true rfl) dX4_join_136 ⟨by decide, by decide⟩  (q_an (fun H locs hP hS => ?_))
                generalize eS6 : cpF Sa z k1 x ((S 0 16 x) + k1) = S6 at hP
                have rS6 : ∀ (a1 b1 : Nat) (i1 : Int), rng (S6 a1 b1 i1) := fun a1 b1 i1 => hP.rg a1 b1 i1
                have qS6 : ∀ (a1 b1 : Nat) (i1 : Int), S6 a1 b1 i1 = cpF Sa z k1 x ((S 0 16 x) + k1) a1 b1 i1 := fun a1 b1 i1 => by rw [← eS6]
                have aS6_0 : S6 0 0 (-1) = 1 := by rw [qS6, cpF_o _ _ _ _ _ (by decide)]; exact aSa_0
                have wS6 : wM S6 := wM.keep wSa (fun r j h => by unfold wrow at h; rw [qS6, cpF_o _ _ _ _ _ (by omega)])
                refine lv_iinc (v := i32 (k1 + 1)) (lv' := [(6, .int (i32 (k1 + 1))), (5, .int (i32 (S 0 16 x))), (4, .int (i32 (b2 (((isP S x) ∧ (isP S z)) ∧ (dnM S x) ∧ (dnM S z) ∧ ((S 0 17 x) = (S 0 17 z)) ∧ (((S 0 16 x) + (S 0 16 z)) ≤ 24))))), (3, .int (i32 (b2 ((isP S x) ∧ (isP S z))))), (0, .ref (ad 0 0)), (1, .int (i32 (x))), (2, .int (i32 (z)))]) hx hb dX4_join_139 hl (k := 0) rfl (i32_add _ _) (by decide) rfl (fun ls hl => ?_)
                refine lv_goto (tgt := 115) hx hb dX4_join_142 (by decide) ?_
                exact ih115 (k1 + 1) S6 _ _ _ (by omega) (by intro a1 b1 i1; rw [qS6, show cpF Sa z k1 x (S 0 16 x + k1) = cpF Sa z (0 + k1) x (S 0 16 x + k1) from by rw [Int.zero_add]]; exact cmF_s zS (by omega) (by omega) (by omega) (by omega) (by omega) (by omega) a1 b1 i1) (by omega) hP hS (lv_sub hl [0, 1, 2, 3, 4, 5, 6] rfl)
          exact L115 ((S 0 16 z - 0) + 1).toNat 0 S1 _ _ _ (by omega) (by intro a1 b1 i1; exact cmF_0 _ _ _ _ _ a1 b1 i1) (by omega) hP hS (lv_sub hl [0, 1, 2, 3, 4, 5, 6] rfl)
        · -- ¬ (((isP S x) ∧ (isP S z)) ∧ ((x ≠ z)) ∧ (((isP S x) ∧ (isP S z)) ∧ (dnM S x) ∧ (dnM S z) ∧ ((S 0 17 x) = (S 0 17 z)) ∧ (((S 0 16 x) + (S 0 16 z)) ≤ 24)))
          refine lv_iconst (v := i32 (0)) hx hb dX4_join_102 rfl ?_
          subst hQm
          exact q_zret hx hb hr hlocks hP hS (by omega) (by subst eS1; exact ⟨rfl, Or.inl ⟨c_2, rfl, rfl⟩⟩) (by decide) (by decide) dX4_join_103
      refine q_icmp_eq (tgt := 93) hx hb hrn hrn2 dX4_join_86 (by decide) (fun c_7 => ?_) (fun c_7 => ?_)
      · -- x = z
        refine lv_iconst (v := i32 (0)) hx hb dX4_join_93 rfl ?_
        refine q_nm (b2_f (show ¬ ((x ≠ z)) from by first | omega | (simp only [*]; done) | simp_all)).symm ?_
        exact J94 _ _ hP hS
      · -- x ≠ z
        refine lv_iconst (v := i32 (1)) hx hb dX4_join_89 rfl ?_
        refine lv_goto (tgt := 94) hx hb dX4_join_90 (by decide) ?_
        refine q_nm (b2_t (show (x ≠ z) from by first | omega | (simp only [*]; done) | simp_all)).symm ?_
        exact J94 _ _ hP hS
    refine q_if_eqb (tgt := 79) hx hb dX4_join_23 (by decide) (fun c_8 => ?_) (fun c_8 => ?_)
    · -- ¬ ((isP S x) ∧ (isP S z))
      refine lv_iconst (v := i32 (0)) hx hb dX4_join_79 rfl ?_
      refine q_nm (b2_f (show ¬ (((isP S x) ∧ (isP S z)) ∧ (dnM S x) ∧ (dnM S z) ∧ ((S 0 17 x) = (S 0 17 z)) ∧ (((S 0 16 x) + (S 0 16 z)) ≤ 24)) from by first | omega | (simp only [*]; done) | simp_all)).symm ?_
      exact J80 _ _ hP hS
    · -- (isP S x) ∧ (isP S z)
      obtain ⟨⟨hq1, hq2, hq3⟩, hq4, hq5, hq6⟩ := id c_8
      obtain ⟨hc1, hc2, hr1, hr2, hv1, hv2, hd1, hd2⟩ := hw.pc x (by omega) (by omega)
      obtain ⟨gc1, gc2, gr1, gr2, gv1, gv2, gd1, gd2⟩ := hw.pc z (by omega) (by omega)
      refine lv_aload_n hx hb dX4_join_26 rfl (lv_at hl 1 rfl) ?_
      refine lv_iload_n hx hb dX4_join_27 rfl (lv_at hl 2 rfl) ?_
      refine q_callV (k := 0) hx hb hml hl.1 hown hK hZ hP hS hw.al rfl rfl rfl (c_X4_isDone l g base ad S x hw (by omega)) t_885 t_24 (q_callB hK 883 36 886 t_883 t_36 t_886 f_yX4_isDone ⟨by decide, by decide⟩) rfl rfl (Nat.le_of_ble_eq_true rfl) dX4_join_28 ⟨by decide, by decide⟩  (q_an (fun H locs hP hS => ?_))
      refine q_if_eqb (tgt := 79) hx hb dX4_join_31 (by decide) (fun c_9 => ?_) (fun c_9 => ?_)
      · -- ¬ (dnM S x)
        refine lv_iconst (v := i32 (0)) hx hb dX4_join_79 rfl ?_
        refine q_nm (b2_f (show ¬ (((isP S x) ∧ (isP S z)) ∧ (dnM S x) ∧ (dnM S z) ∧ ((S 0 17 x) = (S 0 17 z)) ∧ (((S 0 16 x) + (S 0 16 z)) ≤ 24)) from by first | omega | (simp only [*]; done) | simp_all)).symm ?_
        exact J80 _ _ hP hS
      · -- dnM S x
        refine lv_aload_n hx hb dX4_join_34 rfl (lv_at hl 1 rfl) ?_
        refine lv_iload_n hx hb dX4_join_35 rfl (lv_at hl 3 rfl) ?_
        refine q_callV (k := 0) hx hb hml hl.1 hown hK hZ hP hS hw.al rfl rfl rfl (c_X4_isDone l g base ad S z hw (by omega)) t_885 t_24 (q_callB hK 883 36 886 t_883 t_36 t_886 f_yX4_isDone ⟨by decide, by decide⟩) rfl rfl (Nat.le_of_ble_eq_true rfl) dX4_join_36 ⟨by decide, by decide⟩  (q_an (fun H locs hP hS => ?_))
        refine q_if_eqb (tgt := 79) hx hb dX4_join_39 (by decide) (fun c_10 => ?_) (fun c_10 => ?_)
        · -- ¬ (dnM S z)
          refine lv_iconst (v := i32 (0)) hx hb dX4_join_79 rfl ?_
          refine q_nm (b2_f (show ¬ (((isP S x) ∧ (isP S z)) ∧ (dnM S x) ∧ (dnM S z) ∧ ((S 0 17 x) = (S 0 17 z)) ∧ (((S 0 16 x) + (S 0 16 z)) ≤ 24)) from by first | omega | (simp only [*]; done) | simp_all)).symm ?_
          exact J80 _ _ hP hS
        · -- dnM S z
          refine lv_aload_n hx hb dX4_join_42 rfl (lv_at hl 1 rfl) ?_
          refine p_get (k := 0) hx hb hown hK hP hw.al rfl rfl rfl (lay_X4 hK) 16 714 (by decide) t_714 rfl rfl dX4_join_43 ?_
          refine lv_iload_n hx hb dX4_join_46 rfl (lv_at hl 2 rfl) ?_
          refine p_iald (k := 0) (r := 17) (n := 20) hx hb hK hP hw.al rfl rfl (by decide) (by decide) (by omega) (by omega) dX4_join_47 ?_
          refine lv_aload_n hx hb dX4_join_48 rfl (lv_at hl 1 rfl) ?_
          refine p_get (k := 0) hx hb hown hK hP hw.al rfl rfl rfl (lay_X4 hK) 16 714 (by decide) t_714 rfl rfl dX4_join_49 ?_
          refine lv_iload_n hx hb dX4_join_52 rfl (lv_at hl 3 rfl) ?_
          refine p_iald (k := 0) (r := 17) (n := 20) hx hb hK hP hw.al rfl rfl (by decide) (by decide) (by omega) (by omega) dX4_join_53 ?_
          refine q_icmp_ne (tgt := 79) hx hb (hP.rg _ _ _) (hP.rg _ _ _) dX4_join_54 (by decide) (fun c_11 => ?_) (fun c_11 => ?_)
          · -- (S 0 17 x) ≠ (S 0 17 z)
            refine lv_iconst (v := i32 (0)) hx hb dX4_join_79 rfl ?_
            refine q_nm (b2_f (show ¬ (((isP S x) ∧ (isP S z)) ∧ (dnM S x) ∧ (dnM S z) ∧ ((S 0 17 x) = (S 0 17 z)) ∧ (((S 0 16 x) + (S 0 16 z)) ≤ 24)) from by first | omega | (simp only [*]; done) | simp_all)).symm ?_
            exact J80 _ _ hP hS
          · -- (S 0 17 x) = (S 0 17 z)
            refine lv_aload_n hx hb dX4_join_57 rfl (lv_at hl 1 rfl) ?_
            refine p_get (k := 0) hx hb hown hK hP hw.al rfl rfl rfl (lay_X4 hK) 15 713 (by decide) t_713 rfl rfl dX4_join_58 ?_
            refine lv_iload_n hx hb dX4_join_61 rfl (lv_at hl 2 rfl) ?_
            refine p_iald (k := 0) (r := 16) (n := 20) hx hb hK hP hw.al rfl rfl (by decide) (by decide) (by omega) (by omega) dX4_join_62 ?_
            refine lv_aload_n hx hb dX4_join_63 rfl (lv_at hl 1 rfl) ?_
            refine p_get (k := 0) hx hb hown hK hP hw.al rfl rfl rfl (lay_X4 hK) 15 713 (by decide) t_713 rfl rfl dX4_join_64 ?_
            refine lv_iload_n hx hb dX4_join_67 rfl (lv_at hl 3 rfl) ?_
            refine p_iald (k := 0) (r := 16) (n := 20) hx hb hK hP hw.al rfl rfl (by decide) (by decide) (by omega) (by omega) dX4_join_68 ?_
            refine q_iadd hx hb dX4_join_69 ?_
            refine lv_bipush (v := i32 (24)) hx hb dX4_join_70 (by decide) ?_
            refine q_icmp_gt (tgt := 79) hx hb ⟨by omega, by omega⟩ ⟨by decide, by decide⟩ dX4_join_72 (by decide) (fun c_12 => ?_) (fun c_12 => ?_)
            · -- 24 < ((S 0 16 x) + (S 0 16 z))
              refine lv_iconst (v := i32 (0)) hx hb dX4_join_79 rfl ?_
              refine q_nm (b2_f (show ¬ (((isP S x) ∧ (isP S z)) ∧ (dnM S x) ∧ (dnM S z) ∧ ((S 0 17 x) = (S 0 17 z)) ∧ (((S 0 16 x) + (S 0 16 z)) ≤ 24)) from by first | omega | (simp only [*]; done) | simp_all)).symm ?_
              exact J80 _ _ hP hS
            · -- ((S 0 16 x) + (S 0 16 z)) ≤ 24
              refine lv_iconst (v := i32 (1)) hx hb dX4_join_75 rfl ?_
              refine lv_goto (tgt := 80) hx hb dX4_join_76 (by decide) ?_
              refine q_nm (b2_t (show ((isP S x) ∧ (isP S z)) ∧ (dnM S x) ∧ (dnM S z) ∧ ((S 0 17 x) = (S 0 17 z)) ∧ (((S 0 16 x) + (S 0 16 z)) ≤ 24) from by first | omega | (simp only [*]; done) | simp_all)).symm ?_
              exact J80 _ _ hP hS
  refine q_if_eqb (tgt := 20) hx hb dX4_join_5 (by decide) (fun c_13 => ?_) (fun c_13 => ?_)
  · -- ¬ (isP S x)
    refine lv_iconst (v := i32 (0)) hx hb dX4_join_20 rfl ?_
    refine q_nm (b2_f (show ¬ ((isP S x) ∧ (isP S z)) from by first | omega | (simp only [*]; done) | simp_all)).symm ?_
    exact J21 _ _ hP hS
  · -- isP S x
    refine lv_aload_n hx hb dX4_join_8 rfl (lv_at hl 0 rfl) ?_
    refine lv_iload_n hx hb dX4_join_9 rfl (lv_at hl 2 rfl) ?_
    refine q_callV (k := 0) hx hb hml hl.1 hown hK hZ hP hS hw.al rfl rfl rfl (c_X4_isPiece l g base ad S z hw hrn2) t_861 t_19 (q_callB hK 859 36 862 t_859 t_36 t_862 f_yX4_isPiece ⟨by decide, by decide⟩) rfl rfl (Nat.le_of_ble_eq_true rfl) dX4_join_10 ⟨by decide, by decide⟩  (q_an (fun H locs hP hS => ?_))
    refine q_if_eqb (tgt := 20) hx hb dX4_join_13 (by decide) (fun c_14 => ?_) (fun c_14 => ?_)
    · -- ¬ (isP S z)
      refine lv_iconst (v := i32 (0)) hx hb dX4_join_20 rfl ?_
      refine q_nm (b2_f (show ¬ ((isP S x) ∧ (isP S z)) from by first | omega | (simp only [*]; done) | simp_all)).symm ?_
      exact J21 _ _ hP hS
    · -- isP S z
      refine lv_iconst (v := i32 (1)) hx hb dX4_join_16 rfl ?_
      refine lv_goto (tgt := 21) hx hb dX4_join_17 (by decide) ?_
      refine q_nm (b2_t (show (isP S x) ∧ (isP S z) from by first | omega | (simp only [*]; done) | simp_all)).symm ?_
      exact J21 _ _ hP hS
