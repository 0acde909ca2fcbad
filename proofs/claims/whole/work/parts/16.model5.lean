set_option maxHeartbeats 4000000 in
set_option maxRecDepth 100000 in
theorem c_X4_row (l : Launch) (g : GT) (base : Nat) (ad : Nat → Nat → Nat) (S : St) (i : Int) (hw : wM S) (hrn : rng i) : Met l yX4_row [Cond.code yX4_row cX4_row 4 (some FieldType.int)] ({ frames := 2, cells := 0, slots := 0, locals := 43 }) (va_Pc [.ref (ad 0 0), .int (i32 (i))] (PK g base ad S)) (gQ g base (mP ad (isC S i) ((isC S i) ∧ ((S 0 0 0) = (S 0 4 i)) ∧ ((S 0 5 i) < 10)) (True) S (some (.int (i32 ((S 0 5 i) + 1)))) (fun Z => ∀ (a1 b1 : Nat) (i1 : Int), Z a1 b1 i1 = if a1 = 0 ∧ b1 = 5 ∧ i1 = i then (S 0 5 i) + 1 else if a1 = 0 ∧ b1 = 0 ∧ i1 = 0 then 0 else if a1 = 0 ∧ b1 = 8 ∧ (120 * i + 12 * S 0 5 i) ≤ i1 ∧ i1 < (120 * i + 12 * S 0 5 i) + S 0 0 0 then S 0 2 (i1 - (120 * i + 12 * S 0 5 i)) else (st S 0 0 27 (thr (isC S i) ((isC S i) ∧ ((S 0 0 0) = (S 0 4 i)) ∧ ((S 0 5 i) < 10)) (True))) a1 b1 i1))) 0 0 (fun q => base ≤ q) := by
  refine mk_m (own := RX4) (lv0 := [(0, .ref (ad 0 0)), (1, .int (i32 (i)))]) (by decide) rfl (Nat.le_of_ble_eq_true rfl) rfl ?_
  intro p e s m below meth cz av Qm hx hb hr hml hown hlocks hK hZ hP hQm ls hl
  have hS : va_S (fun q => base ≤ q) s.heap s.heap [] := va_S.rf
  have rS : ∀ (a1 b1 : Nat) (i1 : Int), rng (S a1 b1 i1) := fun a1 b1 i1 => hP.rg a1 b1 i1
  obtain ⟨hk1, hk2⟩ := hw.cs
  obtain ⟨hl1, hl2⟩ := hw.le
  refine lv_aload_n hx hb dX4_row_0 rfl (lv_at hl 0 rfl) ?_
  refine lv_iload_n hx hb dX4_row_1 rfl (lv_at hl 1 rfl) ?_
  refine q_callV (k := 0) hx hb hml hl.1 hown hK hZ hP hS hw.al rfl rfl rfl (c_X4_isCartoon l g base ad S i hw hrn) t_815 t_15 (q_callB hK 813 36 816 t_813 t_36 t_816 f_yX4_isCartoon ⟨by decide, by decide⟩) rfl rfl (Nat.le_of_ble_eq_true rfl) dX4_row_2 ⟨by decide, by decide⟩  (q_an (fun H locs hP hS => ?_))
  refine lv_istore_n (lv' := [(2, .int (i32 (b2 (isC S i)))), (0, .ref (ad 0 0)), (1, .int (i32 (i)))]) hx hb dX4_row_5 rfl hl (by decide) rfl (fun ls hl => ?_)
  refine lv_aload_n hx hb dX4_row_6 rfl (lv_at hl 1 rfl) ?_
  refine lv_iload_n hx hb dX4_row_7 rfl (lv_at hl 0 rfl) ?_
  refine lv_iload_n hx hb dX4_row_8 rfl (lv_at hl 0 rfl) ?_
  have J57 : ∀ (H : Heap) (locs : List Loc), pic g base ad S H → va_S (fun q => base ≤ q) s.heap H locs → W p l e ({ frames := 2, cells := 0, slots := 0, locals := 43 } : Room) s m av below meth cz H locs 0 0 Qm (F0 m 57 ls (Value.int (i32 (b2 ((isC S i) ∧ ((S 0 0 0) = (S 0 4 i)) ∧ ((S 0 5 i) < 10)))) :: Value.int (i32 (b2 (isC S i))) :: Value.ref (ad 0 0) :: [])) := by
    intro H locs hP hS
    refine lv_iconst (v := i32 (1)) hx hb dX4_row_57 rfl ?_
    refine W.eq (g2 := F0 m 58 ls (Value.int (i32 (b2 (True))) :: Value.int (i32 (b2 ((isC S i) ∧ ((S 0 0 0) = (S 0 4 i)) ∧ ((S 0 5 i) < 10)))) :: Value.int (i32 (b2 (isC S i))) :: Value.ref (ad 0 0) :: [])) (by simp only [b2_t trivial, b2_f not_false] <;> rfl) ?_
    refine q_callV (k := 0) hx hb hml hl.1 hown hK hZ hP hS hw.al rfl rfl rfl (c_X4_goes l g base ad S (isC S i) ((isC S i) ∧ ((S 0 0 0) = (S 0 4 i)) ∧ ((S 0 5 i) < 10)) True hw.al) t_796 t_14 (q_callB hK 794 36 797 t_794 t_36 t_797 f_yX4_goes ⟨by decide, by decide⟩) rfl rfl (Nat.le_of_ble_eq_true rfl) dX4_row_58 ⟨by decide, by decide⟩  (q_an (fun H locs hP hS => ?_))
    generalize eS1 : st S 0 0 27 (thr (isC S i) ((isC S i) ∧ ((S 0 0 0) = (S 0 4 i)) ∧ ((S 0 5 i) < 10)) True) = S1 at hP
    have rS1 : ∀ (a1 b1 : Nat) (i1 : Int), rng (S1 a1 b1 i1) := fun a1 b1 i1 => hP.rg a1 b1 i1
    have qS1 : ∀ (a1 b1 : Nat) (i1 : Int), S1 a1 b1 i1 = if a1 = 0 ∧ b1 = 0 ∧ i1 = 27 then thr (isC S i) ((isC S i) ∧ ((S 0 0 0) = (S 0 4 i)) ∧ ((S 0 5 i) < 10)) True else S a1 b1 i1 := fun a1 b1 i1 => by rw [← eS1]; exact st_at _ _ _ _ _ _ _ _
    have aS1_0 : S1 0 0 (-1) = 1 := by rw [qS1, if_neg (by omega)]; exact hw.al
    have wS1 : wM S1 := wM.keep hw (fun r j h => by unfold wrow at h; rw [qS1, if_neg (by omega)])
    refine q_if_neb (tgt := 66) hx hb dX4_row_61 (by decide) (fun c_2 => ?_) (fun c_2 => ?_)
    · -- (isC S i) ∧ ((isC S i) ∧ ((S 0 0 0) = (S 0 4 i)) ∧ ((S 0 5 i) < 10)) ∧ True
      obtain ⟨⟨hi1, hi2⟩, ⟨-, hi3, hi4⟩, -⟩ := id c_2
      obtain ⟨hc1, hc2, hc3, hc4⟩ := hw.cw i (by omega) (by omega)
      refine lv_iconst (v := i32 (0)) hx hb dX4_row_66 rfl ?_
      refine lv_istore_n (lv' := [(3, .int (i32 (0))), (2, .int (i32 (b2 (isC S i)))), (0, .ref (ad 0 0)), (1, .int (i32 (i)))]) hx hb dX4_row_67 rfl hl (by decide) rfl (fun ls hl => ?_)
      have L68 : ∀ (k : Nat) (q : Int) (Sa : St) (H : Heap) (locs : List Loc) (ls : Array Slot), (0 ≤ q ∧ q ≤ S 0 0 0) → (∀ (a1 b1 : Nat) (i1 : Int), Sa a1 b1 i1 = if a1 = 0 ∧ b1 = 8 ∧ (120 * i + 12 * S 0 5 i) ≤ i1 ∧ i1 < (120 * i + 12 * S 0 5 i) + q then S 0 2 (i1 - (120 * i + 12 * S 0 5 i)) else S1 a1 b1 i1) → S 0 0 0 - q < (k : Int) → pic g base ad Sa H → va_S (fun q => base ≤ q) s.heap H locs → lv_has ls 4 [(3, .int (i32 (q))), (2, .int (i32 (b2 (isC S i)))), (0, .ref (ad 0 0)), (1, .int (i32 (i)))] → W p l e ({ frames := 2, cells := 0, slots := 0, locals := 43 } : Room) s m av below meth cz H locs 0 0 Qm (F0 m 68 ls []) := by
        intro k
        induction k with
        | zero => intro q Sa H locs ls zq zS hmu _ _ _; exact absurd hmu (by omega)
        | succ k ih68 =>
          intro q Sa H locs ls zq zS hmu hP hS hl
          have aSa_0 : Sa 0 0 (-1) = 1 := by rw [zS, if_neg (by omega)]; exact aS1_0
          have wSa : wM Sa := wM.keep wS1 (fun r j h => by unfold wrow at h; rw [zS, if_neg (by omega)])
          have rSa : ∀ (a1 b1 : Nat) (i1 : Int), rng (Sa a1 b1 i1) := fun a1 b1 i1 => hP.rg a1 b1 i1
          refine lv_iload_n hx hb dX4_row_68 rfl (lv_at hl 0 rfl) ?_
          refine lv_aload_n hx hb dX4_row_69 rfl (lv_at hl 2 rfl) ?_
          refine p_get (k := 0) hx hb hown hK hP aSa_0 rfl rfl rfl (lay_X4 hK) 0 698 (by decide) t_698 rfl rfl dX4_row_70 ?_
          refine q_nm (show Sa 0 0 0 = S 0 0 0 from by rw [zS, if_neg (by omega), qS1, if_neg (by omega)]) ?_
          refine q_icmp_ge (tgt := 109) hx hb ⟨by omega, by omega⟩ (rS _ _ _) dX4_row_73 (by decide) (fun c_3 => ?_) (fun c_3 => ?_)
          · -- (S 0 0 0) ≤ q
            refine lv_aload_n hx hb dX4_row_109 rfl (lv_at hl 2 rfl) ?_
            refine lv_iconst (v := i32 (0)) hx hb dX4_row_110 rfl ?_
            refine p_put (k := 0) hx hb hown hK hP hS aSa_0 rfl rfl rfl (lay_X4 hK) tyX4 tyX4_ok nmX4 0 698 (by decide) t_698 rfl rfl (by decide +kernel) ⟨by decide, by decide⟩ (Nat.le_of_ble_eq_true rfl) (set_0_0 _ _ _ _) dX4_row_111 (fun H locs hP hS => ?_)
            generalize eS4 : st Sa 0 0 0 0 = S4 at hP
            have qS4 : ∀ (a1 b1 : Nat) (i1 : Int), S4 a1 b1 i1 = if a1 = 0 ∧ b1 = 0 ∧ i1 = 0 then 0 else Sa a1 b1 i1 := fun a1 b1 i1 => by rw [← eS4]; exact st_at _ _ _ _ _ _ _ _
            have rS4 : ∀ (a1 b1 : Nat) (i1 : Int), rng (S4 a1 b1 i1) := fun a1 b1 i1 => hP.rg a1 b1 i1
            have aS4_0 : S4 0 0 (-1) = 1 := by rw [qS4, if_neg (by omega)]; exact aSa_0
            refine lv_aload_n hx hb dX4_row_114 rfl (lv_at hl 2 rfl) ?_
            refine p_get (k := 0) hx hb hown hK hP aS4_0 rfl rfl rfl (lay_X4 hK) 4 702 (by decide) t_702 rfl rfl dX4_row_115 ?_
            refine lv_iload_n hx hb dX4_row_118 rfl (lv_at hl 3 rfl) ?_
            refine lv_dup2_11 hx hb dX4_row_119 rfl rfl ?_
            refine p_iald (k := 0) (r := 5) (n := 5) hx hb hK hP aS4_0 rfl rfl (by decide) (by decide) (by omega) (by omega) dX4_row_120 ?_
            refine q_nm (show S4 0 5 i = S 0 5 i from by rw [qS4, if_neg (by omega), zS, if_neg (by omega), qS1, if_neg (by omega)]) ?_
            refine lv_iconst (v := i32 (1)) hx hb dX4_row_121 rfl ?_
            refine q_iadd hx hb dX4_row_122 ?_
            refine p_iast (k := 0) (r := 5) (n := 5) hx hb hK hP hS aS4_0 rfl rfl (by decide) (by decide) (by omega) (by omega) ⟨by omega, by omega⟩ dX4_row_123 (fun H locs hP hS => ?_)
            generalize eS5 : st S4 0 5 i ((S 0 5 i) + 1) = S5 at hP
            have qS5 : ∀ (a1 b1 : Nat) (i1 : Int), S5 a1 b1 i1 = if a1 = 0 ∧ b1 = 5 ∧ i1 = i then (S 0 5 i) + 1 else S4 a1 b1 i1 := fun a1 b1 i1 => by rw [← eS5]; exact st_at _ _ _ _ _ _ _ _
            have rS5 : ∀ (a1 b1 : Nat) (i1 : Int), rng (S5 a1 b1 i1) := fun a1 b1 i1 => hP.rg a1 b1 i1
            have aS5_0 : S5 0 0 (-1) = 1 := by rw [qS5, if_neg (by omega)]; exact aS4_0
            refine lv_aload_n hx hb dX4_row_124 rfl (lv_at hl 2 rfl) ?_
            refine p_get (k := 0) hx hb hown hK hP aS5_0 rfl rfl rfl (lay_X4 hK) 4 702 (by decide) t_702 rfl rfl dX4_row_125 ?_
            refine lv_iload_n hx hb dX4_row_128 rfl (lv_at hl 3 rfl) ?_
            refine p_iald (k := 0) (r := 5) (n := 5) hx hb hK hP aS5_0 rfl rfl (by decide) (by decide) (by omega) (by omega) dX4_row_129 ?_
            refine q_nm (show S5 0 5 i = (S 0 5 i) + 1 from by rw [qS5, if_pos ⟨rfl, rfl, rfl⟩]) ?_
            subst hQm
            exact q_iret hx hb hr hlocks hP hS (by exact ⟨rfl, Or.inr ⟨c_2, rfl, fun a1 b1 i1 => by rw [eS1, qS5, qS4, zS, show q = S 0 0 0 from by omega]⟩⟩) (by decide) (by decide) dX4_row_130
          · -- q < (S 0 0 0)
            refine lv_aload_n hx hb dX4_row_76 rfl (lv_at hl 2 rfl) ?_
            refine p_get (k := 0) hx hb hown hK hP aSa_0 rfl rfl rfl (lay_X4 hK) 7 705 (by decide) t_705 rfl rfl dX4_row_77 ?_
            refine lv_bipush (v := i32 (120)) hx hb dX4_row_80 (by decide) ?_
            refine lv_iload_n hx hb dX4_row_82 rfl (lv_at hl 3 rfl) ?_
            refine q_imul hx hb dX4_row_83 ?_
            refine lv_bipush (v := i32 (12)) hx hb dX4_row_84 (by decide) ?_
            refine lv_aload_n hx hb dX4_row_86 rfl (lv_at hl 2 rfl) ?_
            refine p_get (k := 0) hx hb hown hK hP aSa_0 rfl rfl rfl (lay_X4 hK) 4 702 (by decide) t_702 rfl rfl dX4_row_87 ?_
            refine lv_iload_n hx hb dX4_row_90 rfl (lv_at hl 3 rfl) ?_
            refine p_iald (k := 0) (r := 5) (n := 5) hx hb hK hP aSa_0 rfl rfl (by decide) (by decide) (by omega) (by omega) dX4_row_91 ?_
            refine q_nm (show Sa 0 5 i = S 0 5 i from by rw [zS, if_neg (by omega), qS1, if_neg (by omega)]) ?_
            refine q_imul hx hb dX4_row_92 ?_
            refine q_iadd hx hb dX4_row_93 ?_
            refine lv_iload_n hx hb dX4_row_94 rfl (lv_at hl 0 rfl) ?_
            refine q_iadd hx hb dX4_row_95 ?_
            refine lv_aload_n hx hb dX4_row_96 rfl (lv_at hl 2 rfl) ?_
            refine p_get (k := 0) hx hb hown hK hP aSa_0 rfl rfl rfl (lay_X4 hK) 1 699 (by decide) t_699 rfl rfl dX4_row_97 ?_
            refine lv_iload_n hx hb dX4_row_100 rfl (lv_at hl 0 rfl) ?_
            refine p_iald (k := 0) (r := 2) (n := 12) hx hb hK hP aSa_0 rfl rfl (by decide) (by decide) (by omega) (by omega) dX4_row_101 ?_
            refine q_nm (show Sa 0 2 q = S 0 2 q from by rw [zS, if_neg (by omega), qS1, if_neg (by omega)]) ?_
            refine p_iast (k := 0) (r := 8) (n := 600) hx hb hK hP hS aSa_0 rfl rfl (by decide) (by decide) (by omega) (by omega) (rS _ _ _) dX4_row_102 (fun H locs hP hS => ?_)
            generalize eS6 : st Sa 0 8 (((120 * i) + (12 * (S 0 5 i))) + q) (S 0 2 q) = S6 at hP
            have qS6 : ∀ (a1 b1 : Nat) (i1 : Int), S6 a1 b1 i1 = if a1 = 0 ∧ b1 = 8 ∧ i1 = ((120 * i) + (12 * (S 0 5 i))) + q then S 0 2 q else Sa a1 b1 i1 := fun a1 b1 i1 => by rw [← eS6]; exact st_at _ _ _ _ _ _ _ _
            have rS6 : ∀ (a1 b1 : Nat) (i1 : Int), rng (S6 a1 b1 i1) := fun a1 b1 i1 => hP.rg a1 b1 i1
            have aS6_0 : S6 0 0 (-1) = 1 := by rw [qS6, if_neg (by omega)]; exact aSa_0
            have wS6 : wM S6 := wM.keep wSa (fun r j h => by unfold wrow at h; rw [qS6, if_neg (by omega)])
            refine lv_iinc (v := i32 (q + 1)) (lv' := [(3, .int (i32 (q + 1))), (2, .int (i32 (b2 (isC S i)))), (0, .ref (ad 0 0)), (1, .int (i32 (i)))]) hx hb dX4_row_103 hl (k := 0) rfl (i32_add _ _) (by decide) rfl (fun ls hl => ?_)
            refine lv_goto (tgt := 68) hx hb dX4_row_106 (by decide) ?_
            exact ih68 (q + 1) S6 _ _ _ (by omega) (by exact fill1 zS qS6 rfl zq.1) (by omega) hP hS (lv_sub hl [0, 1, 2, 3] rfl)
      exact L68 ((S 0 0 0 - 0) + 1).toNat 0 S1 _ _ _ (by omega) (by intro a1 b1 i1; rw [if_neg (by omega)]) (by omega) hP hS (lv_sub hl [0, 1, 2, 3] rfl)
    · -- ¬ ((isC S i) ∧ ((isC S i) ∧ ((S 0 0 0) = (S 0 4 i)) ∧ ((S 0 5 i) < 10)) ∧ True)
      refine lv_iconst (v := i32 (0)) hx hb dX4_row_64 rfl ?_
      subst hQm
      exact q_iret hx hb hr hlocks hP hS (by subst eS1; exact ⟨rfl, Or.inl ⟨c_2, rfl, rfl⟩⟩) (by decide) (by decide) dX4_row_65
  refine q_if_eqb (tgt := 56) hx hb dX4_row_9 (by decide) (fun c_7 => ?_) (fun c_7 => ?_)
  · -- ¬ (isC S i)
    refine lv_iconst (v := i32 (0)) hx hb dX4_row_56 rfl ?_
    refine q_nm (b2_f (show ¬ ((isC S i) ∧ ((S 0 0 0) = (S 0 4 i)) ∧ ((S 0 5 i) < 10)) from by first | omega | (simp only [*]; done) | simp_all)).symm ?_
    exact J57 _ _ hP hS
  · -- isC S i
    obtain ⟨hi1, hi2⟩ := id c_7
    obtain ⟨hc1, hc2, hc3, hc4⟩ := hw.cw i (by omega) (by omega)
    refine lv_aload_n hx hb dX4_row_12 rfl (lv_at hl 1 rfl) ?_
    refine p_get (k := 0) hx hb hown hK hP hw.al rfl rfl rfl (lay_X4 hK) 0 698 (by decide) t_698 rfl rfl dX4_row_13 ?_
    refine lv_aload_n hx hb dX4_row_16 rfl (lv_at hl 1 rfl) ?_
    refine p_get (k := 0) hx hb hown hK hP hw.al rfl rfl rfl (lay_X4 hK) 3 701 (by decide) t_701 rfl rfl dX4_row_17 ?_
    refine lv_iload_n hx hb dX4_row_20 rfl (lv_at hl 0 rfl) ?_
    refine q_if_eqb (tgt := 28) hx hb dX4_row_21 (by decide) (fun h => by first | exact absurd c_7 h | exact absurd h c_7 | omega) (fun _ => ?_)
    refine lv_iload_n hx hb dX4_row_24 rfl (lv_at hl 2 rfl) ?_
    refine lv_goto (tgt := 29) hx hb dX4_row_25 (by decide) ?_
    refine p_iald (k := 0) (r := 4) (n := 5) hx hb hK hP hw.al rfl rfl (by decide) (by decide) (by omega) (by omega) dX4_row_29 ?_
    refine q_icmp_ne (tgt := 56) hx hb (hP.rg _ _ _) (hP.rg _ _ _) dX4_row_30 (by decide) (fun c_8 => ?_) (fun c_8 => ?_)
    · -- (S 0 0 0) ≠ (S 0 4 i)
      refine lv_iconst (v := i32 (0)) hx hb dX4_row_56 rfl ?_
      refine q_nm (b2_f (show ¬ ((isC S i) ∧ ((S 0 0 0) = (S 0 4 i)) ∧ ((S 0 5 i) < 10)) from by first | omega | (simp only [*]; done) | simp_all)).symm ?_
      exact J57 _ _ hP hS
    · -- (S 0 0 0) = (S 0 4 i)
      refine lv_aload_n hx hb dX4_row_33 rfl (lv_at hl 1 rfl) ?_
      refine p_get (k := 0) hx hb hown hK hP hw.al rfl rfl rfl (lay_X4 hK) 4 702 (by decide) t_702 rfl rfl dX4_row_34 ?_
      refine lv_iload_n hx hb dX4_row_37 rfl (lv_at hl 0 rfl) ?_
      refine q_if_eqb (tgt := 45) hx hb dX4_row_38 (by decide) (fun h => by first | exact absurd c_7 h | exact absurd h c_7 | omega) (fun _ => ?_)
      refine lv_iload_n hx hb dX4_row_41 rfl (lv_at hl 2 rfl) ?_
      refine lv_goto (tgt := 46) hx hb dX4_row_42 (by decide) ?_
      refine p_iald (k := 0) (r := 5) (n := 5) hx hb hK hP hw.al rfl rfl (by decide) (by decide) (by omega) (by omega) dX4_row_46 ?_
      refine lv_bipush (v := i32 (10)) hx hb dX4_row_47 (by decide) ?_
      refine q_icmp_ge (tgt := 56) hx hb (hP.rg _ _ _) ⟨by decide, by decide⟩ dX4_row_49 (by decide) (fun c_9 => ?_) (fun c_9 => ?_)
      · -- 10 ≤ (S 0 5 i)
        refine lv_iconst (v := i32 (0)) hx hb dX4_row_56 rfl ?_
        refine q_nm (b2_f (show ¬ ((isC S i) ∧ ((S 0 0 0) = (S 0 4 i)) ∧ ((S 0 5 i) < 10)) from by first | omega | (simp only [*]; done) | simp_all)).symm ?_
        exact J57 _ _ hP hS
      · -- (S 0 5 i) < 10
        refine lv_iconst (v := i32 (1)) hx hb dX4_row_52 rfl ?_
        refine lv_goto (tgt := 57) hx hb dX4_row_53 (by decide) ?_
        refine q_nm (b2_t (show (isC S i) ∧ ((S 0 0 0) = (S 0 4 i)) ∧ ((S 0 5 i) < 10) from by first | omega | (simp only [*]; done) | simp_all)).symm ?_
        exact J57 _ _ hP hS

set_option maxHeartbeats 4000000 in
set_option maxRecDepth 100000 in
theorem c_X4_copies (l : Launch) (g : GT) (base : Nat) (ad : Nat → Nat → Nat) (S : St) (x q z u : Int) (hw : wM S) (hxx : 0 ≤ x ∧ x < 20) (hqq : 0 ≤ q ∧ q < 24) (hzz : 0 ≤ z ∧ z < 20 ∧ x ≠ z) (huu : 0 ≤ u ∧ u < 24) : Met l yX4_copies [Cond.code yX4_copies cX4_copies 8 (none : Option FieldType)] ({ frames := 1, cells := 0, slots := 0, locals := 24 }) (va_Pc [.ref (ad 0 0), .int (i32 (x)), .int (i32 (q)), .int (i32 (z)), .int (i32 (u))] (PK g base ad S)) (gQ g base (an (none) ad (cpF S x q z u))) 0 0 (fun q => base ≤ q) := by
  refine mk_m (own := RX4) (lv0 := [(0, .ref (ad 0 0)), (1, .int (i32 (x))), (2, .int (i32 (q))), (3, .int (i32 (z))), (4, .int (i32 (u)))]) (by decide) rfl (Nat.le_of_ble_eq_true rfl) rfl ?_
  intro p e s m below meth cz av Qm hx hb hr hml hown hlocks hK hZ hP hQm ls hl
  have hS : va_S (fun q => base ≤ q) s.heap s.heap [] := va_S.rf
  have rS : ∀ (a1 b1 : Nat) (i1 : Int), rng (S a1 b1 i1) := fun a1 b1 i1 => hP.rg a1 b1 i1
  obtain ⟨hx0, hx1⟩ := id hxx
  obtain ⟨hc1, hc2, hr1, hr2, hv1, hv2, hd1, hd2⟩ := hw.pc x hx0 hx1
  refine lv_iconst (v := i32 (0)) hx hb dX4_copies_0 rfl ?_
  refine lv_istore (lv' := [(5, .int (i32 (0))), (0, .ref (ad 0 0)), (1, .int (i32 (x))), (2, .int (i32 (q))), (3, .int (i32 (z))), (4, .int (i32 (u)))]) hx hb dX4_copies_1 hl (by decide) rfl (fun ls hl => ?_)
  have L3 : ∀ (k : Nat) (r : Int) (Sa : St) (H : Heap) (locs : List Loc) (ls : Array Slot), (0 ≤ r ∧ r ≤ S 0 17 x) → (∀ (a1 b1 : Nat) (i1 : Int), Sa a1 b1 i1 = if a1 = 0 ∧ (b1 = 25 ∨ b1 = 26 ∨ b1 = 27) ∧ (240 * z + 10 * u) ≤ i1 ∧ i1 < (240 * z + 10 * u) + r then S a1 b1 (i1 - (240 * z + 10 * u) + (240 * x + 10 * q)) else S a1 b1 i1) → S 0 17 x - r < (k : Int) → pic g base ad Sa H → va_S (fun q => base ≤ q) s.heap H locs → lv_has ls 8 [(5, .int (i32 (r))), (0, .ref (ad 0 0)), (1, .int (i32 (x))), (2, .int (i32 (q))), (3, .int (i32 (z))), (4, .int (i32 (u)))] → W p l e ({ frames := 1, cells := 0, slots := 0, locals := 24 } : Room) s m av below meth cz H locs 0 0 Qm (F0 m 3 ls []) := by
    intro k
    induction k with
    | zero => intro r Sa H locs ls zr zS hmu _ _ _; exact absurd hmu (by omega)
    | succ k ih3 =>
      intro r Sa H locs ls zr zS hmu hP hS hl
      have aSa_0 : Sa 0 0 (-1) = 1 := by rw [zS, if_neg (by omega)]; exact hw.al
      have wSa : wM Sa := wM.keep hw (fun r j h => by unfold wrow at h; rw [zS, if_neg (by omega)])
      have rSa : ∀ (a1 b1 : Nat) (i1 : Int), rng (Sa a1 b1 i1) := fun a1 b1 i1 => hP.rg a1 b1 i1
      refine lv_iload hx hb dX4_copies_3 (lv_at hl 0 rfl) ?_
      refine lv_aload_n hx hb dX4_copies_5 rfl (lv_at hl 1 rfl) ?_
      refine p_get (k := 0) hx hb hown hK hP aSa_0 rfl rfl rfl (lay_X4 hK) 16 714 (by decide) t_714 rfl rfl dX4_copies_6 ?_
      refine lv_iload_n hx hb dX4_copies_9 rfl (lv_at hl 2 rfl) ?_
      refine p_iald (k := 0) (r := 17) (n := 20) hx hb hK hP aSa_0 rfl rfl (by decide) (by decide) (by omega) (by omega) dX4_copies_10 ?_
      refine q_nm (show Sa 0 17 x = S 0 17 x from by rw [zS, if_neg (by omega)]) ?_
      refine q_icmp_ge (tgt := 81) hx hb ⟨by omega, by omega⟩ (rS _ _ _) dX4_copies_11 (by decide) (fun c_1 => ?_) (fun c_1 => ?_)
      · -- (S 0 17 x) ≤ r
        refine lv_aload_n hx hb dX4_copies_81 rfl (lv_at hl 1 rfl) ?_
        refine lv_iload_n hx hb dX4_copies_82 rfl (lv_at hl 4 rfl) ?_
        refine lv_iload hx hb dX4_copies_83 (lv_at hl 5 rfl) ?_
        refine lv_aload_n hx hb dX4_copies_85 rfl (lv_at hl 1 rfl) ?_
        refine p_get (k := 0) hx hb hown hK hP aSa_0 rfl rfl rfl (lay_X4 hK) 21 719 (by decide) t_719 rfl rfl dX4_copies_86 ?_
        refine lv_bipush (v := i32 (24)) hx hb dX4_copies_89 (by decide) ?_
        refine lv_iload_n hx hb dX4_copies_91 rfl (lv_at hl 2 rfl) ?_
        refine q_imul hx hb dX4_copies_92 ?_
        refine lv_iload_n hx hb dX4_copies_93 rfl (lv_at hl 3 rfl) ?_
        refine q_iadd hx hb dX4_copies_94 ?_
        refine p_iald (k := 0) (r := 22) (n := 480) hx hb hK hP aSa_0 rfl rfl (by decide) (by decide) (by omega) (by omega) dX4_copies_95 ?_
        refine q_nm (show Sa 0 22 ((24 * x) + q) = S 0 22 ((24 * x) + q) from by rw [zS, if_neg (by omega)]) ?_
        refine lv_aload_n hx hb dX4_copies_96 rfl (lv_at hl 1 rfl) ?_
        refine p_get (k := 0) hx hb hown hK hP aSa_0 rfl rfl rfl (lay_X4 hK) 22 720 (by decide) t_720 rfl rfl dX4_copies_97 ?_
        refine lv_bipush (v := i32 (24)) hx hb dX4_copies_100 (by decide) ?_
        refine lv_iload_n hx hb dX4_copies_102 rfl (lv_at hl 2 rfl) ?_
        refine q_imul hx hb dX4_copies_103 ?_
        refine lv_iload_n hx hb dX4_copies_104 rfl (lv_at hl 3 rfl) ?_
        refine q_iadd hx hb dX4_copies_105 ?_
        refine p_iald (k := 0) (r := 23) (n := 480) hx hb hK hP aSa_0 rfl rfl (by decide) (by decide) (by omega) (by omega) dX4_copies_106 ?_
        refine q_nm (show Sa 0 23 ((24 * x) + q) = S 0 23 ((24 * x) + q) from by rw [zS, if_neg (by omega)]) ?_
        refine q_callV (k := 0) hx hb hml hl.1 hown hK hZ hP hS aSa_0 rfl rfl rfl (c_X4_setsColumn l g base ad Sa z u (S 0 22 ((24 * x) + q)) (S 0 23 ((24 * x) + q)) wSa (by omega) (by omega) (rS _ _ _) (rS _ _ _)) t_849 t_17 (q_callB hK 847 36 850 t_847 t_36 t_850 f_yX4_setsColumn ⟨by decide, by decide⟩) rfl rfl (Nat.le_of_ble_eq_true rfl) dX4_copies_107 ⟨by decide, by decide⟩  (q_an (fun H locs hP hS => ?_))
        generalize eS2 : st Sa 0 22 (24 * z + u) (S 0 22 ((24 * x) + q)) = S2 at hP
        have qS2 : ∀ (a1 b1 : Nat) (i1 : Int), S2 a1 b1 i1 = if a1 = 0 ∧ b1 = 22 ∧ i1 = 24 * z + u then S 0 22 ((24 * x) + q) else Sa a1 b1 i1 := fun a1 b1 i1 => by rw [← eS2]; exact st_at _ _ _ _ _ _ _ _
        have aS2_0 : S2 0 0 (-1) = 1 := by rw [qS2, if_neg (by omega)]; exact aSa_0
        have wS2 : wM S2 := wM.keep wSa (fun r j h => by unfold wrow at h; rw [qS2, if_neg (by omega)])
        generalize eS3 : st S2 0 23 (24 * z + u) (S 0 23 ((24 * x) + q)) = S3 at hP
        have qS3 : ∀ (a1 b1 : Nat) (i1 : Int), S3 a1 b1 i1 = if a1 = 0 ∧ b1 = 23 ∧ i1 = 24 * z + u then S 0 23 ((24 * x) + q) else S2 a1 b1 i1 := fun a1 b1 i1 => by rw [← eS3]; exact st_at _ _ _ _ _ _ _ _
        have aS3_0 : S3 0 0 (-1) = 1 := by rw [qS3, if_neg (by omega)]; exact aS2_0
        have wS3 : wM S3 := wM.keep wS2 (fun r j h => by unfold wrow at h; rw [qS3, if_neg (by omega)])
        generalize eS4 : st S3 0 24 (24 * z + u) 0 = S4 at hP
        have rS4 : ∀ (a1 b1 : Nat) (i1 : Int), rng (S4 a1 b1 i1) := fun a1 b1 i1 => hP.rg a1 b1 i1
        have qS4 : ∀ (a1 b1 : Nat) (i1 : Int), S4 a1 b1 i1 = if a1 = 0 ∧ b1 = 24 ∧ i1 = 24 * z + u then 0 else S3 a1 b1 i1 := fun a1 b1 i1 => by rw [← eS4]; exact st_at _ _ _ _ _ _ _ _
        have aS4_0 : S4 0 0 (-1) = 1 := by rw [qS4, if_neg (by omega)]; exact aS3_0
        have wS4 : wM S4 := wM.keep wS3 (fun r j h => by unfold wrow at h; rw [qS4, if_neg (by omega)])
        refine lv_aload_n hx hb dX4_copies_110 rfl (lv_at hl 1 rfl) ?_
        refine p_get (k := 0) hx hb hown hK hP aS4_0 rfl rfl rfl (lay_X4 hK) 23 721 (by decide) t_721 rfl rfl dX4_copies_111 ?_
        refine lv_bipush (v := i32 (24)) hx hb dX4_copies_114 (by decide) ?_
        refine lv_iload_n hx hb dX4_copies_116 rfl (lv_at hl 4 rfl) ?_
        refine q_imul hx hb dX4_copies_117 ?_
        refine lv_iload hx hb dX4_copies_118 (lv_at hl 5 rfl) ?_
        refine q_iadd hx hb dX4_copies_120 ?_
        refine lv_iload_n hx hb dX4_copies_121 rfl (lv_at hl 3 rfl) ?_
        have J149 : ∀ (H : Heap) (locs : List Loc), pic g base ad S4 H → va_S (fun q => base ≤ q) s.heap H locs → W p l e ({ frames := 1, cells := 0, slots := 0, locals := 24 } : Room) s m av below meth cz H locs 0 0 Qm (F0 m 149 ls (Value.int (i32 (b2 ((0 < q) ∧ (0 < u) ∧ ((S4 0 24 ((24 * x) + q)) ≠ 0)))) :: Value.int (i32 ((24 * z) + u)) :: Value.ref (ad 0 24) :: [])) := by
          intro H locs hP hS
          refine p_zast (k := 0) (r := 24) (n := 480) hx hb hK hP hS aS4_0 rfl rfl (by decide) (by decide) (by omega) (by omega) (b2_01 _) dX4_copies_149 (fun H locs hP hS => ?_)
          generalize eS5 : st S4 0 24 ((24 * z) + u) (b2 ((0 < q) ∧ (0 < u) ∧ ((S4 0 24 ((24 * x) + q)) ≠ 0))) = S5 at hP
          have qS5 : ∀ (a1 b1 : Nat) (i1 : Int), S5 a1 b1 i1 = if a1 = 0 ∧ b1 = 24 ∧ i1 = (24 * z) + u then b2 ((0 < q) ∧ (0 < u) ∧ ((S4 0 24 ((24 * x) + q)) ≠ 0)) else S4 a1 b1 i1 := fun a1 b1 i1 => by rw [← eS5]; exact st_at _ _ _ _ _ _ _ _
          have rS5 : ∀ (a1 b1 : Nat) (i1 : Int), rng (S5 a1 b1 i1) := fun a1 b1 i1 => hP.rg a1 b1 i1
          have aS5_0 : S5 0 0 (-1) = 1 := by rw [qS5, if_neg (by omega)]; exact aS4_0
          have wS5 : wM S5 := wM.keep wS4 (fun r j h => by unfold wrow at h; rw [qS5, if_neg (by omega)])
          subst hQm
          exact q_vret hx hb hr hlocks hP hS ⟨rfl, rfl, (by have y24 : S4 0 24 (24 * x + q) = S 0 24 (24 * x + q) := (by rw [qS4, if_neg (by omega), qS3, if_neg (by omega), qS2, if_neg (by omega), zS, if_neg (by omega)]); funext a1 b1 i1; unfold cpF; rw [qS5, y24, qS4, qS3, qS2, zS, show r = S 0 17 x from by omega])⟩ (by decide) (by decide) dX4_copies_150
        refine q_if_le (tgt := 148) hx hb ⟨by omega, by omega⟩ dX4_copies_122 (by decide) (fun c_6 => ?_) (fun c_6 => ?_)
        · -- q ≤ 0
          refine lv_iconst (v := i32 (0)) hx hb dX4_copies_148 rfl ?_
          refine q_nm (b2_f (show ¬ ((0 < q) ∧ (0 < u) ∧ ((S4 0 24 ((24 * x) + q)) ≠ 0)) from by first | omega | (simp only [*]; done) | simp_all)).symm ?_
          exact J149 _ _ hP hS
        · -- 0 < q
          refine lv_iload hx hb dX4_copies_125 (lv_at hl 5 rfl) ?_
          refine q_if_le (tgt := 148) hx hb ⟨by omega, by omega⟩ dX4_copies_127 (by decide) (fun c_7 => ?_) (fun c_7 => ?_)
          · -- u ≤ 0
            refine lv_iconst (v := i32 (0)) hx hb dX4_copies_148 rfl ?_
            refine q_nm (b2_f (show ¬ ((0 < q) ∧ (0 < u) ∧ ((S4 0 24 ((24 * x) + q)) ≠ 0)) from by first | omega | (simp only [*]; done) | simp_all)).symm ?_
            exact J149 _ _ hP hS
          · -- 0 < u
            refine lv_aload_n hx hb dX4_copies_130 rfl (lv_at hl 1 rfl) ?_
            refine p_get (k := 0) hx hb hown hK hP aS4_0 rfl rfl rfl (lay_X4 hK) 23 721 (by decide) t_721 rfl rfl dX4_copies_131 ?_
            refine lv_bipush (v := i32 (24)) hx hb dX4_copies_134 (by decide) ?_
            refine lv_iload_n hx hb dX4_copies_136 rfl (lv_at hl 2 rfl) ?_
            refine q_imul hx hb dX4_copies_137 ?_
            refine lv_iload_n hx hb dX4_copies_138 rfl (lv_at hl 3 rfl) ?_
            refine q_iadd hx hb dX4_copies_139 ?_
            refine p_zald (k := 0) (r := 24) (n := 480) hx hb hK hP aS4_0 rfl rfl (by decide) (by decide) (by omega) (by omega) dX4_copies_140 ?_
            refine q_if_eq (tgt := 148) hx hb (hP.rg _ _ _) dX4_copies_141 (by decide) (fun c_8 => ?_) (fun c_8 => ?_)
            · -- (S4 0 24 ((24 * x) + q)) = 0
              refine lv_iconst (v := i32 (0)) hx hb dX4_copies_148 rfl ?_
              refine q_nm (b2_f (show ¬ ((0 < q) ∧ (0 < u) ∧ ((S4 0 24 ((24 * x) + q)) ≠ 0)) from by first | omega | (simp only [*]; done) | simp_all)).symm ?_
              exact J149 _ _ hP hS
            · -- (S4 0 24 ((24 * x) + q)) ≠ 0
              refine lv_iconst (v := i32 (1)) hx hb dX4_copies_144 rfl ?_
              refine lv_goto (tgt := 149) hx hb dX4_copies_145 (by decide) ?_
              refine q_nm (b2_t (show (0 < q) ∧ (0 < u) ∧ ((S4 0 24 ((24 * x) + q)) ≠ 0) from by first | omega | (simp only [*]; done) | simp_all)).symm ?_
              exact J149 _ _ hP hS
      · -- r < (S 0 17 x)
        refine lv_iload_n hx hb dX4_copies_14 rfl (lv_at hl 4 rfl) ?_
        refine lv_iload hx hb dX4_copies_15 (lv_at hl 5 rfl) ?_
        refine lv_iload hx hb dX4_copies_17 (lv_at hl 0 rfl) ?_
        refine q_callS hx hb hml hl.1 hown hK hZ hP hS (c_X4_at l g base ad Sa z u r ) t_841 (q_callB hK 840 36 842 t_840 t_36 t_842 f_yX4_at ⟨by decide, by decide⟩) rfl rfl (Nat.le_of_ble_eq_true rfl) dX4_copies_19 ⟨by decide, by decide⟩  (q_an (fun H locs hP hS => ?_))
        refine lv_istore (lv' := [(6, .int (i32 (240 * z + 10 * u + r))), (5, .int (i32 (r))), (0, .ref (ad 0 0)), (1, .int (i32 (x))), (2, .int (i32 (q))), (3, .int (i32 (z))), (4, .int (i32 (u)))]) hx hb dX4_copies_22 hl (by decide) rfl (fun ls hl => ?_)
        refine lv_iload_n hx hb dX4_copies_24 rfl (lv_at hl 3 rfl) ?_
        refine lv_iload_n hx hb dX4_copies_25 rfl (lv_at hl 4 rfl) ?_
        refine lv_iload hx hb dX4_copies_26 (lv_at hl 1 rfl) ?_
        refine q_callS hx hb hml hl.1 hown hK hZ hP hS (c_X4_at l g base ad Sa x q r ) t_841 (q_callB hK 840 36 842 t_840 t_36 t_842 f_yX4_at ⟨by decide, by decide⟩) rfl rfl (Nat.le_of_ble_eq_true rfl) dX4_copies_28 ⟨by decide, by decide⟩  (q_an (fun H locs hP hS => ?_))
        refine lv_istore (lv' := [(7, .int (i32 (240 * x + 10 * q + r))), (6, .int (i32 (240 * z + 10 * u + r))), (5, .int (i32 (r))), (0, .ref (ad 0 0)), (1, .int (i32 (x))), (2, .int (i32 (q))), (3, .int (i32 (z))), (4, .int (i32 (u)))]) hx hb dX4_copies_31 hl (by decide) rfl (fun ls hl => ?_)
        refine lv_aload_n hx hb dX4_copies_33 rfl (lv_at hl 3 rfl) ?_
        refine p_get (k := 0) hx hb hown hK hP aSa_0 rfl rfl rfl (lay_X4 hK) 24 722 (by decide) t_722 rfl rfl dX4_copies_34 ?_
        refine lv_iload hx hb dX4_copies_37 (lv_at hl 1 rfl) ?_
        refine lv_aload_n hx hb dX4_copies_39 rfl (lv_at hl 3 rfl) ?_
        refine p_get (k := 0) hx hb hown hK hP aSa_0 rfl rfl rfl (lay_X4 hK) 24 722 (by decide) t_722 rfl rfl dX4_copies_40 ?_
        refine lv_iload hx hb dX4_copies_43 (lv_at hl 0 rfl) ?_
        refine p_iald (k := 0) (r := 25) (n := 4800) hx hb hK hP aSa_0 rfl rfl (by decide) (by decide) (by omega) (by omega) dX4_copies_45 ?_
        refine p_iast (k := 0) (r := 25) (n := 4800) hx hb hK hP hS aSa_0 rfl rfl (by decide) (by decide) (by omega) (by omega) (hP.rg _ _ _) dX4_copies_46 (fun H locs hP hS => ?_)
        generalize eS9 : st Sa 0 25 (240 * z + 10 * u + r) (Sa 0 25 (240 * x + 10 * q + r)) = S9 at hP
        have qS9 : ∀ (a1 b1 : Nat) (i1 : Int), S9 a1 b1 i1 = if a1 = 0 ∧ b1 = 25 ∧ i1 = 240 * z + 10 * u + r then Sa 0 25 (240 * x + 10 * q + r) else Sa a1 b1 i1 := fun a1 b1 i1 => by rw [← eS9]; exact st_at _ _ _ _ _ _ _ _
        have rS9 : ∀ (a1 b1 : Nat) (i1 : Int), rng (S9 a1 b1 i1) := fun a1 b1 i1 => hP.rg a1 b1 i1
        have aS9_0 : S9 0 0 (-1) = 1 := by rw [qS9, if_neg (by omega)]; exact aSa_0
        have wS9 : wM S9 := wM.keep wSa (fun r j h => by unfold wrow at h; rw [qS9, if_neg (by omega)])
        refine lv_aload_n hx hb dX4_copies_47 rfl (lv_at hl 3 rfl) ?_
        refine p_get (k := 0) hx hb hown hK hP aS9_0 rfl rfl rfl (lay_X4 hK) 25 723 (by decide) t_723 rfl rfl dX4_copies_48 ?_
        refine lv_iload hx hb dX4_copies_51 (lv_at hl 1 rfl) ?_
        refine lv_aload_n hx hb dX4_copies_53 rfl (lv_at hl 3 rfl) ?_
        refine p_get (k := 0) hx hb hown hK hP aS9_0 rfl rfl rfl (lay_X4 hK) 25 723 (by decide) t_723 rfl rfl dX4_copies_54 ?_
        refine lv_iload hx hb dX4_copies_57 (lv_at hl 0 rfl) ?_
        refine p_iald (k := 0) (r := 26) (n := 4800) hx hb hK hP aS9_0 rfl rfl (by decide) (by decide) (by omega) (by omega) dX4_copies_59 ?_
        refine q_nm (show S9 0 26 (240 * x + 10 * q + r) = Sa 0 26 (240 * x + 10 * q + r) from by rw [qS9, if_neg (by omega)]) ?_
        refine p_iast (k := 0) (r := 26) (n := 4800) hx hb hK hP hS aS9_0 rfl rfl (by decide) (by decide) (by omega) (by omega) (rSa _ _ _) dX4_copies_60 (fun H locs hP hS => ?_)
        generalize eS10 : st S9 0 26 (240 * z + 10 * u + r) (Sa 0 26 (240 * x + 10 * q + r)) = S10 at hP
        have qS10 : ∀ (a1 b1 : Nat) (i1 : Int), S10 a1 b1 i1 = if a1 = 0 ∧ b1 = 26 ∧ i1 = 240 * z + 10 * u + r then Sa 0 26 (240 * x + 10 * q + r) else S9 a1 b1 i1 := fun a1 b1 i1 => by rw [← eS10]; exact st_at _ _ _ _ _ _ _ _
        have rS10 : ∀ (a1 b1 : Nat) (i1 : Int), rng (S10 a1 b1 i1) := fun a1 b1 i1 => hP.rg a1 b1 i1
        have aS10_0 : S10 0 0 (-1) = 1 := by rw [qS10, if_neg (by omega)]; exact aS9_0
        have wS10 : wM S10 := wM.keep wS9 (fun r j h => by unfold wrow at h; rw [qS10, if_neg (by omega)])
        refine lv_aload_n hx hb dX4_copies_61 rfl (lv_at hl 3 rfl) ?_
        refine p_get (k := 0) hx hb hown hK hP aS10_0 rfl rfl rfl (lay_X4 hK) 26 724 (by decide) t_724 rfl rfl dX4_copies_62 ?_
        refine lv_iload hx hb dX4_copies_65 (lv_at hl 1 rfl) ?_
        refine lv_aload_n hx hb dX4_copies_67 rfl (lv_at hl 3 rfl) ?_
        refine p_get (k := 0) hx hb hown hK hP aS10_0 rfl rfl rfl (lay_X4 hK) 26 724 (by decide) t_724 rfl rfl dX4_copies_68 ?_
        refine lv_iload hx hb dX4_copies_71 (lv_at hl 0 rfl) ?_
        refine p_iald (k := 0) (r := 27) (n := 4800) hx hb hK hP aS10_0 rfl rfl (by decide) (by decide) (by omega) (by omega) dX4_copies_73 ?_
        refine q_nm (show S10 0 27 (240 * x + 10 * q + r) = Sa 0 27 (240 * x + 10 * q + r) from by rw [qS10, if_neg (by omega), qS9, if_neg (by omega)]) ?_
        refine p_iast (k := 0) (r := 27) (n := 4800) hx hb hK hP hS aS10_0 rfl rfl (by decide) (by decide) (by omega) (by omega) (rSa _ _ _) dX4_copies_74 (fun H locs hP hS => ?_)
        generalize eS11 : st S10 0 27 (240 * z + 10 * u + r) (Sa 0 27 (240 * x + 10 * q + r)) = S11 at hP
        have qS11 : ∀ (a1 b1 : Nat) (i1 : Int), S11 a1 b1 i1 = if a1 = 0 ∧ b1 = 27 ∧ i1 = 240 * z + 10 * u + r then Sa 0 27 (240 * x + 10 * q + r) else S10 a1 b1 i1 := fun a1 b1 i1 => by rw [← eS11]; exact st_at _ _ _ _ _ _ _ _
        have rS11 : ∀ (a1 b1 : Nat) (i1 : Int), rng (S11 a1 b1 i1) := fun a1 b1 i1 => hP.rg a1 b1 i1
        have aS11_0 : S11 0 0 (-1) = 1 := by rw [qS11, if_neg (by omega)]; exact aS10_0
        have wS11 : wM S11 := wM.keep wS10 (fun r j h => by unfold wrow at h; rw [qS11, if_neg (by omega)])
        refine lv_iinc (v := i32 (r + 1)) (lv' := [(5, .int (i32 (r + 1))), (7, .int (i32 (240 * x + 10 * q + r))), (6, .int (i32 (240 * z + 10 * u + r))), (0, .ref (ad 0 0)), (1, .int (i32 (x))), (2, .int (i32 (q))), (3, .int (i32 (z))), (4, .int (i32 (u)))]) hx hb dX4_copies_75 hl (k := 2) rfl (i32_add _ _) (by decide) rfl (fun ls hl => ?_)
        refine lv_goto (tgt := 3) hx hb dX4_copies_78 (by decide) ?_
        exact ih3 (r + 1) S11 _ _ _ (by omega) (by exact fill3 zS qS9 qS10 qS11 (by omega) zr.1 (by omega)) (by omega) hP hS (lv_sub hl [0, 3, 4, 5, 6, 7] rfl)
  exact L3 ((S 0 17 x - 0) + 1).toNat 0 S _ _ _ (by omega) (by intro a1 b1 i1; rw [if_neg (by omega)]) (by omega) hP hS (lv_sub hl [0, 1, 2, 3, 4, 5] rfl)

set_option maxHeartbeats 4000000 in
set_option maxRecDepth 100000 in
theorem c_X4_light (l : Launch) (g : GT) (base : Nat) (ad : Nat → Nat → Nat) (S : St) (x h : Int) (hw : wM S) (hrn : rng x) (hrn2 : rng h) (hlo : isP S x → dnM S x → ∀ a1 b1, 0 ≤ a1 → a1 < S 0 16 x → 0 ≤ b1 → b1 < S 0 17 x → 0 ≤ S 0 26 (240 * x + 10 * a1 + b1) ∧ S 0 26 (240 * x + 10 * a1 + b1) < 20) (hfd : ∀ j, 0 ≤ j → j < 20 → 0 ≤ S 0 13 j ∧ S 0 13 j ≤ 9) : Met l yX4_light [Cond.code yX4_light cX4_light 7 (some FieldType.int)] ({ frames := 2, cells := 0, slots := 0, locals := 45 }) (va_Pc [.ref (ad 0 0), .int (i32 (x)), .int (i32 (h))] (PK g base ad S)) (gQ g base (mPz ad (isP S x) (1 ≤ h ∧ h ≤ 9999) ((isP S x) ∧ (dnM S x)) S (fun Z => some (.int (i32 (shM Z x)))) (fun Z => (∀ (a1 b1 : Nat) (i1 : Int), ¬ (a1 = 0 ∧ b1 = 27 ∧ 240 * x ≤ i1 ∧ i1 < 240 * x + 240) → Z a1 b1 i1 = (st S 0 0 27 (thr (isP S x) (1 ≤ h ∧ h ≤ 9999) ((isP S x) ∧ (dnM S x)))) a1 b1 i1) ∧ (∀ n1, 0 ≤ n1 → n1 < S 0 16 x * S 0 17 x → Z 0 27 (240 * x + 10 * (n1 / S 0 17 x) + n1 % S 0 17 x) = liM S x h n1)))) 0 0 (fun q => base ≤ q) := by
  refine mk_m (own := RX4) (lv0 := [(0, .ref (ad 0 0)), (1, .int (i32 (x))), (2, .int (i32 (h)))]) (by decide) rfl (Nat.le_of_ble_eq_true rfl) rfl ?_
  intro p e s m below meth cz av Qm hx hb hr hml hown hlocks hK hZ hP hQm ls hl
  have hS : va_S (fun q => base ≤ q) s.heap s.heap [] := va_S.rf
  have rS : ∀ (a1 b1 : Nat) (i1 : Int), rng (S a1 b1 i1) := fun a1 b1 i1 => hP.rg a1 b1 i1
  obtain ⟨hp1, hp2⟩ := hw.ps
  refine lv_aload_n hx hb dX4_light_0 rfl (lv_at hl 0 rfl) ?_
  refine lv_iload_n hx hb dX4_light_1 rfl (lv_at hl 1 rfl) ?_
  refine q_callV (k := 0) hx hb hml hl.1 hown hK hZ hP hS hw.al rfl rfl rfl (c_X4_isPiece l g base ad S x hw hrn) t_861 t_19 (q_callB hK 859 36 862 t_859 t_36 t_862 f_yX4_isPiece ⟨by decide, by decide⟩) rfl rfl (Nat.le_of_ble_eq_true rfl) dX4_light_2 ⟨by decide, by decide⟩  (q_an (fun H locs hP hS => ?_))
  refine lv_istore_n (lv' := [(3, .int (i32 (b2 (isP S x)))), (0, .ref (ad 0 0)), (1, .int (i32 (x))), (2, .int (i32 (h)))]) hx hb dX4_light_5 rfl hl (by decide) rfl (fun ls hl => ?_)
  refine lv_aload_n hx hb dX4_light_6 rfl (lv_at hl 1 rfl) ?_
  refine lv_iload_n hx hb dX4_light_7 rfl (lv_at hl 0 rfl) ?_
  refine lv_iload_n hx hb dX4_light_8 rfl (lv_at hl 3 rfl) ?_
  refine lv_iconst (v := i32 (1)) hx hb dX4_light_9 rfl ?_
  refine lv_sipush (v := i32 (9999)) hx hb dX4_light_10 (by decide) ?_
  refine q_callS hx hb hml hl.1 hown hK hZ hP hS (c_X4_in l g base ad S h 1 9999 hrn2 ⟨by decide, by decide⟩ ⟨by decide, by decide⟩) t_807 (q_callB hK 806 36 808 t_806 t_36 t_808 f_yX4_in ⟨by decide, by decide⟩) rfl rfl (Nat.le_of_ble_eq_true rfl) dX4_light_13 ⟨by decide, by decide⟩  (q_an (fun H locs hP hS => ?_))
  refine lv_iload_n hx hb dX4_light_16 rfl (lv_at hl 0 rfl) ?_
  have J33 : ∀ (H : Heap) (locs : List Loc), pic g base ad S H → va_S (fun q => base ≤ q) s.heap H locs → W p l e ({ frames := 2, cells := 0, slots := 0, locals := 45 } : Room) s m av below meth cz H locs 0 0 Qm (F0 m 33 ls (Value.int (i32 (b2 ((isP S x) ∧ (dnM S x)))) :: Value.int (i32 (b2 (1 ≤ h ∧ h ≤ 9999))) :: Value.int (i32 (b2 (isP S x))) :: Value.ref (ad 0 0) :: [])) := by
    intro H locs hP hS
    refine q_callV (k := 0) hx hb hml hl.1 hown hK hZ hP hS hw.al rfl rfl rfl (c_X4_goes l g base ad S (isP S x) (1 ≤ h ∧ h ≤ 9999) ((isP S x) ∧ (dnM S x)) hw.al) t_796 t_14 (q_callB hK 794 36 797 t_794 t_36 t_797 f_yX4_goes ⟨by decide, by decide⟩) rfl rfl (Nat.le_of_ble_eq_true rfl) dX4_light_33 ⟨by decide, by decide⟩  (q_an (fun H locs hP hS => ?_))
    generalize eS1 : st S 0 0 27 (thr (isP S x) (1 ≤ h ∧ h ≤ 9999) ((isP S x) ∧ (dnM S x))) = S1 at hP
    have rS1 : ∀ (a1 b1 : Nat) (i1 : Int), rng (S1 a1 b1 i1) := fun a1 b1 i1 => hP.rg a1 b1 i1
    have qS1 : ∀ (a1 b1 : Nat) (i1 : Int), S1 a1 b1 i1 = if a1 = 0 ∧ b1 = 0 ∧ i1 = 27 then thr (isP S x) (1 ≤ h ∧ h ≤ 9999) ((isP S x) ∧ (dnM S x)) else S a1 b1 i1 := fun a1 b1 i1 => by rw [← eS1]; exact st_at _ _ _ _ _ _ _ _
    have aS1_0 : S1 0 0 (-1) = 1 := by rw [qS1, if_neg (by omega)]; exact hw.al
    have wS1 : wM S1 := wM.keep hw (fun r j h => by unfold wrow at h; rw [qS1, if_neg (by omega)])
    refine q_if_neb (tgt := 41) hx hb dX4_light_36 (by decide) (fun c_2 => ?_) (fun c_2 => ?_)
    · -- (isP S x) ∧ (1 ≤ h ∧ h ≤ 9999) ∧ ((isP S x) ∧ (dnM S x))
      obtain ⟨⟨hq1, hq2, hq3⟩, ⟨hh1, hh2⟩, -, hdn⟩ := id c_2
      obtain ⟨hc1, hc2, hr1, hr2, hv1, hv2, hd1, hd2⟩ := hw.pc x (by omega) (by omega)
      have hrw := hw.pr x (by omega) (by omega)
      have hCR : 0 ≤ S 0 16 x * S 0 17 x := Int.mul_nonneg hc1 hr1
      have hCR2 : S 0 16 x * S 0 17 x ≤ 240 := mul240 hc1 hc2 hr1 hr2
      refine lv_iconst (v := i32 (0)) hx hb dX4_light_41 rfl ?_
      refine lv_istore (lv' := [(4, .int (i32 (0))), (3, .int (i32 (b2 (isP S x)))), (0, .ref (ad 0 0)), (1, .int (i32 (x))), (2, .int (i32 (h)))]) hx hb dX4_light_42 hl (by decide) rfl (fun ls hl => ?_)
      have L44 : ∀ (k : Nat) (n : Int) (Sa : St) (H : Heap) (locs : List Loc) (ls : Array Slot), (0 ≤ n ∧ n ≤ S 0 16 x * S 0 17 x) → (∀ (a1 b1 : Nat) (i1 : Int), ¬ (a1 = 0 ∧ b1 = 27 ∧ 240 * x ≤ i1 ∧ i1 < 240 * x + 240) → Sa a1 b1 i1 = S1 a1 b1 i1) → (∀ n1, 0 ≤ n1 → n1 < n → Sa 0 27 (240 * x + 10 * (n1 / S 0 17 x) + n1 % S 0 17 x) = liM S x h n1) → (∀ n1, n ≤ n1 → n1 < S 0 16 x * S 0 17 x → Sa 0 27 (240 * x + 10 * (n1 / S 0 17 x) + n1 % S 0 17 x) = S 0 27 (240 * x + 10 * (n1 / S 0 17 x) + n1 % S 0 17 x)) → S 0 16 x * S 0 17 x - n < (k : Int) → pic g base ad Sa H → va_S (fun q => base ≤ q) s.heap H locs → lv_has ls 7 [(4, .int (i32 (n))), (3, .int (i32 (b2 (isP S x)))), (0, .ref (ad 0 0)), (1, .int (i32 (x))), (2, .int (i32 (h)))] → W p l e ({ frames := 2, cells := 0, slots := 0, locals := 45 } : Room) s m av below meth cz H locs 0 0 Qm (F0 m 44 ls []) := by
        intro k
        induction k with
        | zero => intro n Sa H locs ls zn zS zd zu hmu _ _ _; exact absurd hmu (by omega)
        | succ k ih44 =>
          intro n Sa H locs ls zn zS zd zu hmu hP hS hl
          have aSa_0 : Sa 0 0 (-1) = 1 := by rw [zS _ _ _ (by omega)]; exact aS1_0
          have wSa : wM Sa := wM.keep wS1 (fun r j h => by unfold wrow at h; rw [zS _ _ _ (by omega)])
          have rSa : ∀ (a1 b1 : Nat) (i1 : Int), rng (Sa a1 b1 i1) := fun a1 b1 i1 => hP.rg a1 b1 i1
          have y17 : Sa 0 17 x = S 0 17 x := by rw [zS _ _ _ (by omega), qS1, if_neg (by omega)]
          refine lv_iload hx hb dX4_light_44 (lv_at hl 0 rfl) ?_
          refine lv_aload_n hx hb dX4_light_46 rfl (lv_at hl 2 rfl) ?_
          refine p_get (k := 0) hx hb hown hK hP aSa_0 rfl rfl rfl (lay_X4 hK) 15 713 (by decide) t_713 rfl rfl dX4_light_47 ?_
          refine lv_iload_n hx hb dX4_light_50 rfl (lv_at hl 3 rfl) ?_
          refine p_iald (k := 0) (r := 16) (n := 20) hx hb hK hP aSa_0 rfl rfl (by decide) (by decide) (by omega) (by omega) dX4_light_51 ?_
          refine q_nm (show Sa 0 16 x = S 0 16 x from by rw [zS _ _ _ (by omega), qS1, if_neg (by omega)]) ?_
          refine lv_aload_n hx hb dX4_light_52 rfl (lv_at hl 2 rfl) ?_
          refine p_get (k := 0) hx hb hown hK hP aSa_0 rfl rfl rfl (lay_X4 hK) 16 714 (by decide) t_714 rfl rfl dX4_light_53 ?_
          refine lv_iload_n hx hb dX4_light_56 rfl (lv_at hl 3 rfl) ?_
          refine p_iald (k := 0) (r := 17) (n := 20) hx hb hK hP aSa_0 rfl rfl (by decide) (by decide) (by omega) (by omega) dX4_light_57 ?_
          refine q_nm (show Sa 0 17 x = S 0 17 x from by rw [zS _ _ _ (by omega), qS1, if_neg (by omega)]) ?_
          refine q_imul hx hb dX4_light_58 ?_
          refine q_icmp_ge (tgt := 144) hx hb ⟨by omega, by omega⟩ ⟨by omega, by omega⟩ dX4_light_59 (by decide) (fun c_3 => ?_) (fun c_3 => ?_)
          · -- ((S 0 16 x) * (S 0 17 x)) ≤ n
            refine lv_aload_n hx hb dX4_light_144 rfl (lv_at hl 2 rfl) ?_
            refine lv_iload_n hx hb dX4_light_145 rfl (lv_at hl 3 rfl) ?_
            refine q_callV (k := 0) hx hb hml hl.1 hown hK hZ hP hS aSa_0 rfl rfl rfl (c_X4_shades l g base ad Sa x wSa (by omega) (by omega)) t_901 t_28 (q_callB hK 899 36 902 t_899 t_36 t_902 f_yX4_shades ⟨by decide, by decide⟩) rfl rfl (Nat.le_of_ble_eq_true rfl) dX4_light_146 ⟨by decide, by decide⟩  (q_an (fun H locs hP hS => ?_))
            subst hQm
            exact q_iret hx hb hr hlocks hP hS (by exact ⟨rfl, Or.inr ⟨c_2, rfl, ⟨fun a1 b1 i1 hh => by rw [eS1]; exact zS a1 b1 i1 hh, fun n1 h0 h1 => zd n1 h0 (by omega)⟩⟩⟩) (by decide) (by decide) dX4_light_149
          · -- n < ((S 0 16 x) * (S 0 17 x))
            obtain ⟨hm1, hm2, hm3, hm4⟩ := dmb (n := n) (C := S 0 16 x) (R := S 0 17 x) zn.1 (by omega) (by omega)
            obtain ⟨hl1, hl2⟩ := hlo ⟨hq1, hq2, hq3⟩ hdn _ _ hm1 hm2 hm3 hm4
            obtain ⟨hf1, hf2⟩ := hfd _ hl1 hl2
            obtain ⟨hg1, hg2⟩ := mulr hh1 hh2 hf1 hf2
            refine lv_iload_n hx hb dX4_light_62 rfl (lv_at hl 3 rfl) ?_
            refine lv_iload hx hb dX4_light_63 (lv_at hl 0 rfl) ?_
            refine lv_aload_n hx hb dX4_light_65 rfl (lv_at hl 2 rfl) ?_
            refine p_get (k := 0) hx hb hown hK hP aSa_0 rfl rfl rfl (lay_X4 hK) 16 714 (by decide) t_714 rfl rfl dX4_light_66 ?_
            refine lv_iload_n hx hb dX4_light_69 rfl (lv_at hl 3 rfl) ?_
            refine p_iald (k := 0) (r := 17) (n := 20) hx hb hK hP aSa_0 rfl rfl (by decide) (by decide) (by omega) (by omega) dX4_light_70 ?_
            refine q_nm (show Sa 0 17 x = S 0 17 x from by rw [zS _ _ _ (by omega), qS1, if_neg (by omega)]) ?_
            refine q_idiv hx hb (by omega) (by omega) (by omega) (by omega) dX4_light_71 ?_
            refine lv_iload hx hb dX4_light_72 (lv_at hl 0 rfl) ?_
            refine lv_aload_n hx hb dX4_light_74 rfl (lv_at hl 2 rfl) ?_
            refine p_get (k := 0) hx hb hown hK hP aSa_0 rfl rfl rfl (lay_X4 hK) 16 714 (by decide) t_714 rfl rfl dX4_light_75 ?_
            refine lv_iload_n hx hb dX4_light_78 rfl (lv_at hl 3 rfl) ?_
            refine p_iald (k := 0) (r := 17) (n := 20) hx hb hK hP aSa_0 rfl rfl (by decide) (by decide) (by omega) (by omega) dX4_light_79 ?_
            refine q_nm (show Sa 0 17 x = S 0 17 x from by rw [zS _ _ _ (by omega), qS1, if_neg (by omega)]) ?_
            refine q_irem hx hb (by omega) (by omega) (by omega) (by omega) dX4_light_80 ?_
            refine q_callS hx hb hml hl.1 hown hK hZ hP hS (c_X4_at l g base ad Sa x (n / (S 0 17 x)) (n % (S 0 17 x)) ) t_841 (q_callB hK 840 36 842 t_840 t_36 t_842 f_yX4_at ⟨by decide, by decide⟩) rfl rfl (Nat.le_of_ble_eq_true rfl) dX4_light_81 ⟨by decide, by decide⟩  (q_an (fun H locs hP hS => ?_))
            refine lv_istore (lv' := [(5, .int (i32 (240 * x + 10 * (n / (S 0 17 x)) + (n % (S 0 17 x))))), (4, .int (i32 (n))), (3, .int (i32 (b2 (isP S x)))), (0, .ref (ad 0 0)), (1, .int (i32 (x))), (2, .int (i32 (h)))]) hx hb dX4_light_84 hl (by decide) rfl (fun ls hl => ?_)
            refine lv_iload_n hx hb dX4_light_86 rfl (lv_at hl 5 rfl) ?_
            refine lv_aload_n hx hb dX4_light_87 rfl (lv_at hl 3 rfl) ?_
            refine p_get (k := 0) hx hb hown hK hP aSa_0 rfl rfl rfl (lay_X4 hK) 12 710 (by decide) t_710 rfl rfl dX4_light_88 ?_
            refine lv_aload_n hx hb dX4_light_91 rfl (lv_at hl 3 rfl) ?_
            refine p_get (k := 0) hx hb hown hK hP aSa_0 rfl rfl rfl (lay_X4 hK) 25 723 (by decide) t_723 rfl rfl dX4_light_92 ?_
            refine lv_iload hx hb dX4_light_95 (lv_at hl 0 rfl) ?_
            refine p_iald (k := 0) (r := 26) (n := 4800) hx hb hK hP aSa_0 rfl rfl (by decide) (by decide) (by omega) (by omega) dX4_light_97 ?_
            refine q_nm (show Sa 0 26 (240 * x + 10 * (n / (S 0 17 x)) + (n % (S 0 17 x))) = S 0 26 (240 * x + 10 * (n / (S 0 17 x)) + (n % (S 0 17 x))) from by rw [zS _ _ _ (by omega), qS1, if_neg (by omega)]) ?_
            refine p_iald (k := 0) (r := 13) (n := 20) hx hb hK hP aSa_0 rfl rfl (by decide) (by decide) (by omega) (by omega) dX4_light_98 ?_
            refine q_nm (show Sa 0 13 (S 0 26 (240 * x + 10 * (n / (S 0 17 x)) + (n % (S 0 17 x)))) = S 0 13 (S 0 26 (240 * x + 10 * (n / (S 0 17 x)) + (n % (S 0 17 x)))) from by rw [zS _ _ _ (by omega), qS1, if_neg (by omega)]) ?_
            refine q_imul hx hb dX4_light_99 ?_
            refine lv_bipush (v := i32 (100)) hx hb dX4_light_100 (by decide) ?_
            refine q_idiv hx hb (by omega) (by omega) (by omega) (by omega) dX4_light_102 ?_
            refine lv_istore (lv' := [(6, .int (i32 ((h * (S 0 13 (S 0 26 (240 * x + 10 * (n / (S 0 17 x)) + (n % (S 0 17 x)))))) / 100))), (5, .int (i32 (240 * x + 10 * (n / (S 0 17 x)) + (n % (S 0 17 x))))), (4, .int (i32 (n))), (3, .int (i32 (b2 (isP S x)))), (0, .ref (ad 0 0)), (1, .int (i32 (x))), (2, .int (i32 (h)))]) hx hb dX4_light_103 hl (by decide) rfl (fun ls hl => ?_)
            refine lv_aload_n hx hb dX4_light_105 rfl (lv_at hl 4 rfl) ?_
            refine p_get (k := 0) hx hb hown hK hP aSa_0 rfl rfl rfl (lay_X4 hK) 26 724 (by decide) t_724 rfl rfl dX4_light_106 ?_
            refine lv_iload hx hb dX4_light_109 (lv_at hl 1 rfl) ?_
            refine lv_aload_n hx hb dX4_light_111 rfl (lv_at hl 4 rfl) ?_
            refine p_get (k := 0) hx hb hown hK hP aSa_0 rfl rfl rfl (lay_X4 hK) 26 724 (by decide) t_724 rfl rfl dX4_light_112 ?_
            refine lv_iload hx hb dX4_light_115 (lv_at hl 1 rfl) ?_
            refine p_iald (k := 0) (r := 27) (n := 4800) hx hb hK hP aSa_0 rfl rfl (by decide) (by decide) (by omega) (by omega) dX4_light_117 ?_
            refine lv_iload hx hb dX4_light_118 (lv_at hl 0 rfl) ?_
            have J137 : ∀ (b137 : Int) (H : Heap) (locs : List Loc), (((((h * (S 0 13 (S 0 26 (240 * x + 10 * (n / (S 0 17 x)) + (n % (S 0 17 x)))))) / 100) ≤ (Sa 0 27 (240 * x + 10 * (n / (S 0 17 x)) + (n % (S 0 17 x))))) ∧ b137 = (Sa 0 27 (240 * x + 10 * (n / (S 0 17 x)) + (n % (S 0 17 x)))) - ((h * (S 0 13 (S 0 26 (240 * x + 10 * (n / (S 0 17 x)) + (n % (S 0 17 x)))))) / 100)) ∨ (((Sa 0 27 (240 * x + 10 * (n / (S 0 17 x)) + (n % (S 0 17 x)))) < ((h * (S 0 13 (S 0 26 (240 * x + 10 * (n / (S 0 17 x)) + (n % (S 0 17 x)))))) / 100)) ∧ b137 = 0)) → pic g base ad Sa H → va_S (fun q => base ≤ q) s.heap H locs → W p l e ({ frames := 2, cells := 0, slots := 0, locals := 45 } : Room) s m av below meth cz H locs 0 0 Qm (F0 m 137 ls (Value.int (i32 b137) :: Value.int (i32 (240 * x + 10 * (n / (S 0 17 x)) + (n % (S 0 17 x)))) :: Value.ref (ad 0 27) :: [])) := by
              intro b137 H locs hb137 hP hS
              refine p_iast (k := 0) (r := 27) (n := 4800) hx hb hK hP hS aSa_0 rfl rfl (by decide) (by decide) (by omega) (by omega) (sub_r hb137.symm (by omega) (rSa _ _ _)) dX4_light_137 (fun H locs hP hS => ?_)
              generalize eS4 : st Sa 0 27 (240 * x + 10 * (n / (S 0 17 x)) + (n % (S 0 17 x))) b137 = S4 at hP
              have qS4 : ∀ (a1 b1 : Nat) (i1 : Int), S4 a1 b1 i1 = if a1 = 0 ∧ b1 = 27 ∧ i1 = 240 * x + 10 * (n / (S 0 17 x)) + (n % (S 0 17 x)) then b137 else Sa a1 b1 i1 := fun a1 b1 i1 => by rw [← eS4]; exact st_at _ _ _ _ _ _ _ _
              have rS4 : ∀ (a1 b1 : Nat) (i1 : Int), rng (S4 a1 b1 i1) := fun a1 b1 i1 => hP.rg a1 b1 i1
              have aS4_0 : S4 0 0 (-1) = 1 := by rw [qS4, if_neg (by omega)]; exact aSa_0
              have wS4 : wM S4 := wM.keep wSa (fun r j h => by unfold wrow at h; rw [qS4, if_neg (by omega)])
              refine lv_iinc (v := i32 (n + 1)) (lv' := [(4, .int (i32 (n + 1))), (6, .int (i32 ((h * (S 0 13 (S 0 26 (240 * x + 10 * (n / (S 0 17 x)) + (n % (S 0 17 x)))))) / 100))), (5, .int (i32 (240 * x + 10 * (n / (S 0 17 x)) + (n % (S 0 17 x))))), (3, .int (i32 (b2 (isP S x)))), (0, .ref (ad 0 0)), (1, .int (i32 (x))), (2, .int (i32 (h)))]) hx hb dX4_light_138 hl (k := 2) rfl (i32_add _ _) (by decide) rfl (fun ls hl => ?_)
              refine lv_goto (tgt := 44) hx hb dX4_light_141 (by decide) ?_
              obtain ⟨zd2, zu2⟩ := cell_step (f := liM S x h) zn.1 (by omega) hr2 qS4 zd zu (liM_v (zu n (by omega) (by omega)) hb137.symm)
              exact ih44 (n + 1) S4 _ _ _ (by omega) (by exact fun a1 b1 i1 hh => by rw [qS4, if_neg (by omega)]; exact zS a1 b1 i1 hh) (by exact zd2) (by exact zu2) (by omega) hP hS (lv_sub hl [0, 3, 4, 5, 6] rfl)
            refine q_icmp_ge (tgt := 127) hx hb (hP.rg _ _ _) ⟨by omega, by omega⟩ dX4_light_120 (by decide) (fun c_5 => ?_) (fun c_5 => ?_)
            · -- ((h * (S 0 13 (S 0 26 (240 * x + 10 * (n / (S 0 17 x)) + (n % (S 0 17 x)))))) / 100) ≤ (Sa 0 27 (240 * x + 10 * (n / (S 0 17 x)) + (n % (S 0 17 x))))
              refine lv_aload_n hx hb dX4_light_127 rfl (lv_at hl 4 rfl) ?_
              refine p_get (k := 0) hx hb hown hK hP aSa_0 rfl rfl rfl (lay_X4 hK) 26 724 (by decide) t_724 rfl rfl dX4_light_128 ?_
              refine lv_iload hx hb dX4_light_131 (lv_at hl 1 rfl) ?_
              refine p_iald (k := 0) (r := 27) (n := 4800) hx hb hK hP aSa_0 rfl rfl (by decide) (by decide) (by omega) (by omega) dX4_light_133 ?_
              refine lv_iload hx hb dX4_light_134 (lv_at hl 0 rfl) ?_
              refine q_isub hx hb dX4_light_136 ?_
              exact J137 _ _ _ (by first | omega | (simp only [*]; done) | simp_all) hP hS
            · -- (Sa 0 27 (240 * x + 10 * (n / (S 0 17 x)) + (n % (S 0 17 x)))) < ((h * (S 0 13 (S 0 26 (240 * x + 10 * (n / (S 0 17 x)) + (n % (S 0 17 x)))))) / 100)
              refine lv_iconst (v := i32 (0)) hx hb dX4_light_123 rfl ?_
              refine lv_goto (tgt := 137) hx hb dX4_light_124 (by decide) ?_
              exact J137 _ _ _ (by first | omega | (simp only [*]; done) | simp_all) hP hS
      exact L44 ((S 0 16 x * S 0 17 x - 0) + 1).toNat 0 S1 _ _ _ (by omega) (by exact fun _ _ _ _ => rfl) (by exact fun n1 h0 h1 => absurd h1 (by omega)) (by exact fun n1 h0 h1 => by rw [qS1, if_neg (by omega)]) (by omega) hP hS (lv_sub hl [0, 1, 2, 3, 4] rfl)
    · -- ¬ ((isP S x) ∧ (1 ≤ h ∧ h ≤ 9999) ∧ ((isP S x) ∧ (dnM S x)))
      refine lv_iconst (v := i32 (0)) hx hb dX4_light_39 rfl ?_
      subst hQm
      exact q_iret hx hb hr hlocks hP hS (by subst eS1; exact ⟨rfl, Or.inl ⟨c_2, rfl, rfl⟩⟩) (by decide) (by decide) dX4_light_40
  refine q_if_eqb (tgt := 32) hx hb dX4_light_17 (by decide) (fun c_6 => ?_) (fun c_6 => ?_)
  · -- ¬ (isP S x)
    refine lv_iconst (v := i32 (0)) hx hb dX4_light_32 rfl ?_
    refine q_nm (b2_f (show ¬ ((isP S x) ∧ (dnM S x)) from by first | omega | (simp only [*]; done) | simp_all)).symm ?_
    exact J33 _ _ hP hS
  · -- isP S x
    obtain ⟨hq1, hq2, hq3⟩ := id c_6
    refine lv_aload_n hx hb dX4_light_20 rfl (lv_at hl 1 rfl) ?_
    refine lv_iload_n hx hb dX4_light_21 rfl (lv_at hl 2 rfl) ?_
    refine q_callV (k := 0) hx hb hml hl.1 hown hK hZ hP hS hw.al rfl rfl rfl (c_X4_isDone l g base ad S x hw (by omega)) t_885 t_24 (q_callB hK 883 36 886 t_883 t_36 t_886 f_yX4_isDone ⟨by decide, by decide⟩) rfl rfl (Nat.le_of_ble_eq_true rfl) dX4_light_22 ⟨by decide, by decide⟩  (q_an (fun H locs hP hS => ?_))
    refine q_if_eqb (tgt := 32) hx hb dX4_light_25 (by decide) (fun c_7 => ?_) (fun c_7 => ?_)
    · -- ¬ (dnM S x)
      refine lv_iconst (v := i32 (0)) hx hb dX4_light_32 rfl ?_
      refine q_nm (b2_f (show ¬ ((isP S x) ∧ (dnM S x)) from by first | omega | (simp only [*]; done) | simp_all)).symm ?_
      exact J33 _ _ hP hS
    · -- dnM S x
      refine lv_iconst (v := i32 (1)) hx hb dX4_light_28 rfl ?_
      refine lv_goto (tgt := 33) hx hb dX4_light_29 (by decide) ?_
      refine q_nm (b2_t (show (isP S x) ∧ (dnM S x) from by first | omega | (simp only [*]; done) | simp_all)).symm ?_
      exact J33 _ _ hP hS

set_option maxHeartbeats 4000000 in
set_option maxRecDepth 100000 in
theorem c_X4_wash (l : Launch) (g : GT) (base : Nat) (ad : Nat → Nat → Nat) (S : St) (x : Int) (hw : wM S) (hrn : rng x) (hlo : isP S x → dnM S x → ∀ a1 b1, 0 ≤ a1 → a1 < S 0 16 x → 0 ≤ b1 → b1 < S 0 17 x → 0 ≤ S 0 26 (240 * x + 10 * a1 + b1) ∧ S 0 26 (240 * x + 10 * a1 + b1) < 20) : Met l yX4_wash [Cond.code yX4_wash cX4_wash 8 (some FieldType.int)] ({ frames := 2, cells := 0, slots := 0, locals := 48 }) (va_Pc [.ref (ad 0 0), .int (i32 (x))] (PK g base ad S)) (gQ g base (mPz ad (isP S x) ((isP S x) ∧ (dnM S x)) (True) S (fun Z => some (.int (i32 (shM Z x)))) (fun Z => (∀ (a1 b1 : Nat) (i1 : Int), ¬ (a1 = 0 ∧ b1 = 27 ∧ 240 * x ≤ i1 ∧ i1 < 240 * x + 240) → Z a1 b1 i1 = (st S 0 0 27 (thr (isP S x) ((isP S x) ∧ (dnM S x)) (True))) a1 b1 i1) ∧ (∀ n1, 0 ≤ n1 → n1 < S 0 16 x * S 0 17 x → Z 0 27 (240 * x + 10 * (n1 / S 0 17 x) + n1 % S 0 17 x) = waM S x n1)))) 0 0 (fun q => base ≤ q) := by
  refine mk_m (own := RX4) (lv0 := [(0, .ref (ad 0 0)), (1, .int (i32 (x)))]) (by decide) rfl (Nat.le_of_ble_eq_true rfl) rfl ?_
  intro p e s m below meth cz av Qm hx hb hr hml hown hlocks hK hZ hP hQm ls hl
  have hS : va_S (fun q => base ≤ q) s.heap s.heap [] := va_S.rf
  have rS : ∀ (a1 b1 : Nat) (i1 : Int), rng (S a1 b1 i1) := fun a1 b1 i1 => hP.rg a1 b1 i1
  obtain ⟨hp1, hp2⟩ := hw.ps
  refine lv_aload_n hx hb dX4_wash_0 rfl (lv_at hl 0 rfl) ?_
  refine lv_iload_n hx hb dX4_wash_1 rfl (lv_at hl 1 rfl) ?_
  refine q_callV (k := 0) hx hb hml hl.1 hown hK hZ hP hS hw.al rfl rfl rfl (c_X4_isPiece l g base ad S x hw hrn) t_861 t_19 (q_callB hK 859 36 862 t_859 t_36 t_862 f_yX4_isPiece ⟨by decide, by decide⟩) rfl rfl (Nat.le_of_ble_eq_true rfl) dX4_wash_2 ⟨by decide, by decide⟩  (q_an (fun H locs hP hS => ?_))
  refine lv_istore_n (lv' := [(2, .int (i32 (b2 (isP S x)))), (0, .ref (ad 0 0)), (1, .int (i32 (x)))]) hx hb dX4_wash_5 rfl hl (by decide) rfl (fun ls hl => ?_)
  refine lv_aload_n hx hb dX4_wash_6 rfl (lv_at hl 1 rfl) ?_
  refine lv_iload_n hx hb dX4_wash_7 rfl (lv_at hl 0 rfl) ?_
  refine lv_iload_n hx hb dX4_wash_8 rfl (lv_at hl 0 rfl) ?_
  have J25 : ∀ (H : Heap) (locs : List Loc), pic g base ad S H → va_S (fun q => base ≤ q) s.heap H locs → W p l e ({ frames := 2, cells := 0, slots := 0, locals := 48 } : Room) s m av below meth cz H locs 0 0 Qm (F0 m 25 ls (Value.int (i32 (b2 ((isP S x) ∧ (dnM S x)))) :: Value.int (i32 (b2 (isP S x))) :: Value.ref (ad 0 0) :: [])) := by
    intro H locs hP hS
    refine lv_iconst (v := i32 (1)) hx hb dX4_wash_25 rfl ?_
    refine W.eq (g2 := F0 m 26 ls (Value.int (i32 (b2 (True))) :: Value.int (i32 (b2 ((isP S x) ∧ (dnM S x)))) :: Value.int (i32 (b2 (isP S x))) :: Value.ref (ad 0 0) :: [])) (by simp only [b2_t trivial, b2_f not_false] <;> rfl) ?_
    refine q_callV (k := 0) hx hb hml hl.1 hown hK hZ hP hS hw.al rfl rfl rfl (c_X4_goes l g base ad S (isP S x) ((isP S x) ∧ (dnM S x)) True hw.al) t_796 t_14 (q_callB hK 794 36 797 t_794 t_36 t_797 f_yX4_goes ⟨by decide, by decide⟩) rfl rfl (Nat.le_of_ble_eq_true rfl) dX4_wash_26 ⟨by decide, by decide⟩  (q_an (fun H locs hP hS => ?_))
    generalize eS1 : st S 0 0 27 (thr (isP S x) ((isP S x) ∧ (dnM S x)) True) = S1 at hP
    have rS1 : ∀ (a1 b1 : Nat) (i1 : Int), rng (S1 a1 b1 i1) := fun a1 b1 i1 => hP.rg a1 b1 i1
    have qS1 : ∀ (a1 b1 : Nat) (i1 : Int), S1 a1 b1 i1 = if a1 = 0 ∧ b1 = 0 ∧ i1 = 27 then thr (isP S x) ((isP S x) ∧ (dnM S x)) True else S a1 b1 i1 := fun a1 b1 i1 => by rw [← eS1]; exact st_at _ _ _ _ _ _ _ _
    have aS1_0 : S1 0 0 (-1) = 1 := by rw [qS1, if_neg (by omega)]; exact hw.al
    have wS1 : wM S1 := wM.keep hw (fun r j h => by unfold wrow at h; rw [qS1, if_neg (by omega)])
    refine q_if_neb (tgt := 34) hx hb dX4_wash_29 (by decide) (fun c_2 => ?_) (fun c_2 => ?_)
    · -- (isP S x) ∧ ((isP S x) ∧ (dnM S x)) ∧ True
      obtain ⟨⟨hq1, hq2, hq3⟩, ⟨-, hdn⟩, -⟩ := id c_2
      obtain ⟨hc1, hc2, hr1, hr2, hv1, hv2, hd1, hd2⟩ := hw.pc x (by omega) (by omega)
      have hrw := hw.pr x (by omega) (by omega)
      have hCR : 0 ≤ S 0 16 x * S 0 17 x := Int.mul_nonneg hc1 hr1
      have hCR2 : S 0 16 x * S 0 17 x ≤ 240 := mul240 hc1 hc2 hr1 hr2
      refine lv_iconst (v := i32 (0)) hx hb dX4_wash_34 rfl ?_
      refine lv_istore_n (lv' := [(3, .int (i32 (0))), (2, .int (i32 (b2 (isP S x)))), (0, .ref (ad 0 0)), (1, .int (i32 (x)))]) hx hb dX4_wash_35 rfl hl (by decide) rfl (fun ls hl => ?_)
      have L36 : ∀ (k : Nat) (n : Int) (Sa : St) (H : Heap) (locs : List Loc) (ls : Array Slot), (0 ≤ n ∧ n ≤ S 0 16 x * S 0 17 x) → (∀ (a1 b1 : Nat) (i1 : Int), ¬ (a1 = 0 ∧ b1 = 27 ∧ 240 * x ≤ i1 ∧ i1 < 240 * x + 240) → Sa a1 b1 i1 = S1 a1 b1 i1) → (∀ n1, 0 ≤ n1 → n1 < n → Sa 0 27 (240 * x + 10 * (n1 / S 0 17 x) + n1 % S 0 17 x) = waM S x n1) → (∀ n1, n ≤ n1 → n1 < S 0 16 x * S 0 17 x → Sa 0 27 (240 * x + 10 * (n1 / S 0 17 x) + n1 % S 0 17 x) = S 0 27 (240 * x + 10 * (n1 / S 0 17 x) + n1 % S 0 17 x)) → S 0 16 x * S 0 17 x - n < (k : Int) → pic g base ad Sa H → va_S (fun q => base ≤ q) s.heap H locs → lv_has ls 8 [(3, .int (i32 (n))), (2, .int (i32 (b2 (isP S x)))), (0, .ref (ad 0 0)), (1, .int (i32 (x)))] → W p l e ({ frames := 2, cells := 0, slots := 0, locals := 48 } : Room) s m av below meth cz H locs 0 0 Qm (F0 m 36 ls []) := by
        intro k
        induction k with
        | zero => intro n Sa H locs ls zn zS zd zu hmu _ _ _; exact absurd hmu (by omega)
        | succ k ih36 =>
          intro n Sa H locs ls zn zS zd zu hmu hP hS hl
          have aSa_0 : Sa 0 0 (-1) = 1 := by rw [zS _ _ _ (by omega)]; exact aS1_0
          have wSa : wM Sa := wM.keep wS1 (fun r j h => by unfold wrow at h; rw [zS _ _ _ (by omega)])
          have rSa : ∀ (a1 b1 : Nat) (i1 : Int), rng (Sa a1 b1 i1) := fun a1 b1 i1 => hP.rg a1 b1 i1
          have yy : ∀ r j, r ≠ 27 → r ≠ 0 → Sa 0 r j = S 0 r j := fun r j h1 h2 => by rw [zS _ _ _ (by omega), qS1, if_neg (by omega)]
          have y17 : Sa 0 17 x = S 0 17 x := yy _ _ (by decide) (by decide)
          have y16 : Sa 0 16 x = S 0 16 x := yy _ _ (by decide) (by decide)
          have hloa : ∀ a1 b1, 0 ≤ a1 → a1 < Sa 0 16 x → 0 ≤ b1 → b1 < Sa 0 17 x → 0 ≤ Sa 0 26 (240 * x + 10 * a1 + b1) ∧ Sa 0 26 (240 * x + 10 * a1 + b1) < 20 := fun a1 b1 h0 h1 h2 h3 => by rw [yy 26 _ (by decide) (by decide)]; exact hlo ⟨hq1, hq2, hq3⟩ hdn a1 b1 h0 (by omega) h2 (by omega)
          refine lv_iload_n hx hb dX4_wash_36 rfl (lv_at hl 0 rfl) ?_
          refine lv_aload_n hx hb dX4_wash_37 rfl (lv_at hl 2 rfl) ?_
          refine p_get (k := 0) hx hb hown hK hP aSa_0 rfl rfl rfl (lay_X4 hK) 15 713 (by decide) t_713 rfl rfl dX4_wash_38 ?_
          refine lv_iload_n hx hb dX4_wash_41 rfl (lv_at hl 3 rfl) ?_
          refine p_iald (k := 0) (r := 16) (n := 20) hx hb hK hP aSa_0 rfl rfl (by decide) (by decide) (by omega) (by omega) dX4_wash_42 ?_
          refine q_nm (show Sa 0 16 x = S 0 16 x from by rw [zS _ _ _ (by omega), qS1, if_neg (by omega)]) ?_
          refine lv_aload_n hx hb dX4_wash_43 rfl (lv_at hl 2 rfl) ?_
          refine p_get (k := 0) hx hb hown hK hP aSa_0 rfl rfl rfl (lay_X4 hK) 16 714 (by decide) t_714 rfl rfl dX4_wash_44 ?_
          refine lv_iload_n hx hb dX4_wash_47 rfl (lv_at hl 3 rfl) ?_
          refine p_iald (k := 0) (r := 17) (n := 20) hx hb hK hP aSa_0 rfl rfl (by decide) (by decide) (by omega) (by omega) dX4_wash_48 ?_
          refine q_nm (show Sa 0 17 x = S 0 17 x from by rw [zS _ _ _ (by omega), qS1, if_neg (by omega)]) ?_
          refine q_imul hx hb dX4_wash_49 ?_
          refine q_icmp_ge (tgt := 199) hx hb ⟨by omega, by omega⟩ ⟨by omega, by omega⟩ dX4_wash_50 (by decide) (fun c_3 => ?_) (fun c_3 => ?_)
          · -- ((S 0 16 x) * (S 0 17 x)) ≤ n
            refine lv_aload_n hx hb dX4_wash_199 rfl (lv_at hl 2 rfl) ?_
            refine lv_iload_n hx hb dX4_wash_200 rfl (lv_at hl 3 rfl) ?_
            refine q_callV (k := 0) hx hb hml hl.1 hown hK hZ hP hS aSa_0 rfl rfl rfl (c_X4_shades l g base ad Sa x wSa (by omega) (by omega)) t_901 t_28 (q_callB hK 899 36 902 t_899 t_36 t_902 f_yX4_shades ⟨by decide, by decide⟩) rfl rfl (Nat.le_of_ble_eq_true rfl) dX4_wash_201 ⟨by decide, by decide⟩  (q_an (fun H locs hP hS => ?_))
            subst hQm
            exact q_iret hx hb hr hlocks hP hS (by exact ⟨rfl, Or.inr ⟨c_2, rfl, ⟨fun a1 b1 i1 hh => by rw [eS1]; exact zS a1 b1 i1 hh, fun n1 h0 h1 => zd n1 h0 (by omega)⟩⟩⟩) (by decide) (by decide) dX4_wash_204
          · -- n < ((S 0 16 x) * (S 0 17 x))
            obtain ⟨hm1, hm2, hm3, hm4⟩ := dmb (n := n) (C := S 0 16 x) (R := S 0 17 x) zn.1 (by omega) (by omega)
            refine lv_iload_n hx hb dX4_wash_53 rfl (lv_at hl 0 rfl) ?_
            refine lv_aload_n hx hb dX4_wash_54 rfl (lv_at hl 2 rfl) ?_
            refine p_get (k := 0) hx hb hown hK hP aSa_0 rfl rfl rfl (lay_X4 hK) 16 714 (by decide) t_714 rfl rfl dX4_wash_55 ?_
            refine lv_iload_n hx hb dX4_wash_58 rfl (lv_at hl 3 rfl) ?_
            refine p_iald (k := 0) (r := 17) (n := 20) hx hb hK hP aSa_0 rfl rfl (by decide) (by decide) (by omega) (by omega) dX4_wash_59 ?_
            refine q_nm (show Sa 0 17 x = S 0 17 x from by rw [zS _ _ _ (by omega), qS1, if_neg (by omega)]) ?_
            refine q_idiv hx hb (by omega) (by omega) (by omega) (by omega) dX4_wash_60 ?_
            refine lv_istore (lv' := [(4, .int (i32 (n / (S 0 17 x)))), (3, .int (i32 (n))), (2, .int (i32 (b2 (isP S x)))), (0, .ref (ad 0 0)), (1, .int (i32 (x)))]) hx hb dX4_wash_61 hl (by decide) rfl (fun ls hl => ?_)
            refine lv_iload_n hx hb dX4_wash_63 rfl (lv_at hl 1 rfl) ?_
            refine lv_aload_n hx hb dX4_wash_64 rfl (lv_at hl 3 rfl) ?_
            refine p_get (k := 0) hx hb hown hK hP aSa_0 rfl rfl rfl (lay_X4 hK) 16 714 (by decide) t_714 rfl rfl dX4_wash_65 ?_
            refine lv_iload_n hx hb dX4_wash_68 rfl (lv_at hl 4 rfl) ?_
            refine p_iald (k := 0) (r := 17) (n := 20) hx hb hK hP aSa_0 rfl rfl (by decide) (by decide) (by omega) (by omega) dX4_wash_69 ?_
            refine q_nm (show Sa 0 17 x = S 0 17 x from by rw [zS _ _ _ (by omega), qS1, if_neg (by omega)]) ?_
            refine q_irem hx hb (by omega) (by omega) (by omega) (by omega) dX4_wash_70 ?_
            refine lv_istore (lv' := [(5, .int (i32 (n % (S 0 17 x)))), (4, .int (i32 (n / (S 0 17 x)))), (3, .int (i32 (n))), (2, .int (i32 (b2 (isP S x)))), (0, .ref (ad 0 0)), (1, .int (i32 (x)))]) hx hb dX4_wash_71 hl (by decide) rfl (fun ls hl => ?_)
            refine lv_iload_n hx hb dX4_wash_73 rfl (lv_at hl 5 rfl) ?_
            refine lv_iload hx hb dX4_wash_74 (lv_at hl 1 rfl) ?_
            refine lv_iload hx hb dX4_wash_76 (lv_at hl 0 rfl) ?_
            refine q_callS hx hb hml hl.1 hown hK hZ hP hS (c_X4_at l g base ad Sa x (n / (S 0 17 x)) (n % (S 0 17 x)) ) t_841 (q_callB hK 840 36 842 t_840 t_36 t_842 f_yX4_at ⟨by decide, by decide⟩) rfl rfl (Nat.le_of_ble_eq_true rfl) dX4_wash_78 ⟨by decide, by decide⟩  (q_an (fun H locs hP hS => ?_))
            refine lv_istore (lv' := [(6, .int (i32 (240 * x + 10 * (n / (S 0 17 x)) + (n % (S 0 17 x))))), (5, .int (i32 (n % (S 0 17 x)))), (4, .int (i32 (n / (S 0 17 x)))), (3, .int (i32 (n))), (2, .int (i32 (b2 (isP S x)))), (0, .ref (ad 0 0)), (1, .int (i32 (x)))]) hx hb dX4_wash_81 hl (by decide) rfl (fun ls hl => ?_)
            refine lv_aload_n hx hb dX4_wash_83 rfl (lv_at hl 5 rfl) ?_
            refine lv_iload_n hx hb dX4_wash_84 rfl (lv_at hl 6 rfl) ?_
            refine lv_iload hx hb dX4_wash_85 (lv_at hl 2 rfl) ?_
            refine lv_iconst (v := i32 (1)) hx hb dX4_wash_87 rfl ?_
            refine q_isub hx hb dX4_wash_88 ?_
            refine lv_iload hx hb dX4_wash_89 (lv_at hl 1 rfl) ?_
            refine lv_aload_n hx hb dX4_wash_91 rfl (lv_at hl 5 rfl) ?_
            refine p_get (k := 0) hx hb hown hK hP aSa_0 rfl rfl rfl (lay_X4 hK) 25 723 (by decide) t_723 rfl rfl dX4_wash_92 ?_
            refine lv_iload hx hb dX4_wash_95 (lv_at hl 0 rfl) ?_
            refine p_iald (k := 0) (r := 26) (n := 4800) hx hb hK hP aSa_0 rfl rfl (by decide) (by decide) (by omega) (by omega) dX4_wash_97 ?_
            refine q_nm (show Sa 0 26 (240 * x + 10 * (n / (S 0 17 x)) + (n % (S 0 17 x))) = S 0 26 (240 * x + 10 * (n / (S 0 17 x)) + (n % (S 0 17 x))) from by rw [zS _ _ _ (by omega), qS1, if_neg (by omega)]) ?_
            refine q_callV (k := 0) hx hb hml hl.1 hown hK hZ hP hS aSa_0 rfl rfl rfl (c_X4_runs l g base ad Sa x ((n / (S 0 17 x)) - 1) (n % (S 0 17 x)) (S 0 26 (240 * x + 10 * (n / (S 0 17 x)) + (n % (S 0 17 x)))) wSa (by omega) ⟨by omega, by omega⟩ ⟨by omega, by omega⟩ (rS _ _ _) hloa) t_925 t_30 (q_callB hK 923 36 926 t_923 t_36 t_926 f_yX4_runs ⟨by decide, by decide⟩) rfl rfl (Nat.le_of_ble_eq_true rfl) dX4_wash_98 ⟨by decide, by decide⟩  (q_an (fun H locs hP hS => ?_))
            obtain ⟨u4, v4⟩ := ruM_b Sa x ((n / (S 0 17 x)) - 1) (n % (S 0 17 x)) (S 0 26 (240 * x + 10 * (n / (S 0 17 x)) + (n % (S 0 17 x))))
            refine lv_aload_n hx hb dX4_wash_101 rfl (lv_at hl 5 rfl) ?_
            refine lv_iload_n hx hb dX4_wash_102 rfl (lv_at hl 6 rfl) ?_
            refine lv_iload hx hb dX4_wash_103 (lv_at hl 2 rfl) ?_
            refine lv_iconst (v := i32 (1)) hx hb dX4_wash_105 rfl ?_
            refine q_iadd hx hb dX4_wash_106 ?_
            refine lv_iload hx hb dX4_wash_107 (lv_at hl 1 rfl) ?_
            refine lv_aload_n hx hb dX4_wash_109 rfl (lv_at hl 5 rfl) ?_
            refine p_get (k := 0) hx hb hown hK hP aSa_0 rfl rfl rfl (lay_X4 hK) 25 723 (by decide) t_723 rfl rfl dX4_wash_110 ?_
            refine lv_iload hx hb dX4_wash_113 (lv_at hl 0 rfl) ?_
            refine p_iald (k := 0) (r := 26) (n := 4800) hx hb hK hP aSa_0 rfl rfl (by decide) (by decide) (by omega) (by omega) dX4_wash_115 ?_
            refine q_nm (show Sa 0 26 (240 * x + 10 * (n / (S 0 17 x)) + (n % (S 0 17 x))) = S 0 26 (240 * x + 10 * (n / (S 0 17 x)) + (n % (S 0 17 x))) from by rw [zS _ _ _ (by omega), qS1, if_neg (by omega)]) ?_
            refine q_callV (k := 0) hx hb hml hl.1 hown hK hZ hP hS aSa_0 rfl rfl rfl (c_X4_runs l g base ad Sa x ((n / (S 0 17 x)) + 1) (n % (S 0 17 x)) (S 0 26 (240 * x + 10 * (n / (S 0 17 x)) + (n % (S 0 17 x)))) wSa (by omega) ⟨by omega, by omega⟩ ⟨by omega, by omega⟩ (rS _ _ _) hloa) t_925 t_30 (q_callB hK 923 36 926 t_923 t_36 t_926 f_yX4_runs ⟨by decide, by decide⟩) rfl rfl (Nat.le_of_ble_eq_true rfl) dX4_wash_116 ⟨by decide, by decide⟩  (q_an (fun H locs hP hS => ?_))
            obtain ⟨u5, v5⟩ := ruM_b Sa x ((n / (S 0 17 x)) + 1) (n % (S 0 17 x)) (S 0 26 (240 * x + 10 * (n / (S 0 17 x)) + (n % (S 0 17 x))))
            refine q_iadd hx hb dX4_wash_119 ?_
            refine lv_aload_n hx hb dX4_wash_120 rfl (lv_at hl 5 rfl) ?_
            refine lv_iload_n hx hb dX4_wash_121 rfl (lv_at hl 6 rfl) ?_
            refine lv_iload hx hb dX4_wash_122 (lv_at hl 2 rfl) ?_
            refine lv_iload hx hb dX4_wash_124 (lv_at hl 1 rfl) ?_
            refine lv_iconst (v := i32 (1)) hx hb dX4_wash_126 rfl ?_
            refine q_isub hx hb dX4_wash_127 ?_
            refine lv_aload_n hx hb dX4_wash_128 rfl (lv_at hl 5 rfl) ?_
            refine p_get (k := 0) hx hb hown hK hP aSa_0 rfl rfl rfl (lay_X4 hK) 25 723 (by decide) t_723 rfl rfl dX4_wash_129 ?_
            refine lv_iload hx hb dX4_wash_132 (lv_at hl 0 rfl) ?_
            refine p_iald (k := 0) (r := 26) (n := 4800) hx hb hK hP aSa_0 rfl rfl (by decide) (by decide) (by omega) (by omega) dX4_wash_134 ?_
            refine q_nm (show Sa 0 26 (240 * x + 10 * (n / (S 0 17 x)) + (n % (S 0 17 x))) = S 0 26 (240 * x + 10 * (n / (S 0 17 x)) + (n % (S 0 17 x))) from by rw [zS _ _ _ (by omega), qS1, if_neg (by omega)]) ?_
            refine q_callV (k := 0) hx hb hml hl.1 hown hK hZ hP hS aSa_0 rfl rfl rfl (c_X4_runs l g base ad Sa x (n / (S 0 17 x)) ((n % (S 0 17 x)) - 1) (S 0 26 (240 * x + 10 * (n / (S 0 17 x)) + (n % (S 0 17 x)))) wSa (by omega) ⟨by omega, by omega⟩ ⟨by omega, by omega⟩ (rS _ _ _) hloa) t_925 t_30 (q_callB hK 923 36 926 t_923 t_36 t_926 f_yX4_runs ⟨by decide, by decide⟩) rfl rfl (Nat.le_of_ble_eq_true rfl) dX4_wash_135 ⟨by decide, by decide⟩  (q_an (fun H locs hP hS => ?_))
            obtain ⟨u6, v6⟩ := ruM_b Sa x (n / (S 0 17 x)) ((n % (S 0 17 x)) - 1) (S 0 26 (240 * x + 10 * (n / (S 0 17 x)) + (n % (S 0 17 x))))
            refine q_iadd hx hb dX4_wash_138 ?_
            refine lv_aload_n hx hb dX4_wash_139 rfl (lv_at hl 5 rfl) ?_
            refine lv_iload_n hx hb dX4_wash_140 rfl (lv_at hl 6 rfl) ?_
            refine lv_iload hx hb dX4_wash_141 (lv_at hl 2 rfl) ?_
            refine lv_iload hx hb dX4_wash_143 (lv_at hl 1 rfl) ?_
            refine lv_iconst (v := i32 (1)) hx hb dX4_wash_145 rfl ?_
            refine q_iadd hx hb dX4_wash_146 ?_
            refine lv_aload_n hx hb dX4_wash_147 rfl (lv_at hl 5 rfl) ?_
            refine p_get (k := 0) hx hb hown hK hP aSa_0 rfl rfl rfl (lay_X4 hK) 25 723 (by decide) t_723 rfl rfl dX4_wash_148 ?_
            refine lv_iload hx hb dX4_wash_151 (lv_at hl 0 rfl) ?_
            refine p_iald (k := 0) (r := 26) (n := 4800) hx hb hK hP aSa_0 rfl rfl (by decide) (by decide) (by omega) (by omega) dX4_wash_153 ?_
            refine q_nm (show Sa 0 26 (240 * x + 10 * (n / (S 0 17 x)) + (n % (S 0 17 x))) = S 0 26 (240 * x + 10 * (n / (S 0 17 x)) + (n % (S 0 17 x))) from by rw [zS _ _ _ (by omega), qS1, if_neg (by omega)]) ?_
            refine q_callV (k := 0) hx hb hml hl.1 hown hK hZ hP hS aSa_0 rfl rfl rfl (c_X4_runs l g base ad Sa x (n / (S 0 17 x)) ((n % (S 0 17 x)) + 1) (S 0 26 (240 * x + 10 * (n / (S 0 17 x)) + (n % (S 0 17 x)))) wSa (by omega) ⟨by omega, by omega⟩ ⟨by omega, by omega⟩ (rS _ _ _) hloa) t_925 t_30 (q_callB hK 923 36 926 t_923 t_36 t_926 f_yX4_runs ⟨by decide, by decide⟩) rfl rfl (Nat.le_of_ble_eq_true rfl) dX4_wash_154 ⟨by decide, by decide⟩  (q_an (fun H locs hP hS => ?_))
            obtain ⟨u7, v7⟩ := ruM_b Sa x (n / (S 0 17 x)) ((n % (S 0 17 x)) + 1) (S 0 26 (240 * x + 10 * (n / (S 0 17 x)) + (n % (S 0 17 x))))
            refine q_iadd hx hb dX4_wash_157 ?_
            refine lv_istore (lv' := [(7, .int (i32 ((((ruM Sa x ((n / (S 0 17 x)) - 1) (n % (S 0 17 x)) (S 0 26 (240 * x + 10 * (n / (S 0 17 x)) + (n % (S 0 17 x))))) + (ruM Sa x ((n / (S 0 17 x)) + 1) (n % (S 0 17 x)) (S 0 26 (240 * x + 10 * (n / (S 0 17 x)) + (n % (S 0 17 x)))))) + (ruM Sa x (n / (S 0 17 x)) ((n % (S 0 17 x)) - 1) (S 0 26 (240 * x + 10 * (n / (S 0 17 x)) + (n % (S 0 17 x)))))) + (ruM Sa x (n / (S 0 17 x)) ((n % (S 0 17 x)) + 1) (S 0 26 (240 * x + 10 * (n / (S 0 17 x)) + (n % (S 0 17 x)))))))), (6, .int (i32 (240 * x + 10 * (n / (S 0 17 x)) + (n % (S 0 17 x))))), (5, .int (i32 (n % (S 0 17 x)))), (4, .int (i32 (n / (S 0 17 x)))), (3, .int (i32 (n))), (2, .int (i32 (b2 (isP S x)))), (0, .ref (ad 0 0)), (1, .int (i32 (x)))]) hx hb dX4_wash_158 hl (by decide) rfl (fun ls hl => ?_)
            refine lv_aload_n hx hb dX4_wash_160 rfl (lv_at hl 6 rfl) ?_
            refine p_get (k := 0) hx hb hown hK hP aSa_0 rfl rfl rfl (lay_X4 hK) 26 724 (by decide) t_724 rfl rfl dX4_wash_161 ?_
            refine lv_iload hx hb dX4_wash_164 (lv_at hl 1 rfl) ?_
            refine lv_aload_n hx hb dX4_wash_166 rfl (lv_at hl 6 rfl) ?_
            refine p_get (k := 0) hx hb hown hK hP aSa_0 rfl rfl rfl (lay_X4 hK) 26 724 (by decide) t_724 rfl rfl dX4_wash_167 ?_
            refine lv_iload hx hb dX4_wash_170 (lv_at hl 1 rfl) ?_
            refine p_iald (k := 0) (r := 27) (n := 4800) hx hb hK hP aSa_0 rfl rfl (by decide) (by decide) (by omega) (by omega) dX4_wash_172 ?_
            refine lv_iload hx hb dX4_wash_173 (lv_at hl 0 rfl) ?_
            have J192 : ∀ (b192 : Int) (H : Heap) (locs : List Loc), (((((((ruM Sa x ((n / (S 0 17 x)) - 1) (n % (S 0 17 x)) (S 0 26 (240 * x + 10 * (n / (S 0 17 x)) + (n % (S 0 17 x))))) + (ruM Sa x ((n / (S 0 17 x)) + 1) (n % (S 0 17 x)) (S 0 26 (240 * x + 10 * (n / (S 0 17 x)) + (n % (S 0 17 x)))))) + (ruM Sa x (n / (S 0 17 x)) ((n % (S 0 17 x)) - 1) (S 0 26 (240 * x + 10 * (n / (S 0 17 x)) + (n % (S 0 17 x)))))) + (ruM Sa x (n / (S 0 17 x)) ((n % (S 0 17 x)) + 1) (S 0 26 (240 * x + 10 * (n / (S 0 17 x)) + (n % (S 0 17 x)))))) ≤ (Sa 0 27 (240 * x + 10 * (n / (S 0 17 x)) + (n % (S 0 17 x))))) ∧ b192 = (Sa 0 27 (240 * x + 10 * (n / (S 0 17 x)) + (n % (S 0 17 x)))) - ((((ruM Sa x ((n / (S 0 17 x)) - 1) (n % (S 0 17 x)) (S 0 26 (240 * x + 10 * (n / (S 0 17 x)) + (n % (S 0 17 x))))) + (ruM Sa x ((n / (S 0 17 x)) + 1) (n % (S 0 17 x)) (S 0 26 (240 * x + 10 * (n / (S 0 17 x)) + (n % (S 0 17 x)))))) + (ruM Sa x (n / (S 0 17 x)) ((n % (S 0 17 x)) - 1) (S 0 26 (240 * x + 10 * (n / (S 0 17 x)) + (n % (S 0 17 x)))))) + (ruM Sa x (n / (S 0 17 x)) ((n % (S 0 17 x)) + 1) (S 0 26 (240 * x + 10 * (n / (S 0 17 x)) + (n % (S 0 17 x))))))) ∨ (((Sa 0 27 (240 * x + 10 * (n / (S 0 17 x)) + (n % (S 0 17 x)))) < ((((ruM Sa x ((n / (S 0 17 x)) - 1) (n % (S 0 17 x)) (S 0 26 (240 * x + 10 * (n / (S 0 17 x)) + (n % (S 0 17 x))))) + (ruM Sa x ((n / (S 0 17 x)) + 1) (n % (S 0 17 x)) (S 0 26 (240 * x + 10 * (n / (S 0 17 x)) + (n % (S 0 17 x)))))) + (ruM Sa x (n / (S 0 17 x)) ((n % (S 0 17 x)) - 1) (S 0 26 (240 * x + 10 * (n / (S 0 17 x)) + (n % (S 0 17 x)))))) + (ruM Sa x (n / (S 0 17 x)) ((n % (S 0 17 x)) + 1) (S 0 26 (240 * x + 10 * (n / (S 0 17 x)) + (n % (S 0 17 x))))))) ∧ b192 = 0)) → pic g base ad Sa H → va_S (fun q => base ≤ q) s.heap H locs → W p l e ({ frames := 2, cells := 0, slots := 0, locals := 48 } : Room) s m av below meth cz H locs 0 0 Qm (F0 m 192 ls (Value.int (i32 b192) :: Value.int (i32 (240 * x + 10 * (n / (S 0 17 x)) + (n % (S 0 17 x)))) :: Value.ref (ad 0 27) :: [])) := by
              intro b192 H locs hb192 hP hS
              refine p_iast (k := 0) (r := 27) (n := 4800) hx hb hK hP hS aSa_0 rfl rfl (by decide) (by decide) (by omega) (by omega) (sub_r hb192.symm (by omega) (rSa _ _ _)) dX4_wash_192 (fun H locs hP hS => ?_)
              generalize eS8 : st Sa 0 27 (240 * x + 10 * (n / (S 0 17 x)) + (n % (S 0 17 x))) b192 = S8 at hP
              have qS8 : ∀ (a1 b1 : Nat) (i1 : Int), S8 a1 b1 i1 = if a1 = 0 ∧ b1 = 27 ∧ i1 = 240 * x + 10 * (n / (S 0 17 x)) + (n % (S 0 17 x)) then b192 else Sa a1 b1 i1 := fun a1 b1 i1 => by rw [← eS8]; exact st_at _ _ _ _ _ _ _ _
              have rS8 : ∀ (a1 b1 : Nat) (i1 : Int), rng (S8 a1 b1 i1) := fun a1 b1 i1 => hP.rg a1 b1 i1
              have aS8_0 : S8 0 0 (-1) = 1 := by rw [qS8, if_neg (by omega)]; exact aSa_0
              have wS8 : wM S8 := wM.keep wSa (fun r j h => by unfold wrow at h; rw [qS8, if_neg (by omega)])
              refine lv_iinc (v := i32 (n + 1)) (lv' := [(3, .int (i32 (n + 1))), (7, .int (i32 ((((ruM Sa x ((n / (S 0 17 x)) - 1) (n % (S 0 17 x)) (S 0 26 (240 * x + 10 * (n / (S 0 17 x)) + (n % (S 0 17 x))))) + (ruM Sa x ((n / (S 0 17 x)) + 1) (n % (S 0 17 x)) (S 0 26 (240 * x + 10 * (n / (S 0 17 x)) + (n % (S 0 17 x)))))) + (ruM Sa x (n / (S 0 17 x)) ((n % (S 0 17 x)) - 1) (S 0 26 (240 * x + 10 * (n / (S 0 17 x)) + (n % (S 0 17 x)))))) + (ruM Sa x (n / (S 0 17 x)) ((n % (S 0 17 x)) + 1) (S 0 26 (240 * x + 10 * (n / (S 0 17 x)) + (n % (S 0 17 x)))))))), (6, .int (i32 (240 * x + 10 * (n / (S 0 17 x)) + (n % (S 0 17 x))))), (5, .int (i32 (n % (S 0 17 x)))), (4, .int (i32 (n / (S 0 17 x)))), (2, .int (i32 (b2 (isP S x)))), (0, .ref (ad 0 0)), (1, .int (i32 (x)))]) hx hb dX4_wash_193 hl (k := 4) rfl (i32_add _ _) (by decide) rfl (fun ls hl => ?_)
              refine lv_goto (tgt := 36) hx hb dX4_wash_196 (by decide) ?_
              obtain ⟨zd2, zu2⟩ := cell_step (f := waM S x) zn.1 (by omega) hr2 qS8 zd zu (waM_v yy (zu n (by omega) (by omega)) hb192.symm)
              exact ih36 (n + 1) S8 _ _ _ (by omega) (by exact fun a1 b1 i1 hh => by rw [qS8, if_neg (by omega)]; exact zS a1 b1 i1 hh) (by exact zd2) (by exact zu2) (by omega) hP hS (lv_sub hl [0, 5, 6, 7] rfl)
            refine q_icmp_ge (tgt := 182) hx hb (hP.rg _ _ _) ⟨by omega, by omega⟩ dX4_wash_175 (by decide) (fun c_9 => ?_) (fun c_9 => ?_)
            · -- ((((ruM Sa x ((n / (S 0 17 x)) - 1) (n % (S 0 17 x)) (S 0 26 (240 * x + 10 * (n / (S 0 17 x)) + (n % (S 0 17 x))))) + (ruM Sa x ((n / (S 0 17 x)) + 1) (n % (S 0 17 x)) (S 0 26 (240 * x + 10 * (n / (S 0 17 x)) + (n % (S 0 17 x)))))) + (ruM Sa x (n / (S 0 17 x)) ((n % (S 0 17 x)) - 1) (S 0 26 (240 * x + 10 * (n / (S 0 17 x)) + (n % (S 0 17 x)))))) + (ruM Sa x (n / (S 0 17 x)) ((n % (S 0 17 x)) + 1) (S 0 26 (240 * x + 10 * (n / (S 0 17 x)) + (n % (S 0 17 x)))))) ≤ (Sa 0 27 (240 * x + 10 * (n / (S 0 17 x)) + (n % (S 0 17 x))))
              refine lv_aload_n hx hb dX4_wash_182 rfl (lv_at hl 6 rfl) ?_
              refine p_get (k := 0) hx hb hown hK hP aSa_0 rfl rfl rfl (lay_X4 hK) 26 724 (by decide) t_724 rfl rfl dX4_wash_183 ?_
              refine lv_iload hx hb dX4_wash_186 (lv_at hl 1 rfl) ?_
              refine p_iald (k := 0) (r := 27) (n := 4800) hx hb hK hP aSa_0 rfl rfl (by decide) (by decide) (by omega) (by omega) dX4_wash_188 ?_
              refine lv_iload hx hb dX4_wash_189 (lv_at hl 0 rfl) ?_
              refine q_isub hx hb dX4_wash_191 ?_
              exact J192 _ _ _ (by first | omega | (simp only [*]; done) | simp_all) hP hS
            · -- (Sa 0 27 (240 * x + 10 * (n / (S 0 17 x)) + (n % (S 0 17 x)))) < ((((ruM Sa x ((n / (S 0 17 x)) - 1) (n % (S 0 17 x)) (S 0 26 (240 * x + 10 * (n / (S 0 17 x)) + (n % (S 0 17 x))))) + (ruM Sa x ((n / (S 0 17 x)) + 1) (n % (S 0 17 x)) (S 0 26 (240 * x + 10 * (n / (S 0 17 x)) + (n % (S 0 17 x)))))) + (ruM Sa x (n / (S 0 17 x)) ((n % (S 0 17 x)) - 1) (S 0 26 (240 * x + 10 * (n / (S 0 17 x)) + (n % (S 0 17 x)))))) + (ruM Sa x (n / (S 0 17 x)) ((n % (S 0 17 x)) + 1) (S 0 26 (240 * x + 10 * (n / (S 0 17 x)) + (n % (S 0 17 x))))))
              refine lv_iconst (v := i32 (0)) hx hb dX4_wash_178 rfl ?_
              refine lv_goto (tgt := 192) hx hb dX4_wash_179 (by decide) ?_
              exact J192 _ _ _ (by first | omega | (simp only [*]; done) | simp_all) hP hS
      exact L36 ((S 0 16 x * S 0 17 x - 0) + 1).toNat 0 S1 _ _ _ (by omega) (by exact fun _ _ _ _ => rfl) (by exact fun n1 h0 h1 => absurd h1 (by omega)) (by exact fun n1 h0 h1 => by rw [qS1, if_neg (by omega)]) (by omega) hP hS (lv_sub hl [0, 1, 2, 3] rfl)
    · -- ¬ ((isP S x) ∧ ((isP S x) ∧ (dnM S x)) ∧ True)
      refine lv_iconst (v := i32 (0)) hx hb dX4_wash_32 rfl ?_
      subst hQm
      exact q_iret hx hb hr hlocks hP hS (by subst eS1; exact ⟨rfl, Or.inl ⟨c_2, rfl, rfl⟩⟩) (by decide) (by decide) dX4_wash_33
  refine q_if_eqb (tgt := 24) hx hb dX4_wash_9 (by decide) (fun c_10 => ?_) (fun c_10 => ?_)
  · -- ¬ (isP S x)
    refine lv_iconst (v := i32 (0)) hx hb dX4_wash_24 rfl ?_
    refine q_nm (b2_f (show ¬ ((isP S x) ∧ (dnM S x)) from by first | omega | (simp only [*]; done) | simp_all)).symm ?_
    exact J25 _ _ hP hS
  · -- isP S x
    obtain ⟨hq1, hq2, hq3⟩ := id c_10
    refine lv_aload_n hx hb dX4_wash_12 rfl (lv_at hl 1 rfl) ?_
    refine lv_iload_n hx hb dX4_wash_13 rfl (lv_at hl 2 rfl) ?_
    refine q_callV (k := 0) hx hb hml hl.1 hown hK hZ hP hS hw.al rfl rfl rfl (c_X4_isDone l g base ad S x hw (by omega)) t_885 t_24 (q_callB hK 883 36 886 t_883 t_36 t_886 f_yX4_isDone ⟨by decide, by decide⟩) rfl rfl (Nat.le_of_ble_eq_true rfl) dX4_wash_14 ⟨by decide, by decide⟩  (q_an (fun H locs hP hS => ?_))
    refine q_if_eqb (tgt := 24) hx hb dX4_wash_17 (by decide) (fun c_11 => ?_) (fun c_11 => ?_)
    · -- ¬ (dnM S x)
      refine lv_iconst (v := i32 (0)) hx hb dX4_wash_24 rfl ?_
      refine q_nm (b2_f (show ¬ ((isP S x) ∧ (dnM S x)) from by first | omega | (simp only [*]; done) | simp_all)).symm ?_
      exact J25 _ _ hP hS
    · -- dnM S x
      refine lv_iconst (v := i32 (1)) hx hb dX4_wash_20 rfl ?_
      refine lv_goto (tgt := 25) hx hb dX4_wash_21 (by decide) ?_
      refine q_nm (b2_t (show (isP S x) ∧ (dnM S x) from by first | omega | (simp only [*]; done) | simp_all)).symm ?_
      exact J25 _ _ hP hS
