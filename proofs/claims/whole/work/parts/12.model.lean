set_option maxHeartbeats 4000000 in
set_option maxRecDepth 100000 in
theorem c_X4_isCartoon (l : Launch) (g : GT) (base : Nat) (ad : Nat → Nat → Nat) (S : St) (x : Int) (hw : wM S) (hrn : rng x) : Met l yX4_isCartoon [Cond.code yX4_isCartoon cX4_isCartoon 2 (some FieldType.boolean)] ({ frames := 1, cells := 0, slots := 0, locals := 22 }) (va_Pc [.ref (ad 0 0), .int (i32 (x))] (PK g base ad S)) (gQ g base (an (some (.int (i32 (b2 (isC S x))))) ad S)) 0 0 (fun q => base ≤ q) := by
  refine mk_m (own := RX4) (lv0 := [(0, .ref (ad 0 0)), (1, .int (i32 (x)))]) (by decide) rfl (Nat.le_of_ble_eq_true rfl) rfl ?_
  intro p e s m below meth cz av Qm hx hb hr hml hown hlocks hK hZ hP hQm ls hl
  have hS : va_S (fun q => base ≤ q) s.heap s.heap [] := va_S.rf
  have rS : ∀ (a1 b1 : Nat) (i1 : Int), rng (S a1 b1 i1) := fun a1 b1 i1 => hP.rg a1 b1 i1
  obtain ⟨hz1, hz2⟩ := id hrn
  obtain ⟨hc1, hc2⟩ := hw.cs
  refine lv_iload_n hx hb dX4_isCartoon_0 rfl (lv_at hl 1 rfl) ?_
  refine lv_iconst (v := i32 (0)) hx hb dX4_isCartoon_1 rfl ?_
  refine lv_aload_n hx hb dX4_isCartoon_2 rfl (lv_at hl 0 rfl) ?_
  refine p_get (k := 0) hx hb hown hK hP hw.al rfl rfl rfl (lay_X4 hK) 2 700 (by decide) t_700 rfl rfl dX4_isCartoon_3 ?_
  refine lv_iconst (v := i32 (1)) hx hb dX4_isCartoon_6 rfl ?_
  refine q_isub hx hb dX4_isCartoon_7 ?_
  refine q_callS hx hb hml hl.1 hown hK hZ hP hS (c_X4_in l g base ad S x 0 ((S 0 0 2) - 1) hrn ⟨by decide, by decide⟩ ⟨by omega, by omega⟩) t_807 (q_callB hK 806 36 808 t_806 t_36 t_808 f_yX4_in ⟨by decide, by decide⟩) rfl rfl (Nat.le_of_ble_eq_true rfl) dX4_isCartoon_8 ⟨by decide, by decide⟩  (q_an (fun H locs hP hS => ?_))
  refine q_nm (b2_c (show (0 ≤ x ∧ x ≤ ((S 0 0 2) - 1)) ↔ (isC S x) from by unfold isC; omega)) ?_
  subst hQm
  exact q_zret hx hb hr hlocks hP hS (b2_01 _) ⟨rfl, rfl, rfl⟩ (by decide) (by decide) dX4_isCartoon_11

set_option maxHeartbeats 4000000 in
set_option maxRecDepth 100000 in
theorem c_X4_isPiece (l : Launch) (g : GT) (base : Nat) (ad : Nat → Nat → Nat) (S : St) (x : Int) (hw : wM S) (hrn : rng x) : Met l yX4_isPiece [Cond.code yX4_isPiece cX4_isPiece 2 (some FieldType.boolean)] ({ frames := 1, cells := 0, slots := 0, locals := 22 }) (va_Pc [.ref (ad 0 0), .int (i32 (x))] (PK g base ad S)) (gQ g base (an (some (.int (i32 (b2 (isP S x))))) ad S)) 0 0 (fun q => base ≤ q) := by
  refine mk_m (own := RX4) (lv0 := [(0, .ref (ad 0 0)), (1, .int (i32 (x)))]) (by decide) rfl (Nat.le_of_ble_eq_true rfl) rfl ?_
  intro p e s m below meth cz av Qm hx hb hr hml hown hlocks hK hZ hP hQm ls hl
  have hS : va_S (fun q => base ≤ q) s.heap s.heap [] := va_S.rf
  have rS : ∀ (a1 b1 : Nat) (i1 : Int), rng (S a1 b1 i1) := fun a1 b1 i1 => hP.rg a1 b1 i1
  obtain ⟨hz1, hz2⟩ := id hrn
  obtain ⟨hc1, hc2⟩ := hw.ps
  refine lv_iload_n hx hb dX4_isPiece_0 rfl (lv_at hl 1 rfl) ?_
  refine lv_iconst (v := i32 (0)) hx hb dX4_isPiece_1 rfl ?_
  refine lv_aload_n hx hb dX4_isPiece_2 rfl (lv_at hl 0 rfl) ?_
  refine p_get (k := 0) hx hb hown hK hP hw.al rfl rfl rfl (lay_X4 hK) 14 712 (by decide) t_712 rfl rfl dX4_isPiece_3 ?_
  refine lv_iconst (v := i32 (1)) hx hb dX4_isPiece_6 rfl ?_
  refine q_isub hx hb dX4_isPiece_7 ?_
  refine q_callS hx hb hml hl.1 hown hK hZ hP hS (c_X4_in l g base ad S x 0 ((S 0 0 14) - 1) hrn ⟨by decide, by decide⟩ ⟨by omega, by omega⟩) t_807 (q_callB hK 806 36 808 t_806 t_36 t_808 f_yX4_in ⟨by decide, by decide⟩) rfl rfl (Nat.le_of_ble_eq_true rfl) dX4_isPiece_8 ⟨by decide, by decide⟩  (q_an (fun H locs hP hS => ?_))
  have J28 : ∀ (H : Heap) (locs : List Loc), pic g base ad S H → va_S (fun q => base ≤ q) s.heap H locs → W p l e ({ frames := 1, cells := 0, slots := 0, locals := 22 } : Room) s m av below meth cz H locs 0 0 Qm (F0 m 28 ls (Value.int (i32 (b2 ((0 ≤ x ∧ x ≤ ((S 0 0 14) - 1)) ∧ ((S 0 19 x) = 0)))) :: [])) := by
    intro H locs hP hS
    refine q_nm (b2_c (show ((0 ≤ x ∧ x ≤ ((S 0 0 14) - 1)) ∧ ((S 0 19 x) = 0)) ↔ (isP S x) from by unfold isP; omega)) ?_
    subst hQm
    exact q_zret hx hb hr hlocks hP hS (b2_01 _) ⟨rfl, rfl, rfl⟩ (by decide) (by decide) dX4_isPiece_28
  refine q_if_eqb (tgt := 27) hx hb dX4_isPiece_11 (by decide) (fun c_1 => ?_) (fun c_1 => ?_)
  · -- ¬ (0 ≤ x ∧ x ≤ ((S 0 0 14) - 1))
    refine lv_iconst (v := i32 (0)) hx hb dX4_isPiece_27 rfl ?_
    refine q_nm (b2_f (show ¬ ((0 ≤ x ∧ x ≤ ((S 0 0 14) - 1)) ∧ ((S 0 19 x) = 0)) from by first | omega | (simp only [*]; done) | simp_all)).symm ?_
    exact J28 _ _ hP hS
  · -- 0 ≤ x ∧ x ≤ ((S 0 0 14) - 1)
    refine lv_aload_n hx hb dX4_isPiece_14 rfl (lv_at hl 0 rfl) ?_
    refine p_get (k := 0) hx hb hown hK hP hw.al rfl rfl rfl (lay_X4 hK) 18 716 (by decide) t_716 rfl rfl dX4_isPiece_15 ?_
    refine lv_iload_n hx hb dX4_isPiece_18 rfl (lv_at hl 1 rfl) ?_
    refine p_zald (k := 0) (r := 19) (n := 20) hx hb hK hP hw.al rfl rfl (by decide) (by decide) (by omega) (by omega) dX4_isPiece_19 ?_
    refine q_if_ne (tgt := 27) hx hb (hP.rg _ _ _) dX4_isPiece_20 (by decide) (fun c_2 => ?_) (fun c_2 => ?_)
    · -- (S 0 19 x) ≠ 0
      refine lv_iconst (v := i32 (0)) hx hb dX4_isPiece_27 rfl ?_
      refine q_nm (b2_f (show ¬ ((0 ≤ x ∧ x ≤ ((S 0 0 14) - 1)) ∧ ((S 0 19 x) = 0)) from by first | omega | (simp only [*]; done) | simp_all)).symm ?_
      exact J28 _ _ hP hS
    · -- (S 0 19 x) = 0
      refine lv_iconst (v := i32 (1)) hx hb dX4_isPiece_23 rfl ?_
      refine lv_goto (tgt := 28) hx hb dX4_isPiece_24 (by decide) ?_
      refine q_nm (b2_t (show (0 ≤ x ∧ x ≤ ((S 0 0 14) - 1)) ∧ ((S 0 19 x) = 0) from by first | omega | (simp only [*]; done) | simp_all)).symm ?_
      exact J28 _ _ hP hS

set_option maxHeartbeats 4000000 in
set_option maxRecDepth 100000 in
theorem c_X4_isDone (l : Launch) (g : GT) (base : Nat) (ad : Nat → Nat → Nat) (S : St) (x : Int) (hw : wM S) (hxx : 0 ≤ x ∧ x < 20) : Met l yX4_isDone [Cond.code yX4_isDone cX4_isDone 4 (some FieldType.boolean)] ({ frames := 0, cells := 0, slots := 0, locals := 0 }) (va_Pc [.ref (ad 0 0), .int (i32 (x))] (PK g base ad S)) (gQ g base (an (some (.int (i32 (b2 (dnM S x))))) ad S)) 0 0 (fun q => base ≤ q) := by
  refine mk_m (own := RX4) (lv0 := [(0, .ref (ad 0 0)), (1, .int (i32 (x)))]) (by decide) rfl (Nat.le_of_ble_eq_true rfl) rfl ?_
  intro p e s m below meth cz av Qm hx hb hr hml hown hlocks hK hZ hP hQm ls hl
  have hS : va_S (fun q => base ≤ q) s.heap s.heap [] := va_S.rf
  have rS : ∀ (a1 b1 : Nat) (i1 : Int), rng (S a1 b1 i1) := fun a1 b1 i1 => hP.rg a1 b1 i1
  obtain ⟨hx0, hx1⟩ := id hxx
  obtain ⟨hc1, hc2, hr1, hr2, hv1, hv2, hd1, hd2⟩ := hw.pc x hx0 hx1
  refine lv_iconst (v := i32 (1)) hx hb dX4_isDone_0 rfl ?_
  refine lv_istore_n (lv' := [(2, .int (i32 (1))), (0, .ref (ad 0 0)), (1, .int (i32 (x)))]) hx hb dX4_isDone_1 rfl hl (by decide) rfl (fun ls hl => ?_)
  refine lv_iconst (v := i32 (0)) hx hb dX4_isDone_2 rfl ?_
  refine lv_istore_n (lv' := [(3, .int (i32 (0))), (2, .int (i32 (1))), (0, .ref (ad 0 0)), (1, .int (i32 (x)))]) hx hb dX4_isDone_3 rfl hl (by decide) rfl (fun ls hl => ?_)
  have L4 : ∀ (k : Nat) (is1 i : Int) (H : Heap) (locs : List Loc) (ls : Array Slot), (0 ≤ i ∧ i ≤ S 0 18 x) → (is1 = b2 (∀ j, 0 ≤ j → j < i → S 0 20 (4 * x + j) = S 0 17 x)) → S 0 18 x - i < (k : Int) → pic g base ad S H → va_S (fun q => base ≤ q) s.heap H locs → lv_has ls 4 [(3, .int (i32 (i))), (2, .int (i32 (is1))), (0, .ref (ad 0 0)), (1, .int (i32 (x)))] → W p l e ({ frames := 0, cells := 0, slots := 0, locals := 0 } : Room) s m av below meth cz H locs 0 0 Qm (F0 m 4 ls []) := by
    intro k
    induction k with
    | zero => intro is1 i H locs ls hi his hmu _ _ _; exact absurd hmu (by omega)
    | succ k ih4 =>
      intro is1 i H locs ls hi his hmu hP hS hl
      refine lv_iload_n hx hb dX4_isDone_4 rfl (lv_at hl 0 rfl) ?_
      refine lv_aload_n hx hb dX4_isDone_5 rfl (lv_at hl 2 rfl) ?_
      refine p_get (k := 0) hx hb hown hK hP hw.al rfl rfl rfl (lay_X4 hK) 17 715 (by decide) t_715 rfl rfl dX4_isDone_6 ?_
      refine lv_iload_n hx hb dX4_isDone_9 rfl (lv_at hl 3 rfl) ?_
      refine p_iald (k := 0) (r := 18) (n := 20) hx hb hK hP hw.al rfl rfl (by decide) (by decide) (by omega) (by omega) dX4_isDone_10 ?_
      refine q_icmp_ge (tgt := 49) hx hb ⟨by omega, by omega⟩ (hP.rg _ _ _) dX4_isDone_11 (by decide) (fun c_1 => ?_) (fun c_1 => ?_)
      · -- (S 0 18 x) ≤ i
        refine lv_iload_n hx hb dX4_isDone_49 rfl (lv_at hl 1 rfl) ?_
        refine q_nm (show (is1 : Int) = b2 (dnM S x) from by rw [his, show i = S 0 18 x from by omega]; rfl) ?_
        subst hQm
        exact q_zret hx hb hr hlocks hP hS (b2_01 _) ⟨rfl, rfl, rfl⟩ (by decide) (by decide) dX4_isDone_50
      · -- i < (S 0 18 x)
        refine lv_iload_n hx hb dX4_isDone_14 rfl (lv_at hl 1 rfl) ?_
        have J42 : ∀ (H : Heap) (locs : List Loc), pic g base ad S H → va_S (fun q => base ≤ q) s.heap H locs → W p l e ({ frames := 0, cells := 0, slots := 0, locals := 0 } : Room) s m av below meth cz H locs 0 0 Qm (F0 m 42 ls (Value.int (i32 (b2 ((is1 ≠ 0) ∧ ((S 0 20 ((4 * x) + i)) = (S 0 17 x))))) :: [])) := by
          intro H locs hP hS
          refine lv_istore_n (lv' := [(2, .int (i32 (b2 ((is1 ≠ 0) ∧ ((S 0 20 ((4 * x) + i)) = (S 0 17 x)))))), (3, .int (i32 (i))), (0, .ref (ad 0 0)), (1, .int (i32 (x)))]) hx hb dX4_isDone_42 rfl hl (by decide) rfl (fun ls hl => ?_)
          refine lv_iinc (v := i32 (i + 1)) (lv' := [(3, .int (i32 (i + 1))), (2, .int (i32 (b2 ((is1 ≠ 0) ∧ ((S 0 20 ((4 * x) + i)) = (S 0 17 x)))))), (0, .ref (ad 0 0)), (1, .int (i32 (x)))]) hx hb dX4_isDone_43 hl (k := 1) rfl (i32_add _ _) (by decide) rfl (fun ls hl => ?_)
          refine lv_goto (tgt := 4) hx hb dX4_isDone_46 (by decide) ?_
          exact ih4 (b2 ((is1 ≠ 0) ∧ ((S 0 20 ((4 * x) + i)) = (S 0 17 x)))) (i + 1) _ _ _ (by omega) (by exact b2_c ((and_congr (b2_n his) Iff.rfl).trans (all_s hi.1).symm)) (by omega) hP hS (lv_sub hl [0, 1, 2, 3] rfl)
        refine q_if_eq (tgt := 41) hx hb (his ▸ b2_rng _) dX4_isDone_15 (by decide) (fun c_2 => ?_) (fun c_2 => ?_)
        · -- is1 = 0
          refine lv_iconst (v := i32 (0)) hx hb dX4_isDone_41 rfl ?_
          refine q_nm (b2_f (show ¬ ((is1 ≠ 0) ∧ ((S 0 20 ((4 * x) + i)) = (S 0 17 x))) from by first | omega | (simp only [*]; done) | simp_all)).symm ?_
          exact J42 _ _ hP hS
        · -- is1 ≠ 0
          refine lv_aload_n hx hb dX4_isDone_18 rfl (lv_at hl 2 rfl) ?_
          refine p_get (k := 0) hx hb hown hK hP hw.al rfl rfl rfl (lay_X4 hK) 19 717 (by decide) t_717 rfl rfl dX4_isDone_19 ?_
          refine lv_iconst (v := i32 (4)) hx hb dX4_isDone_22 rfl ?_
          refine lv_iload_n hx hb dX4_isDone_23 rfl (lv_at hl 3 rfl) ?_
          refine q_imul hx hb dX4_isDone_24 ?_
          refine lv_iload_n hx hb dX4_isDone_25 rfl (lv_at hl 0 rfl) ?_
          refine q_iadd hx hb dX4_isDone_26 ?_
          refine p_iald (k := 0) (r := 20) (n := 80) hx hb hK hP hw.al rfl rfl (by decide) (by decide) (by omega) (by omega) dX4_isDone_27 ?_
          refine lv_aload_n hx hb dX4_isDone_28 rfl (lv_at hl 2 rfl) ?_
          refine p_get (k := 0) hx hb hown hK hP hw.al rfl rfl rfl (lay_X4 hK) 16 714 (by decide) t_714 rfl rfl dX4_isDone_29 ?_
          refine lv_iload_n hx hb dX4_isDone_32 rfl (lv_at hl 3 rfl) ?_
          refine p_iald (k := 0) (r := 17) (n := 20) hx hb hK hP hw.al rfl rfl (by decide) (by decide) (by omega) (by omega) dX4_isDone_33 ?_
          refine q_icmp_ne (tgt := 41) hx hb (hP.rg _ _ _) (hP.rg _ _ _) dX4_isDone_34 (by decide) (fun c_3 => ?_) (fun c_3 => ?_)
          · -- (S 0 20 ((4 * x) + i)) ≠ (S 0 17 x)
            refine lv_iconst (v := i32 (0)) hx hb dX4_isDone_41 rfl ?_
            refine q_nm (b2_f (show ¬ ((is1 ≠ 0) ∧ ((S 0 20 ((4 * x) + i)) = (S 0 17 x))) from by first | omega | (simp only [*]; done) | simp_all)).symm ?_
            exact J42 _ _ hP hS
          · -- (S 0 20 ((4 * x) + i)) = (S 0 17 x)
            refine lv_iconst (v := i32 (1)) hx hb dX4_isDone_37 rfl ?_
            refine lv_goto (tgt := 42) hx hb dX4_isDone_38 (by decide) ?_
            refine q_nm (b2_t (show (is1 ≠ 0) ∧ ((S 0 20 ((4 * x) + i)) = (S 0 17 x)) from by first | omega | (simp only [*]; done) | simp_all)).symm ?_
            exact J42 _ _ hP hS
  exact L4 ((S 0 18 x - 0) + 1).toNat 1 0 _ _ _ (by omega) (by exact (b2_t (fun j h0 h1 => absurd h1 (by omega))).symm) (by omega) hP hS (lv_sub hl [0, 1, 2, 3] rfl)

set_option maxHeartbeats 4000000 in
set_option maxRecDepth 100000 in
theorem c_X4_isUnlike (l : Launch) (g : GT) (base : Nat) (ad : Nat → Nat → Nat) (S : St) (x c r : Int) (hw : wM S) (hxx : 0 ≤ x ∧ x < 20) (hcc : 1 ≤ c ∧ c < 24) (hrr : 0 ≤ r ∧ r < 10) : Met l yX4_isUnlike [Cond.code yX4_isUnlike cX4_isUnlike 4 (some FieldType.boolean)] ({ frames := 1, cells := 0, slots := 0, locals := 22 }) (va_Pc [.ref (ad 0 0), .int (i32 (x)), .int (i32 (c)), .int (i32 (r))] (PK g base ad S)) (gQ g base (an (some (.int (i32 (b2 (S 0 25 (240 * x + 10 * (c - 1) + r) ≠ S 0 25 (240 * x + 10 * c + r)))))) ad S)) 0 0 (fun q => base ≤ q) := by
  refine mk_m (own := RX4) (lv0 := [(0, .ref (ad 0 0)), (1, .int (i32 (x))), (2, .int (i32 (c))), (3, .int (i32 (r)))]) (by decide) rfl (Nat.le_of_ble_eq_true rfl) rfl ?_
  intro p e s m below meth cz av Qm hx hb hr hml hown hlocks hK hZ hP hQm ls hl
  have hS : va_S (fun q => base ≤ q) s.heap s.heap [] := va_S.rf
  have rS : ∀ (a1 b1 : Nat) (i1 : Int), rng (S a1 b1 i1) := fun a1 b1 i1 => hP.rg a1 b1 i1
  refine lv_aload_n hx hb dX4_isUnlike_0 rfl (lv_at hl 0 rfl) ?_
  refine p_get (k := 0) hx hb hown hK hP hw.al rfl rfl rfl (lay_X4 hK) 24 722 (by decide) t_722 rfl rfl dX4_isUnlike_1 ?_
  refine lv_iload_n hx hb dX4_isUnlike_4 rfl (lv_at hl 1 rfl) ?_
  refine lv_iload_n hx hb dX4_isUnlike_5 rfl (lv_at hl 2 rfl) ?_
  refine lv_iconst (v := i32 (1)) hx hb dX4_isUnlike_6 rfl ?_
  refine q_isub hx hb dX4_isUnlike_7 ?_
  refine lv_iload_n hx hb dX4_isUnlike_8 rfl (lv_at hl 3 rfl) ?_
  refine q_callS hx hb hml hl.1 hown hK hZ hP hS (c_X4_at l g base ad S x (c - 1) r ) t_841 (q_callB hK 840 36 842 t_840 t_36 t_842 f_yX4_at ⟨by decide, by decide⟩) rfl rfl (Nat.le_of_ble_eq_true rfl) dX4_isUnlike_9 ⟨by decide, by decide⟩  (q_an (fun H locs hP hS => ?_))
  refine p_iald (k := 0) (r := 25) (n := 4800) hx hb hK hP hw.al rfl rfl (by decide) (by decide) (by omega) (by omega) dX4_isUnlike_12 ?_
  refine lv_aload_n hx hb dX4_isUnlike_13 rfl (lv_at hl 0 rfl) ?_
  refine p_get (k := 0) hx hb hown hK hP hw.al rfl rfl rfl (lay_X4 hK) 24 722 (by decide) t_722 rfl rfl dX4_isUnlike_14 ?_
  refine lv_iload_n hx hb dX4_isUnlike_17 rfl (lv_at hl 1 rfl) ?_
  refine lv_iload_n hx hb dX4_isUnlike_18 rfl (lv_at hl 2 rfl) ?_
  refine lv_iload_n hx hb dX4_isUnlike_19 rfl (lv_at hl 3 rfl) ?_
  refine q_callS hx hb hml hl.1 hown hK hZ hP hS (c_X4_at l g base ad S x c r ) t_841 (q_callB hK 840 36 842 t_840 t_36 t_842 f_yX4_at ⟨by decide, by decide⟩) rfl rfl (Nat.le_of_ble_eq_true rfl) dX4_isUnlike_20 ⟨by decide, by decide⟩  (q_an (fun H locs hP hS => ?_))
  refine p_iald (k := 0) (r := 25) (n := 4800) hx hb hK hP hw.al rfl rfl (by decide) (by decide) (by omega) (by omega) dX4_isUnlike_23 ?_
  have J32 : ∀ (H : Heap) (locs : List Loc), pic g base ad S H → va_S (fun q => base ≤ q) s.heap H locs → W p l e ({ frames := 1, cells := 0, slots := 0, locals := 22 } : Room) s m av below meth cz H locs 0 0 Qm (F0 m 32 ls (Value.int (i32 (b2 (((S 0 25 (240 * x + 10 * (c - 1) + r)) ≠ (S 0 25 (240 * x + 10 * c + r)))))) :: [])) := by
    intro H locs hP hS
    refine q_nm (b2_c (show (((S 0 25 (240 * x + 10 * (c - 1) + r)) ≠ (S 0 25 (240 * x + 10 * c + r)))) ↔ (S 0 25 (240 * x + 10 * (c - 1) + r) ≠ S 0 25 (240 * x + 10 * c + r)) from by first | omega | (simp only [*]; done) | simp_all)) ?_
    subst hQm
    exact q_zret hx hb hr hlocks hP hS (b2_01 _) ⟨rfl, rfl, rfl⟩ (by decide) (by decide) dX4_isUnlike_32
  refine q_icmp_eq (tgt := 31) hx hb (hP.rg _ _ _) (hP.rg _ _ _) dX4_isUnlike_24 (by decide) (fun c_1 => ?_) (fun c_1 => ?_)
  · -- (S 0 25 (240 * x + 10 * (c - 1) + r)) = (S 0 25 (240 * x + 10 * c + r))
    refine lv_iconst (v := i32 (0)) hx hb dX4_isUnlike_31 rfl ?_
    refine q_nm (b2_f (show ¬ (((S 0 25 (240 * x + 10 * (c - 1) + r)) ≠ (S 0 25 (240 * x + 10 * c + r)))) from by first | omega | (simp only [*]; done) | simp_all)).symm ?_
    exact J32 _ _ hP hS
  · -- (S 0 25 (240 * x + 10 * (c - 1) + r)) ≠ (S 0 25 (240 * x + 10 * c + r))
    refine lv_iconst (v := i32 (1)) hx hb dX4_isUnlike_27 rfl ?_
    refine lv_goto (tgt := 32) hx hb dX4_isUnlike_28 (by decide) ?_
    refine q_nm (b2_t (show ((S 0 25 (240 * x + 10 * (c - 1) + r)) ≠ (S 0 25 (240 * x + 10 * c + r))) from by first | omega | (simp only [*]; done) | simp_all)).symm ?_
    exact J32 _ _ hP hS

set_option maxHeartbeats 4000000 in
set_option maxRecDepth 100000 in
theorem c_X4_isSlit (l : Launch) (g : GT) (base : Nat) (ad : Nat → Nat → Nat) (S : St) (x c : Int) (hw : wM S) (hxx : 0 ≤ x ∧ x < 20) (hcc : 1 ≤ c ∧ c < 24) : Met l yX4_isSlit [Cond.code yX4_isSlit cX4_isSlit 6 (some FieldType.boolean)] ({ frames := 2, cells := 0, slots := 0, locals := 45 }) (va_Pc [.ref (ad 0 0), .int (i32 (x)), .int (i32 (c))] (PK g base ad S)) (gQ g base (an (some (.int (i32 (b2 (slM S x c))))) ad S)) 0 0 (fun q => base ≤ q) := by
  refine mk_m (own := RX4) (lv0 := [(0, .ref (ad 0 0)), (1, .int (i32 (x))), (2, .int (i32 (c)))]) (by decide) rfl (Nat.le_of_ble_eq_true rfl) rfl ?_
  intro p e s m below meth cz av Qm hx hb hr hml hown hlocks hK hZ hP hQm ls hl
  have hS : va_S (fun q => base ≤ q) s.heap s.heap [] := va_S.rf
  have rS : ∀ (a1 b1 : Nat) (i1 : Int), rng (S a1 b1 i1) := fun a1 b1 i1 => hP.rg a1 b1 i1
  obtain ⟨hx0, hx1⟩ := id hxx
  obtain ⟨hc1, hc2, hr1, hr2, hv1, hv2, hd1, hd2⟩ := hw.pc x hx0 hx1
  refine lv_iconst (v := i32 (0)) hx hb dX4_isSlit_0 rfl ?_
  refine lv_istore_n (lv' := [(3, .int (i32 (0))), (0, .ref (ad 0 0)), (1, .int (i32 (x))), (2, .int (i32 (c)))]) hx hb dX4_isSlit_1 rfl hl (by decide) rfl (fun ls hl => ?_)
  refine lv_iconst (v := i32 (0)) hx hb dX4_isSlit_2 rfl ?_
  refine lv_istore (lv' := [(4, .int (i32 (0))), (3, .int (i32 (0))), (0, .ref (ad 0 0)), (1, .int (i32 (x))), (2, .int (i32 (c)))]) hx hb dX4_isSlit_3 hl (by decide) rfl (fun ls hl => ?_)
  refine lv_iconst (v := i32 (0)) hx hb dX4_isSlit_5 rfl ?_
  refine lv_istore (lv' := [(5, .int (i32 (0))), (4, .int (i32 (0))), (3, .int (i32 (0))), (0, .ref (ad 0 0)), (1, .int (i32 (x))), (2, .int (i32 (c)))]) hx hb dX4_isSlit_6 hl (by decide) rfl (fun ls hl => ?_)
  have L8 : ∀ (k : Nat) (many is1 i : Int) (H : Heap) (locs : List Loc) (ls : Array Slot), (0 ≤ i ∧ i ≤ S 0 17 x) → (0 ≤ many ∧ many ≤ i) → (many = rl (unM S x c) i.toNat) → (is1 = b2 (∃ j, 0 ≤ j ∧ j < i ∧ rl (unM S x c) (j + 1).toNat = 3)) → S 0 17 x - i < (k : Int) → pic g base ad S H → va_S (fun q => base ≤ q) s.heap H locs → lv_has ls 6 [(5, .int (i32 (i))), (4, .int (i32 (is1))), (3, .int (i32 (many))), (0, .ref (ad 0 0)), (1, .int (i32 (x))), (2, .int (i32 (c)))] → W p l e ({ frames := 2, cells := 0, slots := 0, locals := 45 } : Room) s m av below meth cz H locs 0 0 Qm (F0 m 8 ls []) := by
    intro k
    induction k with
    | zero => intro many is1 i H locs ls hi hmb hm his hmu _ _ _; exact absurd hmu (by omega)
    | succ k ih8 =>
      intro many is1 i H locs ls hi hmb hm his hmu hP hS hl
      refine lv_iload hx hb dX4_isSlit_8 (lv_at hl 0 rfl) ?_
      refine lv_aload_n hx hb dX4_isSlit_10 rfl (lv_at hl 3 rfl) ?_
      refine p_get (k := 0) hx hb hown hK hP hw.al rfl rfl rfl (lay_X4 hK) 16 714 (by decide) t_714 rfl rfl dX4_isSlit_11 ?_
      refine lv_iload_n hx hb dX4_isSlit_14 rfl (lv_at hl 4 rfl) ?_
      refine p_iald (k := 0) (r := 17) (n := 20) hx hb hK hP hw.al rfl rfl (by decide) (by decide) (by omega) (by omega) dX4_isSlit_15 ?_
      refine q_icmp_ge (tgt := 61) hx hb ⟨by omega, by omega⟩ (hP.rg _ _ _) dX4_isSlit_16 (by decide) (fun c_1 => ?_) (fun c_1 => ?_)
      · -- (S 0 17 x) ≤ i
        refine lv_iload hx hb dX4_isSlit_61 (lv_at hl 1 rfl) ?_
        have J85 : ∀ (H : Heap) (locs : List Loc), pic g base ad S H → va_S (fun q => base ≤ q) s.heap H locs → W p l e ({ frames := 2, cells := 0, slots := 0, locals := 45 } : Room) s m av below meth cz H locs 0 0 Qm (F0 m 85 ls (Value.int (i32 (b2 ((is1 ≠ 0) ∧ ((S 0 24 ((24 * x) + c)) = 0)))) :: [])) := by
          intro H locs hP hS
          refine q_nm (b2_c (show ((is1 ≠ 0) ∧ ((S 0 24 ((24 * x) + c)) = 0)) ↔ (slM S x c) from by have ei : i = S 0 17 x := (by omega); rw [ei] at his; exact and_congr (b2_n his) Iff.rfl)) ?_
          subst hQm
          exact q_zret hx hb hr hlocks hP hS (b2_01 _) ⟨rfl, rfl, rfl⟩ (by decide) (by decide) dX4_isSlit_85
        refine q_if_eq (tgt := 84) hx hb (his ▸ b2_rng _) dX4_isSlit_63 (by decide) (fun c_2 => ?_) (fun c_2 => ?_)
        · -- is1 = 0
          refine lv_iconst (v := i32 (0)) hx hb dX4_isSlit_84 rfl ?_
          refine q_nm (b2_f (show ¬ ((is1 ≠ 0) ∧ ((S 0 24 ((24 * x) + c)) = 0)) from by first | omega | (simp only [*]; done) | simp_all)).symm ?_
          exact J85 _ _ hP hS
        · -- is1 ≠ 0
          refine lv_aload_n hx hb dX4_isSlit_66 rfl (lv_at hl 3 rfl) ?_
          refine p_get (k := 0) hx hb hown hK hP hw.al rfl rfl rfl (lay_X4 hK) 23 721 (by decide) t_721 rfl rfl dX4_isSlit_67 ?_
          refine lv_bipush (v := i32 (24)) hx hb dX4_isSlit_70 (by decide) ?_
          refine lv_iload_n hx hb dX4_isSlit_72 rfl (lv_at hl 4 rfl) ?_
          refine q_imul hx hb dX4_isSlit_73 ?_
          refine lv_iload_n hx hb dX4_isSlit_74 rfl (lv_at hl 5 rfl) ?_
          refine q_iadd hx hb dX4_isSlit_75 ?_
          refine p_zald (k := 0) (r := 24) (n := 480) hx hb hK hP hw.al rfl rfl (by decide) (by decide) (by omega) (by omega) dX4_isSlit_76 ?_
          refine q_if_ne (tgt := 84) hx hb (hP.rg _ _ _) dX4_isSlit_77 (by decide) (fun c_3 => ?_) (fun c_3 => ?_)
          · -- (S 0 24 ((24 * x) + c)) ≠ 0
            refine lv_iconst (v := i32 (0)) hx hb dX4_isSlit_84 rfl ?_
            refine q_nm (b2_f (show ¬ ((is1 ≠ 0) ∧ ((S 0 24 ((24 * x) + c)) = 0)) from by first | omega | (simp only [*]; done) | simp_all)).symm ?_
            exact J85 _ _ hP hS
          · -- (S 0 24 ((24 * x) + c)) = 0
            refine lv_iconst (v := i32 (1)) hx hb dX4_isSlit_80 rfl ?_
            refine lv_goto (tgt := 85) hx hb dX4_isSlit_81 (by decide) ?_
            refine q_nm (b2_t (show (is1 ≠ 0) ∧ ((S 0 24 ((24 * x) + c)) = 0) from by first | omega | (simp only [*]; done) | simp_all)).symm ?_
            exact J85 _ _ hP hS
      · -- i < (S 0 17 x)
        refine lv_aload_n hx hb dX4_isSlit_19 rfl (lv_at hl 3 rfl) ?_
        refine lv_iload_n hx hb dX4_isSlit_20 rfl (lv_at hl 4 rfl) ?_
        refine lv_iload_n hx hb dX4_isSlit_21 rfl (lv_at hl 5 rfl) ?_
        refine lv_iload hx hb dX4_isSlit_22 (lv_at hl 0 rfl) ?_
        refine q_callV (k := 0) hx hb hml hl.1 hown hK hZ hP hS hw.al rfl rfl rfl (c_X4_isUnlike l g base ad S x c i hw (by omega) (by omega) (by omega)) t_897 t_27 (q_callB hK 895 36 898 t_895 t_36 t_898 f_yX4_isUnlike ⟨by decide, by decide⟩) rfl rfl (Nat.le_of_ble_eq_true rfl) dX4_isSlit_24 ⟨by decide, by decide⟩  (q_an (fun H locs hP hS => ?_))
        have J37 : ∀ (b37 : Int) (H : Heap) (locs : List Loc), (((¬ (S 0 25 (240 * x + 10 * (c - 1) + i) ≠ S 0 25 (240 * x + 10 * c + i))) ∧ b37 = 0) ∨ ((S 0 25 (240 * x + 10 * (c - 1) + i) ≠ S 0 25 (240 * x + 10 * c + i)) ∧ b37 = many + 1)) → pic g base ad S H → va_S (fun q => base ≤ q) s.heap H locs → W p l e ({ frames := 2, cells := 0, slots := 0, locals := 45 } : Room) s m av below meth cz H locs 0 0 Qm (F0 m 37 ls (Value.int (i32 b37) :: [])) := by
          intro b37 H locs hb37 hP hS
          refine lv_istore_n (lv' := [(3, .int (i32 (b37))), (5, .int (i32 (i))), (4, .int (i32 (is1))), (0, .ref (ad 0 0)), (1, .int (i32 (x))), (2, .int (i32 (c)))]) hx hb dX4_isSlit_37 rfl hl (by decide) rfl (fun ls hl => ?_)
          refine lv_iload hx hb dX4_isSlit_38 (lv_at hl 2 rfl) ?_
          have J53 : ∀ (H : Heap) (locs : List Loc), pic g base ad S H → va_S (fun q => base ≤ q) s.heap H locs → W p l e ({ frames := 2, cells := 0, slots := 0, locals := 45 } : Room) s m av below meth cz H locs 0 0 Qm (F0 m 53 ls (Value.int (i32 (b2 (((is1 ≠ 0)) ∨ ((is1 = 0) ∧ (b37 = 3))))) :: [])) := by
            intro H locs hP hS
            refine lv_istore (lv' := [(4, .int (i32 (b2 (((is1 ≠ 0)) ∨ ((is1 = 0) ∧ (b37 = 3)))))), (3, .int (i32 (b37))), (5, .int (i32 (i))), (0, .ref (ad 0 0)), (1, .int (i32 (x))), (2, .int (i32 (c)))]) hx hb dX4_isSlit_53 hl (by decide) rfl (fun ls hl => ?_)
            refine lv_iinc (v := i32 (i + 1)) (lv' := [(5, .int (i32 (i + 1))), (4, .int (i32 (b2 (((is1 ≠ 0)) ∨ ((is1 = 0) ∧ (b37 = 3)))))), (3, .int (i32 (b37))), (0, .ref (ad 0 0)), (1, .int (i32 (x))), (2, .int (i32 (c)))]) hx hb dX4_isSlit_55 hl (k := 2) rfl (i32_add _ _) (by decide) rfl (fun ls hl => ?_)
            refine lv_goto (tgt := 8) hx hb dX4_isSlit_58 (by decide) ?_
            have e37 : b37 = rl (unM S x c) (i + 1).toNat := by
              rcases hb37 with ⟨h1, h2⟩ | ⟨h1, h2⟩
              · rw [h2, rl_f _ hi.1 (show ¬ unM S x c i from h1)]
              · rw [h2, rl_t _ hi.1 (show unM S x c i from h1), ← hm]
            exact ih8 b37 (b2 (((is1 ≠ 0)) ∨ ((is1 = 0) ∧ (b37 = 3)))) (i + 1) _ _ _ (by omega) (by omega) (by exact e37) (by refine b2_c (Iff.trans ?_ (ex_s hi.1).symm); rw [← b2_n his, ← e37]; omega) (by omega) hP hS (lv_sub hl [0, 1, 2, 3, 4, 5] rfl)
          refine q_if_ne (tgt := 48) hx hb (his ▸ b2_rng _) dX4_isSlit_40 (by decide) (fun c_4 => ?_) (fun c_4 => ?_)
          · -- is1 ≠ 0
            refine lv_iconst (v := i32 (1)) hx hb dX4_isSlit_48 rfl ?_
            refine lv_goto (tgt := 53) hx hb dX4_isSlit_49 (by decide) ?_
            refine q_nm (b2_t (show ((is1 ≠ 0)) ∨ ((is1 = 0) ∧ (b37 = 3)) from by first | omega | (simp only [*]; done) | simp_all)).symm ?_
            exact J53 _ _ hP hS
          · -- is1 = 0
            refine lv_iload_n hx hb dX4_isSlit_43 rfl (lv_at hl 0 rfl) ?_
            refine lv_iconst (v := i32 (3)) hx hb dX4_isSlit_44 rfl ?_
            refine q_icmp_ne (tgt := 52) hx hb ⟨by omega, by omega⟩ ⟨by decide, by decide⟩ dX4_isSlit_45 (by decide) (fun c_5 => ?_) (fun c_5 => ?_)
            · -- b37 ≠ 3
              refine lv_iconst (v := i32 (0)) hx hb dX4_isSlit_52 rfl ?_
              refine q_nm (b2_f (show ¬ (((is1 ≠ 0)) ∨ ((is1 = 0) ∧ (b37 = 3))) from by first | omega | (simp only [*]; done) | simp_all)).symm ?_
              exact J53 _ _ hP hS
            · -- b37 = 3
              refine lv_iconst (v := i32 (1)) hx hb dX4_isSlit_48 rfl ?_
              refine lv_goto (tgt := 53) hx hb dX4_isSlit_49 (by decide) ?_
              refine q_nm (b2_t (show ((is1 ≠ 0)) ∨ ((is1 = 0) ∧ (b37 = 3)) from by first | omega | (simp only [*]; done) | simp_all)).symm ?_
              exact J53 _ _ hP hS
        refine q_if_eqb (tgt := 36) hx hb dX4_isSlit_27 (by decide) (fun c_6 => ?_) (fun c_6 => ?_)
        · -- ¬ (S 0 25 (240 * x + 10 * (c - 1) + i) ≠ S 0 25 (240 * x + 10 * c + i))
          refine lv_iconst (v := i32 (0)) hx hb dX4_isSlit_36 rfl ?_
          exact J37 _ _ _ (by first | omega | (simp only [*]; done) | simp_all) hP hS
        · -- S 0 25 (240 * x + 10 * (c - 1) + i) ≠ S 0 25 (240 * x + 10 * c + i)
          refine lv_iload_n hx hb dX4_isSlit_30 rfl (lv_at hl 2 rfl) ?_
          refine lv_iconst (v := i32 (1)) hx hb dX4_isSlit_31 rfl ?_
          refine q_iadd hx hb dX4_isSlit_32 ?_
          refine lv_goto (tgt := 37) hx hb dX4_isSlit_33 (by decide) ?_
          exact J37 _ _ _ (by first | omega | (simp only [*]; done) | simp_all) hP hS
  exact L8 ((S 0 17 x - 0) + 1).toNat 0 0 0 _ _ _ (by omega) (by omega) (by rfl) (by exact (b2_f (fun ⟨j, h0, h1, _⟩ => absurd h1 (by omega))).symm) (by omega) hP hS (lv_sub hl [0, 1, 2, 3, 4, 5] rfl)

set_option maxHeartbeats 4000000 in
set_option maxRecDepth 100000 in
theorem c_X4_shades (l : Launch) (g : GT) (base : Nat) (ad : Nat → Nat → Nat) (S : St) (x : Int) (hw : wM S) (hxx : 0 ≤ x ∧ x < 20) (hrw : 1 ≤ S 0 17 x) : Met l yX4_shades [Cond.code yX4_shades cX4_shades 4 (some FieldType.int)] ({ frames := 1, cells := 0, slots := 0, locals := 22 }) (va_Pc [.ref (ad 0 0), .int (i32 (x))] (PK g base ad S)) (gQ g base (an (some (.int (i32 (shM S x)))) ad S)) 0 0 (fun q => base ≤ q) := by
  refine mk_m (own := RX4) (lv0 := [(0, .ref (ad 0 0)), (1, .int (i32 (x)))]) (by decide) rfl (Nat.le_of_ble_eq_true rfl) rfl ?_
  intro p e s m below meth cz av Qm hx hb hr hml hown hlocks hK hZ hP hQm ls hl
  have hS : va_S (fun q => base ≤ q) s.heap s.heap [] := va_S.rf
  have rS : ∀ (a1 b1 : Nat) (i1 : Int), rng (S a1 b1 i1) := fun a1 b1 i1 => hP.rg a1 b1 i1
  obtain ⟨hx0, hx1⟩ := id hxx
  obtain ⟨hc1, hc2, hr1, hr2, hv1, hv2, hd1, hd2⟩ := hw.pc x hx0 hx1
  have hCR : 0 ≤ S 0 16 x * S 0 17 x := Int.mul_nonneg hc1 hr1
  have hCR2 : S 0 16 x * S 0 17 x ≤ 240 := mul240 hc1 hc2 hr1 hr2
  refine lv_iconst (v := i32 (0)) hx hb dX4_shades_0 rfl ?_
  refine lv_istore_n (lv' := [(2, .int (i32 (0))), (0, .ref (ad 0 0)), (1, .int (i32 (x)))]) hx hb dX4_shades_1 rfl hl (by decide) rfl (fun ls hl => ?_)
  refine lv_iconst (v := i32 (0)) hx hb dX4_shades_2 rfl ?_
  refine lv_istore_n (lv' := [(3, .int (i32 (0))), (2, .int (i32 (0))), (0, .ref (ad 0 0)), (1, .int (i32 (x)))]) hx hb dX4_shades_3 rfl hl (by decide) rfl (fun ls hl => ?_)
  have L4 : ∀ (k : Nat) (t n : Int) (H : Heap) (locs : List Loc) (ls : Array Slot), (0 ≤ n ∧ n ≤ S 0 16 x * S 0 17 x) → (t = sm (cM S 27 x) n.toNat) → S 0 16 x * S 0 17 x - n < (k : Int) → pic g base ad S H → va_S (fun q => base ≤ q) s.heap H locs → lv_has ls 4 [(3, .int (i32 (n))), (2, .int (i32 (t))), (0, .ref (ad 0 0)), (1, .int (i32 (x)))] → W p l e ({ frames := 1, cells := 0, slots := 0, locals := 22 } : Room) s m av below meth cz H locs 0 0 Qm (F0 m 4 ls []) := by
    intro k
    induction k with
    | zero => intro t n H locs ls hn ht hmu _ _ _; exact absurd hmu (by omega)
    | succ k ih4 =>
      intro t n H locs ls hn ht hmu hP hS hl
      refine lv_iload_n hx hb dX4_shades_4 rfl (lv_at hl 0 rfl) ?_
      refine lv_aload_n hx hb dX4_shades_5 rfl (lv_at hl 2 rfl) ?_
      refine p_get (k := 0) hx hb hown hK hP hw.al rfl rfl rfl (lay_X4 hK) 15 713 (by decide) t_713 rfl rfl dX4_shades_6 ?_
      refine lv_iload_n hx hb dX4_shades_9 rfl (lv_at hl 3 rfl) ?_
      refine p_iald (k := 0) (r := 16) (n := 20) hx hb hK hP hw.al rfl rfl (by decide) (by decide) (by omega) (by omega) dX4_shades_10 ?_
      refine lv_aload_n hx hb dX4_shades_11 rfl (lv_at hl 2 rfl) ?_
      refine p_get (k := 0) hx hb hown hK hP hw.al rfl rfl rfl (lay_X4 hK) 16 714 (by decide) t_714 rfl rfl dX4_shades_12 ?_
      refine lv_iload_n hx hb dX4_shades_15 rfl (lv_at hl 3 rfl) ?_
      refine p_iald (k := 0) (r := 17) (n := 20) hx hb hK hP hw.al rfl rfl (by decide) (by decide) (by omega) (by omega) dX4_shades_16 ?_
      refine q_imul hx hb dX4_shades_17 ?_
      refine q_icmp_ge (tgt := 55) hx hb ⟨by omega, by omega⟩ ⟨by omega, by omega⟩ dX4_shades_18 (by decide) (fun c_1 => ?_) (fun c_1 => ?_)
      · -- ((S 0 16 x) * (S 0 17 x)) ≤ n
        refine lv_iload_n hx hb dX4_shades_55 rfl (lv_at hl 1 rfl) ?_
        refine q_nm (show (t : Int) = shM S x from by rw [ht, show n = S 0 16 x * S 0 17 x from by omega]; rfl) ?_
        subst hQm
        exact q_iret hx hb hr hlocks hP hS ⟨rfl, rfl, rfl⟩ (by decide) (by decide) dX4_shades_56
      · -- n < ((S 0 16 x) * (S 0 17 x))
        refine lv_iload_n hx hb dX4_shades_21 rfl (lv_at hl 1 rfl) ?_
        refine lv_aload_n hx hb dX4_shades_22 rfl (lv_at hl 2 rfl) ?_
        obtain ⟨hd1, hd2, hd3, hd4⟩ := dmb (n := n) (C := S 0 16 x) (R := S 0 17 x) hn.1 (by omega) (by omega)
        refine p_get (k := 0) hx hb hown hK hP hw.al rfl rfl rfl (lay_X4 hK) 26 724 (by decide) t_724 rfl rfl dX4_shades_23 ?_
        refine lv_iload_n hx hb dX4_shades_26 rfl (lv_at hl 3 rfl) ?_
        refine lv_iload_n hx hb dX4_shades_27 rfl (lv_at hl 0 rfl) ?_
        refine lv_aload_n hx hb dX4_shades_28 rfl (lv_at hl 2 rfl) ?_
        refine p_get (k := 0) hx hb hown hK hP hw.al rfl rfl rfl (lay_X4 hK) 16 714 (by decide) t_714 rfl rfl dX4_shades_29 ?_
        refine lv_iload_n hx hb dX4_shades_32 rfl (lv_at hl 3 rfl) ?_
        refine p_iald (k := 0) (r := 17) (n := 20) hx hb hK hP hw.al rfl rfl (by decide) (by decide) (by omega) (by omega) dX4_shades_33 ?_
        refine q_idiv hx hb (by omega) (by omega) (by omega) (by omega) dX4_shades_34 ?_
        refine lv_iload_n hx hb dX4_shades_35 rfl (lv_at hl 0 rfl) ?_
        refine lv_aload_n hx hb dX4_shades_36 rfl (lv_at hl 2 rfl) ?_
        refine p_get (k := 0) hx hb hown hK hP hw.al rfl rfl rfl (lay_X4 hK) 16 714 (by decide) t_714 rfl rfl dX4_shades_37 ?_
        refine lv_iload_n hx hb dX4_shades_40 rfl (lv_at hl 3 rfl) ?_
        refine p_iald (k := 0) (r := 17) (n := 20) hx hb hK hP hw.al rfl rfl (by decide) (by decide) (by omega) (by omega) dX4_shades_41 ?_
        refine q_irem hx hb (by omega) (by omega) (by omega) (by omega) dX4_shades_42 ?_
        refine q_callS hx hb hml hl.1 hown hK hZ hP hS (c_X4_at l g base ad S x (n / (S 0 17 x)) (n % (S 0 17 x)) ) t_841 (q_callB hK 840 36 842 t_840 t_36 t_842 f_yX4_at ⟨by decide, by decide⟩) rfl rfl (Nat.le_of_ble_eq_true rfl) dX4_shades_43 ⟨by decide, by decide⟩  (q_an (fun H locs hP hS => ?_))
        refine p_iald (k := 0) (r := 27) (n := 4800) hx hb hK hP hw.al rfl rfl (by decide) (by decide) (by omega) (by omega) dX4_shades_46 ?_
        refine q_iadd hx hb dX4_shades_47 ?_
        refine lv_istore_n (lv' := [(2, .int (i32 (t + (S 0 27 (240 * x + 10 * (n / (S 0 17 x)) + (n % (S 0 17 x))))))), (3, .int (i32 (n))), (0, .ref (ad 0 0)), (1, .int (i32 (x)))]) hx hb dX4_shades_48 rfl hl (by decide) rfl (fun ls hl => ?_)
        refine lv_iinc (v := i32 (n + 1)) (lv' := [(3, .int (i32 (n + 1))), (2, .int (i32 (t + (S 0 27 (240 * x + 10 * (n / (S 0 17 x)) + (n % (S 0 17 x))))))), (0, .ref (ad 0 0)), (1, .int (i32 (x)))]) hx hb dX4_shades_49 hl (k := 1) rfl (i32_add _ _) (by decide) rfl (fun ls hl => ?_)
        refine lv_goto (tgt := 4) hx hb dX4_shades_52 (by decide) ?_
        exact ih4 (t + (S 0 27 (240 * x + 10 * (n / (S 0 17 x)) + (n % (S 0 17 x))))) (n + 1) _ _ _ (by omega) (by rw [sm_1 _ hn.1, ← ht]; rfl) (by omega) hP hS (lv_sub hl [0, 1, 2, 3] rfl)
  exact L4 ((S 0 16 x * S 0 17 x - 0) + 1).toNat 0 0 _ _ _ (by omega) (by rfl) (by omega) hP hS (lv_sub hl [0, 1, 2, 3] rfl)

set_option maxHeartbeats 4000000 in
set_option maxRecDepth 100000 in
theorem c_X4_wovenIn (l : Launch) (g : GT) (base : Nat) (ad : Nat → Nat → Nat) (S : St) (x : Int) (hw : wM S) (hxx : 0 ≤ x ∧ x < 20) (hrw : 1 ≤ S 0 17 x) : Met l yX4_wovenIn [Cond.code yX4_wovenIn cX4_wovenIn 4 (some FieldType.int)] ({ frames := 1, cells := 0, slots := 0, locals := 22 }) (va_Pc [.ref (ad 0 0), .int (i32 (x))] (PK g base ad S)) (gQ g base (an (some (.int (i32 (wnM S x)))) ad S)) 0 0 (fun q => base ≤ q) := by
  refine mk_m (own := RX4) (lv0 := [(0, .ref (ad 0 0)), (1, .int (i32 (x)))]) (by decide) rfl (Nat.le_of_ble_eq_true rfl) rfl ?_
  intro p e s m below meth cz av Qm hx hb hr hml hown hlocks hK hZ hP hQm ls hl
  have hS : va_S (fun q => base ≤ q) s.heap s.heap [] := va_S.rf
  have rS : ∀ (a1 b1 : Nat) (i1 : Int), rng (S a1 b1 i1) := fun a1 b1 i1 => hP.rg a1 b1 i1
  obtain ⟨hx0, hx1⟩ := id hxx
  obtain ⟨hc1, hc2, hr1, hr2, hv1, hv2, hd1, hd2⟩ := hw.pc x hx0 hx1
  have hCR : 0 ≤ S 0 16 x * S 0 17 x := Int.mul_nonneg hc1 hr1
  have hCR2 : S 0 16 x * S 0 17 x ≤ 240 := mul240 hc1 hc2 hr1 hr2
  refine lv_iconst (v := i32 (0)) hx hb dX4_wovenIn_0 rfl ?_
  refine lv_istore_n (lv' := [(2, .int (i32 (0))), (0, .ref (ad 0 0)), (1, .int (i32 (x)))]) hx hb dX4_wovenIn_1 rfl hl (by decide) rfl (fun ls hl => ?_)
  refine lv_iconst (v := i32 (0)) hx hb dX4_wovenIn_2 rfl ?_
  refine lv_istore_n (lv' := [(3, .int (i32 (0))), (2, .int (i32 (0))), (0, .ref (ad 0 0)), (1, .int (i32 (x)))]) hx hb dX4_wovenIn_3 rfl hl (by decide) rfl (fun ls hl => ?_)
  have L4 : ∀ (k : Nat) (t n : Int) (H : Heap) (locs : List Loc) (ls : Array Slot), (0 ≤ n ∧ n ≤ S 0 16 x * S 0 17 x) → (t = sm (fun n => b2 (cM S 26 x n ≠ -1)) n.toNat) → S 0 16 x * S 0 17 x - n < (k : Int) → pic g base ad S H → va_S (fun q => base ≤ q) s.heap H locs → lv_has ls 4 [(3, .int (i32 (n))), (2, .int (i32 (t))), (0, .ref (ad 0 0)), (1, .int (i32 (x)))] → W p l e ({ frames := 1, cells := 0, slots := 0, locals := 22 } : Room) s m av below meth cz H locs 0 0 Qm (F0 m 4 ls []) := by
    intro k
    induction k with
    | zero => intro t n H locs ls hn ht hmu _ _ _; exact absurd hmu (by omega)
    | succ k ih4 =>
      intro t n H locs ls hn ht hmu hP hS hl
      refine lv_iload_n hx hb dX4_wovenIn_4 rfl (lv_at hl 0 rfl) ?_
      refine lv_aload_n hx hb dX4_wovenIn_5 rfl (lv_at hl 2 rfl) ?_
      refine p_get (k := 0) hx hb hown hK hP hw.al rfl rfl rfl (lay_X4 hK) 15 713 (by decide) t_713 rfl rfl dX4_wovenIn_6 ?_
      refine lv_iload_n hx hb dX4_wovenIn_9 rfl (lv_at hl 3 rfl) ?_
      refine p_iald (k := 0) (r := 16) (n := 20) hx hb hK hP hw.al rfl rfl (by decide) (by decide) (by omega) (by omega) dX4_wovenIn_10 ?_
      refine lv_aload_n hx hb dX4_wovenIn_11 rfl (lv_at hl 2 rfl) ?_
      refine p_get (k := 0) hx hb hown hK hP hw.al rfl rfl rfl (lay_X4 hK) 16 714 (by decide) t_714 rfl rfl dX4_wovenIn_12 ?_
      refine lv_iload_n hx hb dX4_wovenIn_15 rfl (lv_at hl 3 rfl) ?_
      refine p_iald (k := 0) (r := 17) (n := 20) hx hb hK hP hw.al rfl rfl (by decide) (by decide) (by omega) (by omega) dX4_wovenIn_16 ?_
      refine q_imul hx hb dX4_wovenIn_17 ?_
      refine q_icmp_ge (tgt := 64) hx hb ⟨by omega, by omega⟩ ⟨by omega, by omega⟩ dX4_wovenIn_18 (by decide) (fun c_1 => ?_) (fun c_1 => ?_)
      · -- ((S 0 16 x) * (S 0 17 x)) ≤ n
        refine lv_iload_n hx hb dX4_wovenIn_64 rfl (lv_at hl 1 rfl) ?_
        refine q_nm (show (t : Int) = wnM S x from by rw [ht, show n = S 0 16 x * S 0 17 x from by omega]; rfl) ?_
        subst hQm
        exact q_iret hx hb hr hlocks hP hS ⟨rfl, rfl, rfl⟩ (by decide) (by decide) dX4_wovenIn_65
      · -- n < ((S 0 16 x) * (S 0 17 x))
        refine lv_iload_n hx hb dX4_wovenIn_21 rfl (lv_at hl 1 rfl) ?_
        refine lv_aload_n hx hb dX4_wovenIn_22 rfl (lv_at hl 2 rfl) ?_
        obtain ⟨hd1, hd2, hd3, hd4⟩ := dmb (n := n) (C := S 0 16 x) (R := S 0 17 x) hn.1 (by omega) (by omega)
        refine p_get (k := 0) hx hb hown hK hP hw.al rfl rfl rfl (lay_X4 hK) 25 723 (by decide) t_723 rfl rfl dX4_wovenIn_23 ?_
        refine lv_iload_n hx hb dX4_wovenIn_26 rfl (lv_at hl 3 rfl) ?_
        refine lv_iload_n hx hb dX4_wovenIn_27 rfl (lv_at hl 0 rfl) ?_
        refine lv_aload_n hx hb dX4_wovenIn_28 rfl (lv_at hl 2 rfl) ?_
        refine p_get (k := 0) hx hb hown hK hP hw.al rfl rfl rfl (lay_X4 hK) 16 714 (by decide) t_714 rfl rfl dX4_wovenIn_29 ?_
        refine lv_iload_n hx hb dX4_wovenIn_32 rfl (lv_at hl 3 rfl) ?_
        refine p_iald (k := 0) (r := 17) (n := 20) hx hb hK hP hw.al rfl rfl (by decide) (by decide) (by omega) (by omega) dX4_wovenIn_33 ?_
        refine q_idiv hx hb (by omega) (by omega) (by omega) (by omega) dX4_wovenIn_34 ?_
        refine lv_iload_n hx hb dX4_wovenIn_35 rfl (lv_at hl 0 rfl) ?_
        refine lv_aload_n hx hb dX4_wovenIn_36 rfl (lv_at hl 2 rfl) ?_
        refine p_get (k := 0) hx hb hown hK hP hw.al rfl rfl rfl (lay_X4 hK) 16 714 (by decide) t_714 rfl rfl dX4_wovenIn_37 ?_
        refine lv_iload_n hx hb dX4_wovenIn_40 rfl (lv_at hl 3 rfl) ?_
        refine p_iald (k := 0) (r := 17) (n := 20) hx hb hK hP hw.al rfl rfl (by decide) (by decide) (by omega) (by omega) dX4_wovenIn_41 ?_
        refine q_irem hx hb (by omega) (by omega) (by omega) (by omega) dX4_wovenIn_42 ?_
        refine q_callS hx hb hml hl.1 hown hK hZ hP hS (c_X4_at l g base ad S x (n / (S 0 17 x)) (n % (S 0 17 x)) ) t_841 (q_callB hK 840 36 842 t_840 t_36 t_842 f_yX4_at ⟨by decide, by decide⟩) rfl rfl (Nat.le_of_ble_eq_true rfl) dX4_wovenIn_43 ⟨by decide, by decide⟩  (q_an (fun H locs hP hS => ?_))
        refine p_iald (k := 0) (r := 26) (n := 4800) hx hb hK hP hw.al rfl rfl (by decide) (by decide) (by omega) (by omega) dX4_wovenIn_46 ?_
        refine lv_iconst (v := i32 (-1)) hx hb dX4_wovenIn_47 rfl ?_
        have J56 : ∀ (H : Heap) (locs : List Loc), pic g base ad S H → va_S (fun q => base ≤ q) s.heap H locs → W p l e ({ frames := 1, cells := 0, slots := 0, locals := 22 } : Room) s m av below meth cz H locs 0 0 Qm (F0 m 56 ls (Value.int (i32 (b2 (((S 0 26 (240 * x + 10 * (n / (S 0 17 x)) + (n % (S 0 17 x)))) ≠ (-1))))) :: Value.int (i32 (t)) :: [])) := by
          intro H locs hP hS
          refine q_iadd hx hb dX4_wovenIn_56 ?_
          refine lv_istore_n (lv' := [(2, .int (i32 (t + (b2 (((S 0 26 (240 * x + 10 * (n / (S 0 17 x)) + (n % (S 0 17 x)))) ≠ (-1))))))), (3, .int (i32 (n))), (0, .ref (ad 0 0)), (1, .int (i32 (x)))]) hx hb dX4_wovenIn_57 rfl hl (by decide) rfl (fun ls hl => ?_)
          refine lv_iinc (v := i32 (n + 1)) (lv' := [(3, .int (i32 (n + 1))), (2, .int (i32 (t + (b2 (((S 0 26 (240 * x + 10 * (n / (S 0 17 x)) + (n % (S 0 17 x)))) ≠ (-1))))))), (0, .ref (ad 0 0)), (1, .int (i32 (x)))]) hx hb dX4_wovenIn_58 hl (k := 1) rfl (i32_add _ _) (by decide) rfl (fun ls hl => ?_)
          refine lv_goto (tgt := 4) hx hb dX4_wovenIn_61 (by decide) ?_
          exact ih4 (t + (b2 (((S 0 26 (240 * x + 10 * (n / (S 0 17 x)) + (n % (S 0 17 x)))) ≠ (-1))))) (n + 1) _ _ _ (by omega) (by rw [sm_1 _ hn.1, ← ht]; rfl) (by omega) hP hS (lv_sub hl [0, 1, 2, 3] rfl)
        refine q_icmp_eq (tgt := 55) hx hb (hP.rg _ _ _) ⟨by decide, by decide⟩ dX4_wovenIn_48 (by decide) (fun c_2 => ?_) (fun c_2 => ?_)
        · -- (S 0 26 (240 * x + 10 * (n / (S 0 17 x)) + (n % (S 0 17 x)))) = (-1)
          refine lv_iconst (v := i32 (0)) hx hb dX4_wovenIn_55 rfl ?_
          refine q_nm (b2_f (show ¬ (((S 0 26 (240 * x + 10 * (n / (S 0 17 x)) + (n % (S 0 17 x)))) ≠ (-1))) from by first | omega | (simp only [*]; done) | simp_all)).symm ?_
          exact J56 _ _ hP hS
        · -- (S 0 26 (240 * x + 10 * (n / (S 0 17 x)) + (n % (S 0 17 x)))) ≠ (-1)
          refine lv_iconst (v := i32 (1)) hx hb dX4_wovenIn_51 rfl ?_
          refine lv_goto (tgt := 56) hx hb dX4_wovenIn_52 (by decide) ?_
          refine q_nm (b2_t (show ((S 0 26 (240 * x + 10 * (n / (S 0 17 x)) + (n % (S 0 17 x)))) ≠ (-1)) from by first | omega | (simp only [*]; done) | simp_all)).symm ?_
          exact J56 _ _ hP hS
  exact L4 ((S 0 16 x * S 0 17 x - 0) + 1).toNat 0 0 _ _ _ (by omega) (by rfl) (by omega) hP hS (lv_sub hl [0, 1, 2, 3] rfl)

set_option maxHeartbeats 4000000 in
set_option maxRecDepth 100000 in
theorem c_X4_wovenOf (l : Launch) (g : GT) (base : Nat) (ad : Nat → Nat → Nat) (S : St) (its : Int) (hw : wM S) (hrn : rng its) : Met l yX4_wovenOf [Cond.code yX4_wovenOf cX4_wovenOf 5 (some FieldType.int)] ({ frames := 1, cells := 0, slots := 0, locals := 22 }) (va_Pc [.ref (ad 0 0), .int (i32 (its))] (PK g base ad S)) (gQ g base (an (some (.int (i32 (woM S its)))) ad S)) 0 0 (fun q => base ≤ q) := by
  refine mk_m (own := RX4) (lv0 := [(0, .ref (ad 0 0)), (1, .int (i32 (its)))]) (by decide) rfl (Nat.le_of_ble_eq_true rfl) rfl ?_
  intro p e s m below meth cz av Qm hx hb hr hml hown hlocks hK hZ hP hQm ls hl
  have hS : va_S (fun q => base ≤ q) s.heap s.heap [] := va_S.rf
  have rS : ∀ (a1 b1 : Nat) (i1 : Int), rng (S a1 b1 i1) := fun a1 b1 i1 => hP.rg a1 b1 i1
  obtain ⟨hz1, hz2⟩ := id hrn
  obtain ⟨hp1, hp2⟩ := hw.ps
  refine lv_iconst (v := i32 (0)) hx hb dX4_wovenOf_0 rfl ?_
  refine lv_istore_n (lv' := [(2, .int (i32 (0))), (0, .ref (ad 0 0)), (1, .int (i32 (its)))]) hx hb dX4_wovenOf_1 rfl hl (by decide) rfl (fun ls hl => ?_)
  refine lv_iconst (v := i32 (0)) hx hb dX4_wovenOf_2 rfl ?_
  refine lv_istore_n (lv' := [(3, .int (i32 (0))), (2, .int (i32 (0))), (0, .ref (ad 0 0)), (1, .int (i32 (its)))]) hx hb dX4_wovenOf_3 rfl hl (by decide) rfl (fun ls hl => ?_)
  have L4 : ∀ (k : Nat) (t x : Int) (H : Heap) (locs : List Loc) (ls : Array Slot), (0 ≤ x ∧ x ≤ S 0 0 14) → (t = sm (wpM S its) x.toNat) → S 0 0 14 - x < (k : Int) → pic g base ad S H → va_S (fun q => base ≤ q) s.heap H locs → lv_has ls 5 [(3, .int (i32 (x))), (2, .int (i32 (t))), (0, .ref (ad 0 0)), (1, .int (i32 (its)))] → W p l e ({ frames := 1, cells := 0, slots := 0, locals := 22 } : Room) s m av below meth cz H locs 0 0 Qm (F0 m 4 ls []) := by
    intro k
    induction k with
    | zero => intro t x H locs ls hi ht hmu _ _ _; exact absurd hmu (by omega)
    | succ k ih4 =>
      intro t x H locs ls hi ht hmu hP hS hl
      refine lv_iload_n hx hb dX4_wovenOf_4 rfl (lv_at hl 0 rfl) ?_
      refine lv_aload_n hx hb dX4_wovenOf_5 rfl (lv_at hl 2 rfl) ?_
      refine p_get (k := 0) hx hb hown hK hP hw.al rfl rfl rfl (lay_X4 hK) 14 712 (by decide) t_712 rfl rfl dX4_wovenOf_6 ?_
      refine q_icmp_ge (tgt := 93) hx hb ⟨by omega, by omega⟩ (hP.rg _ _ _) dX4_wovenOf_9 (by decide) (fun c_1 => ?_) (fun c_1 => ?_)
      · -- (S 0 0 14) ≤ x
        refine lv_iload_n hx hb dX4_wovenOf_93 rfl (lv_at hl 1 rfl) ?_
        refine q_nm (show (t : Int) = woM S its from by rw [ht, show x = S 0 0 14 from by omega]; rfl) ?_
        subst hQm
        exact q_iret hx hb hr hlocks hP hS ⟨rfl, rfl, rfl⟩ (by decide) (by decide) dX4_wovenOf_94
      · -- x < (S 0 0 14)
        obtain ⟨hc1, hc2, hr1, hr2, hv1, hv2, hd1, hd2⟩ := hw.pc x (by omega) (by omega)
        have hrw := hw.pr x hi.1 (by omega)
        have hCR : 0 ≤ S 0 16 x * S 0 17 x := Int.mul_nonneg hc1 hr1
        have hCR2 : S 0 16 x * S 0 17 x ≤ 240 := mul240 hc1 hc2 hr1 hr2
        refine lv_iconst (v := i32 (0)) hx hb dX4_wovenOf_12 rfl ?_
        refine lv_istore (lv' := [(4, .int (i32 (0))), (3, .int (i32 (x))), (2, .int (i32 (t))), (0, .ref (ad 0 0)), (1, .int (i32 (its)))]) hx hb dX4_wovenOf_13 hl (by decide) rfl (fun ls hl => ?_)
        have L15 : ∀ (k : Nat) (u n : Int) (H : Heap) (locs : List Loc) (ls : Array Slot), (0 ≤ n ∧ n ≤ S 0 16 x * S 0 17 x) → (S 0 19 x ≠ 0 → n = 0) → (u = t + sm (fun n => b2 (cM S 26 x n = its)) n.toNat) → S 0 16 x * S 0 17 x - n < (k : Int) → pic g base ad S H → va_S (fun q => base ≤ q) s.heap H locs → lv_has ls 5 [(4, .int (i32 (n))), (3, .int (i32 (x))), (2, .int (i32 (u))), (0, .ref (ad 0 0)), (1, .int (i32 (its)))] → W p l e ({ frames := 1, cells := 0, slots := 0, locals := 22 } : Room) s m av below meth cz H locs 0 0 Qm (F0 m 15 ls []) := by
          intro k
          induction k with
          | zero => intro u n H locs ls hn hg hu hmu _ _ _; exact absurd hmu (by omega)
          | succ k ih15 =>
            intro u n H locs ls hn hg hu hmu hP hS hl
            refine lv_iload hx hb dX4_wovenOf_15 (lv_at hl 0 rfl) ?_
            refine lv_aload_n hx hb dX4_wovenOf_17 rfl (lv_at hl 3 rfl) ?_
            refine p_get (k := 0) hx hb hown hK hP hw.al rfl rfl rfl (lay_X4 hK) 15 713 (by decide) t_713 rfl rfl dX4_wovenOf_18 ?_
            refine lv_iload_n hx hb dX4_wovenOf_21 rfl (lv_at hl 1 rfl) ?_
            refine p_iald (k := 0) (r := 16) (n := 20) hx hb hK hP hw.al rfl rfl (by decide) (by decide) (by omega) (by omega) dX4_wovenOf_22 ?_
            refine lv_aload_n hx hb dX4_wovenOf_23 rfl (lv_at hl 3 rfl) ?_
            refine p_get (k := 0) hx hb hown hK hP hw.al rfl rfl rfl (lay_X4 hK) 16 714 (by decide) t_714 rfl rfl dX4_wovenOf_24 ?_
            refine lv_iload_n hx hb dX4_wovenOf_27 rfl (lv_at hl 1 rfl) ?_
            refine p_iald (k := 0) (r := 17) (n := 20) hx hb hK hP hw.al rfl rfl (by decide) (by decide) (by omega) (by omega) dX4_wovenOf_28 ?_
            refine q_imul hx hb dX4_wovenOf_29 ?_
            refine q_icmp_ge (tgt := 87) hx hb ⟨by omega, by omega⟩ ⟨by omega, by omega⟩ dX4_wovenOf_30 (by decide) (fun c_2 => ?_) (fun c_2 => ?_)
            · -- ((S 0 16 x) * (S 0 17 x)) ≤ n
              have hback : u = sm (wpM S its) (x + 1).toNat := by
                rw [sm_1 _ hi.1, ← ht, hu]
                by_cases hgg : S 0 19 x = 0
                · have : n = S 0 16 x * S 0 17 x := by omega
                  rw [this]; unfold wpM; rw [cif_t hgg]
                · rw [hg hgg]; unfold wpM; rw [cif_f hgg]; rfl
              refine lv_iinc (v := i32 (x + 1)) (lv' := [(3, .int (i32 (x + 1))), (4, .int (i32 (n))), (2, .int (i32 (u))), (0, .ref (ad 0 0)), (1, .int (i32 (its)))]) hx hb dX4_wovenOf_87 hl (k := 1) rfl (i32_add _ _) (by decide) rfl (fun ls hl => ?_)
              refine lv_goto (tgt := 4) hx hb dX4_wovenOf_90 (by decide) ?_
              exact ih4 u (x + 1) _ _ _ (by omega) (by exact hback) (by omega) hP hS (lv_sub hl [0, 2, 3, 4] rfl)
            · -- n < ((S 0 16 x) * (S 0 17 x))
              refine lv_aload_n hx hb dX4_wovenOf_33 rfl (lv_at hl 3 rfl) ?_
              refine p_get (k := 0) hx hb hown hK hP hw.al rfl rfl rfl (lay_X4 hK) 18 716 (by decide) t_716 rfl rfl dX4_wovenOf_34 ?_
              refine lv_iload_n hx hb dX4_wovenOf_37 rfl (lv_at hl 1 rfl) ?_
              refine p_zald (k := 0) (r := 19) (n := 20) hx hb hK hP hw.al rfl rfl (by decide) (by decide) (by omega) (by omega) dX4_wovenOf_38 ?_
              refine q_if_ne (tgt := 87) hx hb (hP.rg _ _ _) dX4_wovenOf_39 (by decide) (fun c_3 => ?_) (fun c_3 => ?_)
              · -- (S 0 19 x) ≠ 0
                have hback : u = sm (wpM S its) (x + 1).toNat := by
                  rw [sm_1 _ hi.1, ← ht, hu]
                  by_cases hgg : S 0 19 x = 0
                  · have : n = S 0 16 x * S 0 17 x := by omega
                    rw [this]; unfold wpM; rw [cif_t hgg]
                  · rw [hg hgg]; unfold wpM; rw [cif_f hgg]; rfl
                refine lv_iinc (v := i32 (x + 1)) (lv' := [(3, .int (i32 (x + 1))), (4, .int (i32 (n))), (2, .int (i32 (u))), (0, .ref (ad 0 0)), (1, .int (i32 (its)))]) hx hb dX4_wovenOf_87 hl (k := 1) rfl (i32_add _ _) (by decide) rfl (fun ls hl => ?_)
                refine lv_goto (tgt := 4) hx hb dX4_wovenOf_90 (by decide) ?_
                exact ih4 u (x + 1) _ _ _ (by omega) (by exact hback) (by omega) hP hS (lv_sub hl [0, 2, 3, 4] rfl)
              · -- (S 0 19 x) = 0
                obtain ⟨hd1, hd2, hd3, hd4⟩ := dmb (n := n) (C := S 0 16 x) (R := S 0 17 x) hn.1 (by omega) (by omega)
                refine lv_iload_n hx hb dX4_wovenOf_42 rfl (lv_at hl 2 rfl) ?_
                refine lv_aload_n hx hb dX4_wovenOf_43 rfl (lv_at hl 3 rfl) ?_
                refine p_get (k := 0) hx hb hown hK hP hw.al rfl rfl rfl (lay_X4 hK) 25 723 (by decide) t_723 rfl rfl dX4_wovenOf_44 ?_
                refine lv_iload_n hx hb dX4_wovenOf_47 rfl (lv_at hl 1 rfl) ?_
                refine lv_iload hx hb dX4_wovenOf_48 (lv_at hl 0 rfl) ?_
                refine lv_aload_n hx hb dX4_wovenOf_50 rfl (lv_at hl 3 rfl) ?_
                refine p_get (k := 0) hx hb hown hK hP hw.al rfl rfl rfl (lay_X4 hK) 16 714 (by decide) t_714 rfl rfl dX4_wovenOf_51 ?_
                refine lv_iload_n hx hb dX4_wovenOf_54 rfl (lv_at hl 1 rfl) ?_
                refine p_iald (k := 0) (r := 17) (n := 20) hx hb hK hP hw.al rfl rfl (by decide) (by decide) (by omega) (by omega) dX4_wovenOf_55 ?_
                refine q_idiv hx hb (by omega) (by omega) (by omega) (by omega) dX4_wovenOf_56 ?_
                refine lv_iload hx hb dX4_wovenOf_57 (lv_at hl 0 rfl) ?_
                refine lv_aload_n hx hb dX4_wovenOf_59 rfl (lv_at hl 3 rfl) ?_
                refine p_get (k := 0) hx hb hown hK hP hw.al rfl rfl rfl (lay_X4 hK) 16 714 (by decide) t_714 rfl rfl dX4_wovenOf_60 ?_
                refine lv_iload_n hx hb dX4_wovenOf_63 rfl (lv_at hl 1 rfl) ?_
                refine p_iald (k := 0) (r := 17) (n := 20) hx hb hK hP hw.al rfl rfl (by decide) (by decide) (by omega) (by omega) dX4_wovenOf_64 ?_
                refine q_irem hx hb (by omega) (by omega) (by omega) (by omega) dX4_wovenOf_65 ?_
                refine q_callS hx hb hml hl.1 hown hK hZ hP hS (c_X4_at l g base ad S x (n / (S 0 17 x)) (n % (S 0 17 x)) ) t_841 (q_callB hK 840 36 842 t_840 t_36 t_842 f_yX4_at ⟨by decide, by decide⟩) rfl rfl (Nat.le_of_ble_eq_true rfl) dX4_wovenOf_66 ⟨by decide, by decide⟩  (q_an (fun H locs hP hS => ?_))
                refine p_iald (k := 0) (r := 26) (n := 4800) hx hb hK hP hw.al rfl rfl (by decide) (by decide) (by omega) (by omega) dX4_wovenOf_69 ?_
                refine lv_iload_n hx hb dX4_wovenOf_70 rfl (lv_at hl 4 rfl) ?_
                have J79 : ∀ (H : Heap) (locs : List Loc), pic g base ad S H → va_S (fun q => base ≤ q) s.heap H locs → W p l e ({ frames := 1, cells := 0, slots := 0, locals := 22 } : Room) s m av below meth cz H locs 0 0 Qm (F0 m 79 ls (Value.int (i32 (b2 (((S 0 26 (240 * x + 10 * (n / (S 0 17 x)) + (n % (S 0 17 x)))) = its)))) :: Value.int (i32 (u)) :: [])) := by
                  intro H locs hP hS
                  refine q_iadd hx hb dX4_wovenOf_79 ?_
                  refine lv_istore_n (lv' := [(2, .int (i32 (u + (b2 (((S 0 26 (240 * x + 10 * (n / (S 0 17 x)) + (n % (S 0 17 x)))) = its)))))), (4, .int (i32 (n))), (3, .int (i32 (x))), (0, .ref (ad 0 0)), (1, .int (i32 (its)))]) hx hb dX4_wovenOf_80 rfl hl (by decide) rfl (fun ls hl => ?_)
                  refine lv_iinc (v := i32 (n + 1)) (lv' := [(4, .int (i32 (n + 1))), (2, .int (i32 (u + (b2 (((S 0 26 (240 * x + 10 * (n / (S 0 17 x)) + (n % (S 0 17 x)))) = its)))))), (3, .int (i32 (x))), (0, .ref (ad 0 0)), (1, .int (i32 (its)))]) hx hb dX4_wovenOf_81 hl (k := 1) rfl (i32_add _ _) (by decide) rfl (fun ls hl => ?_)
                  refine lv_goto (tgt := 15) hx hb dX4_wovenOf_84 (by decide) ?_
                  exact ih15 (u + (b2 (((S 0 26 (240 * x + 10 * (n / (S 0 17 x)) + (n % (S 0 17 x)))) = its)))) (n + 1) _ _ _ (by omega) (by omega) (by rw [sm_1 _ hn.1, hu]; show _ = t + (_ + b2 _); rw [Int.add_assoc]; rfl) (by omega) hP hS (lv_sub hl [0, 2, 1, 3, 4] rfl)
                refine q_icmp_ne (tgt := 78) hx hb (hP.rg _ _ _) hrn dX4_wovenOf_71 (by decide) (fun c_4 => ?_) (fun c_4 => ?_)
                · -- (S 0 26 (240 * x + 10 * (n / (S 0 17 x)) + (n % (S 0 17 x)))) ≠ its
                  refine lv_iconst (v := i32 (0)) hx hb dX4_wovenOf_78 rfl ?_
                  refine q_nm (b2_f (show ¬ (((S 0 26 (240 * x + 10 * (n / (S 0 17 x)) + (n % (S 0 17 x)))) = its)) from by first | omega | (simp only [*]; done) | simp_all)).symm ?_
                  exact J79 _ _ hP hS
                · -- (S 0 26 (240 * x + 10 * (n / (S 0 17 x)) + (n % (S 0 17 x)))) = its
                  refine lv_iconst (v := i32 (1)) hx hb dX4_wovenOf_74 rfl ?_
                  refine lv_goto (tgt := 79) hx hb dX4_wovenOf_75 (by decide) ?_
                  refine q_nm (b2_t (show ((S 0 26 (240 * x + 10 * (n / (S 0 17 x)) + (n % (S 0 17 x)))) = its) from by first | omega | (simp only [*]; done) | simp_all)).symm ?_
                  exact J79 _ _ hP hS
        exact L15 ((S 0 16 x * S 0 17 x - 0) + 1).toNat t 0 _ _ _ (by omega) (by omega) (by show t = t + 0; omega) (by omega) hP hS (lv_sub hl [0, 1, 2, 3, 4] rfl)
  exact L4 ((S 0 0 14 - 0) + 1).toNat 0 0 _ _ _ (by omega) (by rfl) (by omega) hP hS (lv_sub hl [0, 1, 2, 3] rfl)

set_option maxHeartbeats 4000000 in
set_option maxRecDepth 100000 in
theorem c_X4_giver (l : Launch) (g : GT) (base : Nat) (ad : Nat → Nat → Nat) (S : St) (its : Int) (hw : wM S) (hrn : rng its) : Met l yX4_giver [Cond.code yX4_giver cX4_giver 4 (some FieldType.int)] ({ frames := 0, cells := 0, slots := 0, locals := 0 }) (va_Pc [.ref (ad 0 0), .int (i32 (its))] (PK g base ad S)) (gQ g base (an (some (.int (i32 (gvM S its)))) ad S)) 0 0 (fun q => base ≤ q) := by
  refine mk_m (own := RX4) (lv0 := [(0, .ref (ad 0 0)), (1, .int (i32 (its)))]) (by decide) rfl (Nat.le_of_ble_eq_true rfl) rfl ?_
  intro p e s m below meth cz av Qm hx hb hr hml hown hlocks hK hZ hP hQm ls hl
  have hS : va_S (fun q => base ≤ q) s.heap s.heap [] := va_S.rf
  have rS : ∀ (a1 b1 : Nat) (i1 : Int), rng (S a1 b1 i1) := fun a1 b1 i1 => hP.rg a1 b1 i1
  obtain ⟨hz1, hz2⟩ := id hrn
  obtain ⟨hp1, hp2⟩ := hw.lt
  refine lv_iconst (v := i32 (-1)) hx hb dX4_giver_0 rfl ?_
  refine lv_istore_n (lv' := [(2, .int (i32 (-1))), (0, .ref (ad 0 0)), (1, .int (i32 (its)))]) hx hb dX4_giver_1 rfl hl (by decide) rfl (fun ls hl => ?_)
  refine lv_aload_n hx hb dX4_giver_2 rfl (lv_at hl 1 rfl) ?_
  refine p_get (k := 0) hx hb hown hK hP hw.al rfl rfl rfl (lay_X4 hK) 8 706 (by decide) t_706 rfl rfl dX4_giver_3 ?_
  refine lv_iconst (v := i32 (1)) hx hb dX4_giver_6 rfl ?_
  refine q_isub hx hb dX4_giver_7 ?_
  refine lv_istore_n (lv' := [(3, .int (i32 ((S 0 0 8) - 1))), (2, .int (i32 (-1))), (0, .ref (ad 0 0)), (1, .int (i32 (its)))]) hx hb dX4_giver_8 rfl hl (by decide) rfl (fun ls hl => ?_)
  have L9 : ∀ (k : Nat) (f k1 : Int) (H : Heap) (locs : List Loc) (ls : Array Slot), (-1 ≤ k1 ∧ k1 < S 0 0 8) → (f = gf (gvP S its) (S 0 0 8 - 1 - k1).toNat (k1 + 1)) → k1 + 1 < (k : Int) → pic g base ad S H → va_S (fun q => base ≤ q) s.heap H locs → lv_has ls 4 [(3, .int (i32 (k1))), (2, .int (i32 (f))), (0, .ref (ad 0 0)), (1, .int (i32 (its)))] → W p l e ({ frames := 0, cells := 0, slots := 0, locals := 0 } : Room) s m av below meth cz H locs 0 0 Qm (F0 m 9 ls []) := by
    intro k
    induction k with
    | zero => intro f k1 H locs ls hi hf hmu _ _ _; exact absurd hmu (by omega)
    | succ k ih9 =>
      intro f k1 H locs ls hi hf hmu hP hS hl
      refine lv_iload_n hx hb dX4_giver_9 rfl (lv_at hl 0 rfl) ?_
      refine q_if_lt (tgt := 44) hx hb ⟨by omega, by omega⟩ dX4_giver_10 (by decide) (fun c_1 => ?_) (fun c_1 => ?_)
      · -- k1 < 0
        refine lv_iload_n hx hb dX4_giver_44 rfl (lv_at hl 1 rfl) ?_
        refine q_nm (show (f : Int) = gvM S its from by rw [hf, show k1 = -1 from by omega, show S 0 0 8 - 1 - -1 = S 0 0 8 from by omega]; rfl) ?_
        subst hQm
        exact q_iret hx hb hr hlocks hP hS ⟨rfl, rfl, rfl⟩ (by decide) (by decide) dX4_giver_45
      · -- 0 ≤ k1
        refine lv_aload_n hx hb dX4_giver_13 rfl (lv_at hl 2 rfl) ?_
        refine p_get (k := 0) hx hb hown hK hP hw.al rfl rfl rfl (lay_X4 hK) 9 707 (by decide) t_707 rfl rfl dX4_giver_14 ?_
        refine lv_iload_n hx hb dX4_giver_17 rfl (lv_at hl 0 rfl) ?_
        refine p_iald (k := 0) (r := 10) (n := 20) hx hb hK hP hw.al rfl rfl (by decide) (by decide) (by omega) (by omega) dX4_giver_18 ?_
        refine lv_iload_n hx hb dX4_giver_19 rfl (lv_at hl 3 rfl) ?_
        have J37 : ∀ (b37 : Int) (H : Heap) (locs : List Loc), ((((S 0 10 k1) ≠ its) ∧ b37 = f) ∨ (((S 0 10 k1) = its) ∧ ((S 0 12 k1) ≤ 0) ∧ b37 = f) ∨ (((S 0 10 k1) = its) ∧ (0 < (S 0 12 k1)) ∧ b37 = k1)) → pic g base ad S H → va_S (fun q => base ≤ q) s.heap H locs → W p l e ({ frames := 0, cells := 0, slots := 0, locals := 0 } : Room) s m av below meth cz H locs 0 0 Qm (F0 m 37 ls (Value.int (i32 b37) :: [])) := by
          intro b37 H locs hb37 hP hS
          refine lv_istore_n (lv' := [(2, .int (i32 (b37))), (3, .int (i32 (k1))), (0, .ref (ad 0 0)), (1, .int (i32 (its)))]) hx hb dX4_giver_37 rfl hl (by decide) rfl (fun ls hl => ?_)
          refine lv_iinc (v := i32 (k1 + (-1))) (lv' := [(3, .int (i32 (k1 + (-1)))), (2, .int (i32 (b37))), (0, .ref (ad 0 0)), (1, .int (i32 (its)))]) hx hb dX4_giver_38 hl (k := 1) rfl (i32_add _ _) (by decide) rfl (fun ls hl => ?_)
          refine lv_goto (tgt := 9) hx hb dX4_giver_41 (by decide) ?_
          have hback : b37 = gf (gvP S its) (S 0 0 8 - 1 - (k1 + (-1))).toNat ((k1 + (-1)) + 1) := by
            rw [show S 0 0 8 - 1 - (k1 + (-1)) = (S 0 0 8 - 1 - k1) + 1 from by omega, show (k1 + (-1)) + 1 = k1 from by omega, gf_s _ _ (by omega), ← hf]
            rcases hb37 with ⟨h1, h2⟩ | ⟨h1, h2, h3⟩ | ⟨h1, h2, h3⟩
            · rw [h2, cif_f (fun q => h1 q.1)]
            · rw [h3, cif_f (fun q => absurd q.2 (by omega))]
            · rw [h3, cif_t ⟨h1, h2⟩]
          exact ih9 b37 (k1 + (-1)) _ _ _ (by omega) (by exact hback) (by omega) hP hS (lv_sub hl [0, 1, 2, 3] rfl)
        refine q_icmp_ne (tgt := 36) hx hb (hP.rg _ _ _) hrn dX4_giver_20 (by decide) (fun c_2 => ?_) (fun c_2 => ?_)
        · -- (S 0 10 k1) ≠ its
          refine lv_iload_n hx hb dX4_giver_36 rfl (lv_at hl 1 rfl) ?_
          exact J37 _ _ _ (by first | omega | (simp only [*]; done) | simp_all) hP hS
        · -- (S 0 10 k1) = its
          refine lv_aload_n hx hb dX4_giver_23 rfl (lv_at hl 2 rfl) ?_
          refine p_get (k := 0) hx hb hown hK hP hw.al rfl rfl rfl (lay_X4 hK) 11 709 (by decide) t_709 rfl rfl dX4_giver_24 ?_
          refine lv_iload_n hx hb dX4_giver_27 rfl (lv_at hl 0 rfl) ?_
          refine p_iald (k := 0) (r := 12) (n := 20) hx hb hK hP hw.al rfl rfl (by decide) (by decide) (by omega) (by omega) dX4_giver_28 ?_
          refine q_if_le (tgt := 36) hx hb (hP.rg _ _ _) dX4_giver_29 (by decide) (fun c_3 => ?_) (fun c_3 => ?_)
          · -- (S 0 12 k1) ≤ 0
            refine lv_iload_n hx hb dX4_giver_36 rfl (lv_at hl 1 rfl) ?_
            exact J37 _ _ _ (by first | omega | (simp only [*]; done) | simp_all) hP hS
          · -- 0 < (S 0 12 k1)
            refine lv_iload_n hx hb dX4_giver_32 rfl (lv_at hl 0 rfl) ?_
            refine lv_goto (tgt := 37) hx hb dX4_giver_33 (by decide) ?_
            exact J37 _ _ _ (by first | omega | (simp only [*]; done) | simp_all) hP hS
  exact L9 ((((S 0 0 8) - 1) + 1) + 1).toNat (-1) ((S 0 0 8) - 1) _ _ _ (by omega) (by rw [show (S 0 0 8 - 1 - (S 0 0 8 - 1)) = 0 from by omega]; rfl) (by omega) hP hS (lv_sub hl [0, 1, 2, 3] rfl)

set_option maxHeartbeats 4000000 in
set_option maxRecDepth 100000 in
theorem c_X4_drawnAt (l : Launch) (g : GT) (base : Nat) (ad : Nat → Nat → Nat) (S : St) (i r q : Int) (hw : wM S) (hii : 0 ≤ i ∧ i < 5) (hrr : 0 ≤ r ∧ r < 10) (hqq : 0 ≤ q ∧ q < 12) : Met l yX4_drawnAt [Cond.code yX4_drawnAt cX4_drawnAt 5 (some FieldType.int)] ({ frames := 0, cells := 0, slots := 0, locals := 0 }) (va_Pc [.ref (ad 0 0), .int (i32 (i)), .int (i32 (r)), .int (i32 (q))] (PK g base ad S)) (gQ g base (an (some (.int (i32 (drM S i r q)))) ad S)) 0 0 (fun q => base ≤ q) := by
  refine mk_m (own := RX4) (lv0 := [(0, .ref (ad 0 0)), (1, .int (i32 (i))), (2, .int (i32 (r))), (3, .int (i32 (q)))]) (by decide) rfl (Nat.le_of_ble_eq_true rfl) rfl ?_
  intro p e s m below meth cz av Qm hx hb hr hml hown hlocks hK hZ hP hQm ls hl
  have hS : va_S (fun q => base ≤ q) s.heap s.heap [] := va_S.rf
  have rS : ∀ (a1 b1 : Nat) (i1 : Int), rng (S a1 b1 i1) := fun a1 b1 i1 => hP.rg a1 b1 i1
  refine lv_aload_n hx hb dX4_drawnAt_0 rfl (lv_at hl 0 rfl) ?_
  refine p_get (k := 0) hx hb hown hK hP hw.al rfl rfl rfl (lay_X4 hK) 7 705 (by decide) t_705 rfl rfl dX4_drawnAt_1 ?_
  refine lv_bipush (v := i32 (120)) hx hb dX4_drawnAt_4 (by decide) ?_
  refine lv_iload_n hx hb dX4_drawnAt_6 rfl (lv_at hl 1 rfl) ?_
  refine q_imul hx hb dX4_drawnAt_7 ?_
  refine lv_bipush (v := i32 (12)) hx hb dX4_drawnAt_8 (by decide) ?_
  refine lv_iload_n hx hb dX4_drawnAt_10 rfl (lv_at hl 2 rfl) ?_
  refine q_imul hx hb dX4_drawnAt_11 ?_
  refine q_iadd hx hb dX4_drawnAt_12 ?_
  refine lv_iload_n hx hb dX4_drawnAt_13 rfl (lv_at hl 3 rfl) ?_
  refine q_iadd hx hb dX4_drawnAt_14 ?_
  refine p_iald (k := 0) (r := 8) (n := 600) hx hb hK hP hw.al rfl rfl (by decide) (by decide) (by omega) (by omega) dX4_drawnAt_15 ?_
  refine lv_istore (lv' := [(4, .int (i32 (S 0 8 (((120 * i) + (12 * r)) + q)))), (0, .ref (ad 0 0)), (1, .int (i32 (i))), (2, .int (i32 (r))), (3, .int (i32 (q)))]) hx hb dX4_drawnAt_16 hl (by decide) rfl (fun ls hl => ?_)
  refine lv_iload hx hb dX4_drawnAt_18 (lv_at hl 0 rfl) ?_
  refine lv_bipush (v := i32 (6)) hx hb dX4_drawnAt_20 (by decide) ?_
  refine q_icmp_eq (tgt := 30) hx hb (hP.rg _ _ _) ⟨by decide, by decide⟩ dX4_drawnAt_22 (by decide) (fun c_1 => ?_) (fun c_1 => ?_)
  · -- (S 0 8 (((120 * i) + (12 * r)) + q)) = 6
    refine lv_iload_n hx hb dX4_drawnAt_30 rfl (lv_at hl 3 rfl) ?_
    refine lv_iload_n hx hb dX4_drawnAt_31 rfl (lv_at hl 4 rfl) ?_
    refine q_iadd hx hb dX4_drawnAt_32 ?_
    refine lv_iconst (v := i32 (2)) hx hb dX4_drawnAt_33 rfl ?_
    refine q_irem hx hb (by omega) (by omega) (by omega) (by omega) dX4_drawnAt_34 ?_
    refine q_if_ne (tgt := 47) hx hb ⟨by omega, by omega⟩ dX4_drawnAt_35 (by decide) (fun c_2 => ?_) (fun c_2 => ?_)
    · -- ((r + q) % 2) ≠ 0
      refine lv_aload_n hx hb dX4_drawnAt_47 rfl (lv_at hl 1 rfl) ?_
      refine p_get (k := 0) hx hb hown hK hP hw.al rfl rfl rfl (lay_X4 hK) 6 704 (by decide) t_704 rfl rfl dX4_drawnAt_48 ?_
      refine lv_iload_n hx hb dX4_drawnAt_51 rfl (lv_at hl 2 rfl) ?_
      refine p_iald (k := 0) (r := 7) (n := 5) hx hb hK hP hw.al rfl rfl (by decide) (by decide) (by omega) (by omega) dX4_drawnAt_52 ?_
      refine q_nm (show (S 0 7 i : Int) = drM S i r q from by unfold drM; first | (rw [cif_f (by assumption)]; done) | (rw [cif_t (by assumption), cif_t (by assumption)]; done) | (rw [cif_t (by assumption), cif_f (by assumption)]; done)) ?_
      subst hQm
      exact q_iret hx hb hr hlocks hP hS ⟨rfl, rfl, rfl⟩ (by decide) (by decide) dX4_drawnAt_53
    · -- ((r + q) % 2) = 0
      refine lv_aload_n hx hb dX4_drawnAt_38 rfl (lv_at hl 1 rfl) ?_
      refine p_get (k := 0) hx hb hown hK hP hw.al rfl rfl rfl (lay_X4 hK) 5 703 (by decide) t_703 rfl rfl dX4_drawnAt_39 ?_
      refine lv_iload_n hx hb dX4_drawnAt_42 rfl (lv_at hl 2 rfl) ?_
      refine p_iald (k := 0) (r := 6) (n := 5) hx hb hK hP hw.al rfl rfl (by decide) (by decide) (by omega) (by omega) dX4_drawnAt_43 ?_
      refine lv_goto (tgt := 53) hx hb dX4_drawnAt_44 (by decide) ?_
      refine q_nm (show (S 0 6 i : Int) = drM S i r q from by unfold drM; first | (rw [cif_f (by assumption)]; done) | (rw [cif_t (by assumption), cif_t (by assumption)]; done) | (rw [cif_t (by assumption), cif_f (by assumption)]; done)) ?_
      subst hQm
      exact q_iret hx hb hr hlocks hP hS ⟨rfl, rfl, rfl⟩ (by decide) (by decide) dX4_drawnAt_53
  · -- (S 0 8 (((120 * i) + (12 * r)) + q)) ≠ 6
    refine lv_iload hx hb dX4_drawnAt_25 (lv_at hl 0 rfl) ?_
    refine lv_goto (tgt := 53) hx hb dX4_drawnAt_27 (by decide) ?_
    refine q_nm (show (S 0 8 (((120 * i) + (12 * r)) + q) : Int) = drM S i r q from by unfold drM; first | (rw [cif_f (by assumption)]; done) | (rw [cif_t (by assumption), cif_t (by assumption)]; done) | (rw [cif_t (by assumption), cif_f (by assumption)]; done)) ?_
    subst hQm
    exact q_iret hx hb hr hlocks hP hS ⟨rfl, rfl, rfl⟩ (by decide) (by decide) dX4_drawnAt_53

set_option maxHeartbeats 4000000 in
set_option maxRecDepth 100000 in
theorem c_X4_mayWeave (l : Launch) (g : GT) (base : Nat) (ad : Nat → Nat → Nat) (S : St) (x w : Int) (hw : wM S) (hxx : 0 ≤ x ∧ x < 20) (hww : 0 ≤ w ∧ w < S 0 18 x) : Met l yX4_mayWeave [Cond.code yX4_mayWeave cX4_mayWeave 6 (some FieldType.boolean)] ({ frames := 0, cells := 0, slots := 0, locals := 0 }) (va_Pc [.ref (ad 0 0), .int (i32 (x)), .int (i32 (w))] (PK g base ad S)) (gQ g base (an (some (.int (i32 (b2 (mwM S x w))))) ad S)) 0 0 (fun q => base ≤ q) := by
  refine mk_m (own := RX4) (lv0 := [(0, .ref (ad 0 0)), (1, .int (i32 (x))), (2, .int (i32 (w)))]) (by decide) rfl (Nat.le_of_ble_eq_true rfl) rfl ?_
  intro p e s m below meth cz av Qm hx hb hr hml hown hlocks hK hZ hP hQm ls hl
  have hS : va_S (fun q => base ≤ q) s.heap s.heap [] := va_S.rf
  have rS : ∀ (a1 b1 : Nat) (i1 : Int), rng (S a1 b1 i1) := fun a1 b1 i1 => hP.rg a1 b1 i1
  obtain ⟨hx0, hx1⟩ := id hxx
  obtain ⟨hc1, hc2, hr1, hr2, hv1, hv2, hd1, hd2⟩ := hw.pc x hx0 hx1
  refine lv_iconst (v := i32 (4)) hx hb dX4_mayWeave_0 rfl ?_
  refine lv_iload_n hx hb dX4_mayWeave_1 rfl (lv_at hl 1 rfl) ?_
  refine q_imul hx hb dX4_mayWeave_2 ?_
  refine lv_iload_n hx hb dX4_mayWeave_3 rfl (lv_at hl 2 rfl) ?_
  refine q_iadd hx hb dX4_mayWeave_4 ?_
  refine lv_istore_n (lv' := [(3, .int (i32 ((4 * x) + w))), (0, .ref (ad 0 0)), (1, .int (i32 (x))), (2, .int (i32 (w)))]) hx hb dX4_mayWeave_5 rfl hl (by decide) rfl (fun ls hl => ?_)
  refine lv_iload_n hx hb dX4_mayWeave_6 rfl (lv_at hl 3 rfl) ?_
  have J32 : ∀ (H : Heap) (locs : List Loc), pic g base ad S H → va_S (fun q => base ≤ q) s.heap H locs → W p l e ({ frames := 0, cells := 0, slots := 0, locals := 0 } : Room) s m av below meth cz H locs 0 0 Qm (F0 m 32 ls (Value.int (i32 (b2 ((0 < w) ∧ ((S 0 20 (((4 * x) + w) - 1)) < (S 0 20 ((4 * x) + w)))))) :: [])) := by
    intro H locs hP hS
    refine lv_istore (lv' := [(4, .int (i32 (b2 ((0 < w) ∧ ((S 0 20 (((4 * x) + w) - 1)) < (S 0 20 ((4 * x) + w))))))), (3, .int (i32 ((4 * x) + w))), (0, .ref (ad 0 0)), (1, .int (i32 (x))), (2, .int (i32 (w)))]) hx hb dX4_mayWeave_32 hl (by decide) rfl (fun ls hl => ?_)
    refine lv_iload_n hx hb dX4_mayWeave_34 rfl (lv_at hl 4 rfl) ?_
    refine lv_aload_n hx hb dX4_mayWeave_35 rfl (lv_at hl 2 rfl) ?_
    refine p_get (k := 0) hx hb hown hK hP hw.al rfl rfl rfl (lay_X4 hK) 17 715 (by decide) t_715 rfl rfl dX4_mayWeave_36 ?_
    refine lv_iload_n hx hb dX4_mayWeave_39 rfl (lv_at hl 3 rfl) ?_
    refine p_iald (k := 0) (r := 18) (n := 20) hx hb hK hP hw.al rfl rfl (by decide) (by decide) (by omega) (by omega) dX4_mayWeave_40 ?_
    refine lv_iconst (v := i32 (1)) hx hb dX4_mayWeave_41 rfl ?_
    refine q_isub hx hb dX4_mayWeave_42 ?_
    have J68 : ∀ (H : Heap) (locs : List Loc), pic g base ad S H → va_S (fun q => base ≤ q) s.heap H locs → W p l e ({ frames := 0, cells := 0, slots := 0, locals := 0 } : Room) s m av below meth cz H locs 0 0 Qm (F0 m 68 ls (Value.int (i32 (b2 ((w < ((S 0 18 x) - 1)) ∧ ((S 0 20 (((4 * x) + w) + 1)) < (S 0 20 ((4 * x) + w)))))) :: [])) := by
      intro H locs hP hS
      refine lv_istore (lv' := [(5, .int (i32 (b2 ((w < ((S 0 18 x) - 1)) ∧ ((S 0 20 (((4 * x) + w) + 1)) < (S 0 20 ((4 * x) + w))))))), (4, .int (i32 (b2 ((0 < w) ∧ ((S 0 20 (((4 * x) + w) - 1)) < (S 0 20 ((4 * x) + w))))))), (3, .int (i32 ((4 * x) + w))), (0, .ref (ad 0 0)), (1, .int (i32 (x))), (2, .int (i32 (w)))]) hx hb dX4_mayWeave_68 hl (by decide) rfl (fun ls hl => ?_)
      refine lv_aload_n hx hb dX4_mayWeave_70 rfl (lv_at hl 3 rfl) ?_
      refine p_get (k := 0) hx hb hown hK hP hw.al rfl rfl rfl (lay_X4 hK) 19 717 (by decide) t_717 rfl rfl dX4_mayWeave_71 ?_
      refine lv_iload_n hx hb dX4_mayWeave_74 rfl (lv_at hl 2 rfl) ?_
      refine p_iald (k := 0) (r := 20) (n := 80) hx hb hK hP hw.al rfl rfl (by decide) (by decide) (by omega) (by omega) dX4_mayWeave_75 ?_
      refine lv_aload_n hx hb dX4_mayWeave_76 rfl (lv_at hl 3 rfl) ?_
      refine p_get (k := 0) hx hb hown hK hP hw.al rfl rfl rfl (lay_X4 hK) 16 714 (by decide) t_714 rfl rfl dX4_mayWeave_77 ?_
      refine lv_iload_n hx hb dX4_mayWeave_80 rfl (lv_at hl 4 rfl) ?_
      refine p_iald (k := 0) (r := 17) (n := 20) hx hb hK hP hw.al rfl rfl (by decide) (by decide) (by omega) (by omega) dX4_mayWeave_81 ?_
      have J100 : ∀ (H : Heap) (locs : List Loc), pic g base ad S H → va_S (fun q => base ≤ q) s.heap H locs → W p l e ({ frames := 0, cells := 0, slots := 0, locals := 0 } : Room) s m av below meth cz H locs 0 0 Qm (F0 m 100 ls (Value.int (i32 (b2 (((S 0 20 ((4 * x) + w)) < (S 0 17 x)) ∧ (¬ ((0 < w) ∧ ((S 0 20 (((4 * x) + w) - 1)) < (S 0 20 ((4 * x) + w))))) ∧ (¬ ((w < ((S 0 18 x) - 1)) ∧ ((S 0 20 (((4 * x) + w) + 1)) < (S 0 20 ((4 * x) + w)))))))) :: [])) := by
        intro H locs hP hS
        refine q_nm (b2_c (show (((S 0 20 ((4 * x) + w)) < (S 0 17 x)) ∧ (¬ ((0 < w) ∧ ((S 0 20 (((4 * x) + w) - 1)) < (S 0 20 ((4 * x) + w))))) ∧ (¬ ((w < ((S 0 18 x) - 1)) ∧ ((S 0 20 (((4 * x) + w) + 1)) < (S 0 20 ((4 * x) + w)))))) ↔ (mwM S x w) from by unfold mwM; omega)) ?_
        subst hQm
        exact q_zret hx hb hr hlocks hP hS (b2_01 _) ⟨rfl, rfl, rfl⟩ (by decide) (by decide) dX4_mayWeave_100
      refine q_icmp_ge (tgt := 99) hx hb (hP.rg _ _ _) (hP.rg _ _ _) dX4_mayWeave_82 (by decide) (fun c_1 => ?_) (fun c_1 => ?_)
      · -- (S 0 17 x) ≤ (S 0 20 ((4 * x) + w))
        refine lv_iconst (v := i32 (0)) hx hb dX4_mayWeave_99 rfl ?_
        refine q_nm (b2_f (show ¬ (((S 0 20 ((4 * x) + w)) < (S 0 17 x)) ∧ (¬ ((0 < w) ∧ ((S 0 20 (((4 * x) + w) - 1)) < (S 0 20 ((4 * x) + w))))) ∧ (¬ ((w < ((S 0 18 x) - 1)) ∧ ((S 0 20 (((4 * x) + w) + 1)) < (S 0 20 ((4 * x) + w)))))) from by first | omega | (simp only [*]; done) | simp_all)).symm ?_
        exact J100 _ _ hP hS
      · -- (S 0 20 ((4 * x) + w)) < (S 0 17 x)
        refine lv_iload hx hb dX4_mayWeave_85 (lv_at hl 1 rfl) ?_
        refine q_if_neb (tgt := 99) hx hb dX4_mayWeave_87 (by decide) (fun c_2 => ?_) (fun c_2 => ?_)
        · -- (0 < w) ∧ ((S 0 20 (((4 * x) + w) - 1)) < (S 0 20 ((4 * x) + w)))
          refine lv_iconst (v := i32 (0)) hx hb dX4_mayWeave_99 rfl ?_
          refine q_nm (b2_f (show ¬ (((S 0 20 ((4 * x) + w)) < (S 0 17 x)) ∧ (¬ ((0 < w) ∧ ((S 0 20 (((4 * x) + w) - 1)) < (S 0 20 ((4 * x) + w))))) ∧ (¬ ((w < ((S 0 18 x) - 1)) ∧ ((S 0 20 (((4 * x) + w) + 1)) < (S 0 20 ((4 * x) + w)))))) from by first | omega | (simp only [*]; done) | simp_all)).symm ?_
          exact J100 _ _ hP hS
        · -- ¬ ((0 < w) ∧ ((S 0 20 (((4 * x) + w) - 1)) < (S 0 20 ((4 * x) + w))))
          refine lv_iload hx hb dX4_mayWeave_90 (lv_at hl 0 rfl) ?_
          refine q_if_neb (tgt := 99) hx hb dX4_mayWeave_92 (by decide) (fun c_3 => ?_) (fun c_3 => ?_)
          · -- (w < ((S 0 18 x) - 1)) ∧ ((S 0 20 (((4 * x) + w) + 1)) < (S 0 20 ((4 * x) + w)))
            refine lv_iconst (v := i32 (0)) hx hb dX4_mayWeave_99 rfl ?_
            refine q_nm (b2_f (show ¬ (((S 0 20 ((4 * x) + w)) < (S 0 17 x)) ∧ (¬ ((0 < w) ∧ ((S 0 20 (((4 * x) + w) - 1)) < (S 0 20 ((4 * x) + w))))) ∧ (¬ ((w < ((S 0 18 x) - 1)) ∧ ((S 0 20 (((4 * x) + w) + 1)) < (S 0 20 ((4 * x) + w)))))) from by first | omega | (simp only [*]; done) | simp_all)).symm ?_
            exact J100 _ _ hP hS
          · -- ¬ ((w < ((S 0 18 x) - 1)) ∧ ((S 0 20 (((4 * x) + w) + 1)) < (S 0 20 ((4 * x) + w))))
            refine lv_iconst (v := i32 (1)) hx hb dX4_mayWeave_95 rfl ?_
            refine lv_goto (tgt := 100) hx hb dX4_mayWeave_96 (by decide) ?_
            refine q_nm (b2_t (show ((S 0 20 ((4 * x) + w)) < (S 0 17 x)) ∧ (¬ ((0 < w) ∧ ((S 0 20 (((4 * x) + w) - 1)) < (S 0 20 ((4 * x) + w))))) ∧ (¬ ((w < ((S 0 18 x) - 1)) ∧ ((S 0 20 (((4 * x) + w) + 1)) < (S 0 20 ((4 * x) + w))))) from by first | omega | (simp only [*]; done) | simp_all)).symm ?_
            exact J100 _ _ hP hS
    refine q_icmp_ge (tgt := 67) hx hb ⟨by omega, by omega⟩ ⟨by omega, by omega⟩ dX4_mayWeave_43 (by decide) (fun c_4 => ?_) (fun c_4 => ?_)
    · -- ((S 0 18 x) - 1) ≤ w
      refine lv_iconst (v := i32 (0)) hx hb dX4_mayWeave_67 rfl ?_
      refine q_nm (b2_f (show ¬ ((w < ((S 0 18 x) - 1)) ∧ ((S 0 20 (((4 * x) + w) + 1)) < (S 0 20 ((4 * x) + w)))) from by first | omega | (simp only [*]; done) | simp_all)).symm ?_
      exact J68 _ _ hP hS
    · -- w < ((S 0 18 x) - 1)
      refine lv_aload_n hx hb dX4_mayWeave_46 rfl (lv_at hl 2 rfl) ?_
      refine p_get (k := 0) hx hb hown hK hP hw.al rfl rfl rfl (lay_X4 hK) 19 717 (by decide) t_717 rfl rfl dX4_mayWeave_47 ?_
      refine lv_iload_n hx hb dX4_mayWeave_50 rfl (lv_at hl 1 rfl) ?_
      refine lv_iconst (v := i32 (1)) hx hb dX4_mayWeave_51 rfl ?_
      refine q_iadd hx hb dX4_mayWeave_52 ?_
      refine p_iald (k := 0) (r := 20) (n := 80) hx hb hK hP hw.al rfl rfl (by decide) (by decide) (by omega) (by omega) dX4_mayWeave_53 ?_
      refine lv_aload_n hx hb dX4_mayWeave_54 rfl (lv_at hl 2 rfl) ?_
      refine p_get (k := 0) hx hb hown hK hP hw.al rfl rfl rfl (lay_X4 hK) 19 717 (by decide) t_717 rfl rfl dX4_mayWeave_55 ?_
      refine lv_iload_n hx hb dX4_mayWeave_58 rfl (lv_at hl 1 rfl) ?_
      refine p_iald (k := 0) (r := 20) (n := 80) hx hb hK hP hw.al rfl rfl (by decide) (by decide) (by omega) (by omega) dX4_mayWeave_59 ?_
      refine q_icmp_ge (tgt := 67) hx hb (hP.rg _ _ _) (hP.rg _ _ _) dX4_mayWeave_60 (by decide) (fun c_5 => ?_) (fun c_5 => ?_)
      · -- (S 0 20 ((4 * x) + w)) ≤ (S 0 20 (((4 * x) + w) + 1))
        refine lv_iconst (v := i32 (0)) hx hb dX4_mayWeave_67 rfl ?_
        refine q_nm (b2_f (show ¬ ((w < ((S 0 18 x) - 1)) ∧ ((S 0 20 (((4 * x) + w) + 1)) < (S 0 20 ((4 * x) + w)))) from by first | omega | (simp only [*]; done) | simp_all)).symm ?_
        exact J68 _ _ hP hS
      · -- (S 0 20 (((4 * x) + w) + 1)) < (S 0 20 ((4 * x) + w))
        refine lv_iconst (v := i32 (1)) hx hb dX4_mayWeave_63 rfl ?_
        refine lv_goto (tgt := 68) hx hb dX4_mayWeave_64 (by decide) ?_
        refine q_nm (b2_t (show (w < ((S 0 18 x) - 1)) ∧ ((S 0 20 (((4 * x) + w) + 1)) < (S 0 20 ((4 * x) + w))) from by first | omega | (simp only [*]; done) | simp_all)).symm ?_
        exact J68 _ _ hP hS
  refine q_if_le (tgt := 31) hx hb ⟨by omega, by omega⟩ dX4_mayWeave_7 (by decide) (fun c_6 => ?_) (fun c_6 => ?_)
  · -- w ≤ 0
    refine lv_iconst (v := i32 (0)) hx hb dX4_mayWeave_31 rfl ?_
    refine q_nm (b2_f (show ¬ ((0 < w) ∧ ((S 0 20 (((4 * x) + w) - 1)) < (S 0 20 ((4 * x) + w)))) from by first | omega | (simp only [*]; done) | simp_all)).symm ?_
    exact J32 _ _ hP hS
  · -- 0 < w
    refine lv_aload_n hx hb dX4_mayWeave_10 rfl (lv_at hl 1 rfl) ?_
    refine p_get (k := 0) hx hb hown hK hP hw.al rfl rfl rfl (lay_X4 hK) 19 717 (by decide) t_717 rfl rfl dX4_mayWeave_11 ?_
    refine lv_iload_n hx hb dX4_mayWeave_14 rfl (lv_at hl 0 rfl) ?_
    refine lv_iconst (v := i32 (1)) hx hb dX4_mayWeave_15 rfl ?_
    refine q_isub hx hb dX4_mayWeave_16 ?_
    refine p_iald (k := 0) (r := 20) (n := 80) hx hb hK hP hw.al rfl rfl (by decide) (by decide) (by omega) (by omega) dX4_mayWeave_17 ?_
    refine lv_aload_n hx hb dX4_mayWeave_18 rfl (lv_at hl 1 rfl) ?_
    refine p_get (k := 0) hx hb hown hK hP hw.al rfl rfl rfl (lay_X4 hK) 19 717 (by decide) t_717 rfl rfl dX4_mayWeave_19 ?_
    refine lv_iload_n hx hb dX4_mayWeave_22 rfl (lv_at hl 0 rfl) ?_
    refine p_iald (k := 0) (r := 20) (n := 80) hx hb hK hP hw.al rfl rfl (by decide) (by decide) (by omega) (by omega) dX4_mayWeave_23 ?_
    refine q_icmp_ge (tgt := 31) hx hb (hP.rg _ _ _) (hP.rg _ _ _) dX4_mayWeave_24 (by decide) (fun c_7 => ?_) (fun c_7 => ?_)
    · -- (S 0 20 ((4 * x) + w)) ≤ (S 0 20 (((4 * x) + w) - 1))
      refine lv_iconst (v := i32 (0)) hx hb dX4_mayWeave_31 rfl ?_
      refine q_nm (b2_f (show ¬ ((0 < w) ∧ ((S 0 20 (((4 * x) + w) - 1)) < (S 0 20 ((4 * x) + w)))) from by first | omega | (simp only [*]; done) | simp_all)).symm ?_
      exact J32 _ _ hP hS
    · -- (S 0 20 (((4 * x) + w) - 1)) < (S 0 20 ((4 * x) + w))
      refine lv_iconst (v := i32 (1)) hx hb dX4_mayWeave_27 rfl ?_
      refine lv_goto (tgt := 32) hx hb dX4_mayWeave_28 (by decide) ?_
      refine q_nm (b2_t (show (0 < w) ∧ ((S 0 20 (((4 * x) + w) - 1)) < (S 0 20 ((4 * x) + w))) from by first | omega | (simp only [*]; done) | simp_all)).symm ?_
      exact J32 _ _ hP hS

set_option maxHeartbeats 4000000 in
set_option maxRecDepth 100000 in
theorem c_X4_isInner (l : Launch) (g : GT) (base : Nat) (ad : Nat → Nat → Nat) (S : St) (x q : Int) (hw : wM S) (hrn : rng x) (hrn2 : rng q) : Met l yX4_isInner [Cond.code yX4_isInner cX4_isInner 3 (some FieldType.boolean)] ({ frames := 2, cells := 0, slots := 0, locals := 43 }) (va_Pc [.ref (ad 0 0), .int (i32 (x)), .int (i32 (q))] (PK g base ad S)) (gQ g base (an (some (.int (i32 (b2 (inM S x q))))) ad S)) 0 0 (fun q => base ≤ q) := by
  refine mk_m (own := RX4) (lv0 := [(0, .ref (ad 0 0)), (1, .int (i32 (x))), (2, .int (i32 (q)))]) (by decide) rfl (Nat.le_of_ble_eq_true rfl) rfl ?_
  intro p e s m below meth cz av Qm hx hb hr hml hown hlocks hK hZ hP hQm ls hl
  have hS : va_S (fun q => base ≤ q) s.heap s.heap [] := va_S.rf
  have rS : ∀ (a1 b1 : Nat) (i1 : Int), rng (S a1 b1 i1) := fun a1 b1 i1 => hP.rg a1 b1 i1
  obtain ⟨hp1, hp2⟩ := hw.ps
  refine lv_aload_n hx hb dX4_isInner_0 rfl (lv_at hl 0 rfl) ?_
  refine lv_iload_n hx hb dX4_isInner_1 rfl (lv_at hl 1 rfl) ?_
  refine q_callV (k := 0) hx hb hml hl.1 hown hK hZ hP hS hw.al rfl rfl rfl (c_X4_isPiece l g base ad S x hw hrn) t_861 t_19 (q_callB hK 859 36 862 t_859 t_36 t_862 f_yX4_isPiece ⟨by decide, by decide⟩) rfl rfl (Nat.le_of_ble_eq_true rfl) dX4_isInner_2 ⟨by decide, by decide⟩  (q_an (fun H locs hP hS => ?_))
  have J41 : ∀ (H : Heap) (locs : List Loc), pic g base ad S H → va_S (fun q => base ≤ q) s.heap H locs → W p l e ({ frames := 2, cells := 0, slots := 0, locals := 43 } : Room) s m av below meth cz H locs 0 0 Qm (F0 m 41 ls (Value.int (i32 (b2 ((isP S x) ∧ (1 ≤ q ∧ q ≤ ((S 0 16 x) - 1))))) :: [])) := by
    intro H locs hP hS
    refine q_nm (b2_c (show ((isP S x) ∧ (1 ≤ q ∧ q ≤ ((S 0 16 x) - 1))) ↔ (inM S x q) from by exact Iff.rfl)) ?_
    subst hQm
    exact q_zret hx hb hr hlocks hP hS (b2_01 _) ⟨rfl, rfl, rfl⟩ (by decide) (by decide) dX4_isInner_41
  refine q_if_eqb (tgt := 40) hx hb dX4_isInner_5 (by decide) (fun c_1 => ?_) (fun c_1 => ?_)
  · -- ¬ (isP S x)
    refine lv_iconst (v := i32 (0)) hx hb dX4_isInner_40 rfl ?_
    refine q_nm (b2_f (show ¬ ((isP S x) ∧ (1 ≤ q ∧ q ≤ ((S 0 16 x) - 1))) from by first | omega | (simp only [*]; done) | simp_all)).symm ?_
    exact J41 _ _ hP hS
  · -- isP S x
    obtain ⟨hq1, hq2, hq3⟩ := id c_1
    obtain ⟨hc1, hc2, hr1, hr2, hv1, hv2, hd1, hd2⟩ := hw.pc x (by omega) (by omega)
    refine lv_iload_n hx hb dX4_isInner_8 rfl (lv_at hl 2 rfl) ?_
    refine lv_iconst (v := i32 (1)) hx hb dX4_isInner_9 rfl ?_
    refine lv_aload_n hx hb dX4_isInner_10 rfl (lv_at hl 0 rfl) ?_
    refine p_get (k := 0) hx hb hown hK hP hw.al rfl rfl rfl (lay_X4 hK) 15 713 (by decide) t_713 rfl rfl dX4_isInner_11 ?_
    refine lv_aload_n hx hb dX4_isInner_14 rfl (lv_at hl 0 rfl) ?_
    refine lv_iload_n hx hb dX4_isInner_15 rfl (lv_at hl 1 rfl) ?_
    refine q_callV (k := 0) hx hb hml hl.1 hown hK hZ hP hS hw.al rfl rfl rfl (c_X4_isPiece l g base ad S x hw hrn) t_861 t_19 (q_callB hK 859 36 862 t_859 t_36 t_862 f_yX4_isPiece ⟨by decide, by decide⟩) rfl rfl (Nat.le_of_ble_eq_true rfl) dX4_isInner_16 ⟨by decide, by decide⟩  (q_an (fun H locs hP hS => ?_))
    refine q_if_eqb (tgt := 26) hx hb dX4_isInner_19 (by decide) (fun h => by first | exact absurd c_1 h | exact absurd h c_1 | omega) (fun _ => ?_)
    refine lv_iload_n hx hb dX4_isInner_22 rfl (lv_at hl 1 rfl) ?_
    refine lv_goto (tgt := 27) hx hb dX4_isInner_23 (by decide) ?_
    refine p_iald (k := 0) (r := 16) (n := 20) hx hb hK hP hw.al rfl rfl (by decide) (by decide) (by omega) (by omega) dX4_isInner_27 ?_
    refine lv_iconst (v := i32 (1)) hx hb dX4_isInner_28 rfl ?_
    refine q_isub hx hb dX4_isInner_29 ?_
    refine q_callS hx hb hml hl.1 hown hK hZ hP hS (c_X4_in l g base ad S q 1 ((S 0 16 x) - 1) hrn2 ⟨by decide, by decide⟩ ⟨by omega, by omega⟩) t_807 (q_callB hK 806 36 808 t_806 t_36 t_808 f_yX4_in ⟨by decide, by decide⟩) rfl rfl (Nat.le_of_ble_eq_true rfl) dX4_isInner_30 ⟨by decide, by decide⟩  (q_an (fun H locs hP hS => ?_))
    refine q_if_eqb (tgt := 40) hx hb dX4_isInner_33 (by decide) (fun c_2 => ?_) (fun c_2 => ?_)
    · -- ¬ (1 ≤ q ∧ q ≤ ((S 0 16 x) - 1))
      refine lv_iconst (v := i32 (0)) hx hb dX4_isInner_40 rfl ?_
      refine q_nm (b2_f (show ¬ ((isP S x) ∧ (1 ≤ q ∧ q ≤ ((S 0 16 x) - 1))) from by first | omega | (simp only [*]; done) | simp_all)).symm ?_
      exact J41 _ _ hP hS
    · -- 1 ≤ q ∧ q ≤ ((S 0 16 x) - 1)
      refine lv_iconst (v := i32 (1)) hx hb dX4_isInner_36 rfl ?_
      refine lv_goto (tgt := 41) hx hb dX4_isInner_37 (by decide) ?_
      refine q_nm (b2_t (show (isP S x) ∧ (1 ≤ q ∧ q ≤ ((S 0 16 x) - 1)) from by first | omega | (simp only [*]; done) | simp_all)).symm ?_
      exact J41 _ _ hP hS
