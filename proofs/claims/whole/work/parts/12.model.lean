set_option maxHeartbeats 4000000 in
set_option maxRecDepth 100000 in
theorem c_X4_isCartoon (l : Launch) (g : GT) (base : Nat) (ad : Nat → Nat → Nat) (S : St) (x : Int) (hw : wM S) (hrn : rng x) : Met l yX4_isCartoon [Cond.code yX4_isCartoon cX4_isCartoon 2 (some FieldType.boolean)] ({ frames := 1, cells := 0, slots := 0, locals := 22 }) (va_Pc [.ref (ad 0 0), .int (i32 (x))] (PK g base ad S)) (gQ g base (an (some (.int (i32 (b2 (isC S x))))) ad S)) 0 0 (fun q => base ≤ q) := by
  refine mk_m (own := RX4) (lv0 := [(0, .ref (ad 0 0)), (1, .int (i32 (x)))]) (by decide) rfl (Nat.le_of_ble_eq_true rfl) rfl ?_
  intro p e s m below meth cz av Qm hx hb hr hml hown hlocks hK hZ hP hQm ls hl
  have hS : va_S (fun q => base ≤ q) s.heap s.heap [] := va_S.rf
  have rS : ∀ (a b : Nat) (i : Int), rng (S a b i) := fun a b i => hP.rg a b i
  obtain ⟨hz1, hz2⟩ := id hrn
  obtain ⟨hc1, hc2⟩ := hw.cs
  refine lv_iload_n hx hb dX4_isCartoon_0 rfl (lv_at hl 1 rfl) ?_
  refine lv_iconst (v := i32 (0)) hx hb dX4_isCartoon_1 rfl ?_
  refine lv_aload_n hx hb dX4_isCartoon_2 rfl (lv_at hl 0 rfl) ?_
  refine p_get (k := 0) hx hb hown hK hP hw.al rfl rfl rfl (lay_X4 hK) 2 700 (by decide) t_700 rfl rfl dX4_isCartoon_3 ?_
  refine lv_iconst (v := i32 (1)) hx hb dX4_isCartoon_6 rfl ?_
  refine q_isub hx hb dX4_isCartoon_7 ?_
  refine q_callS hx hb hml hl.1 hown hK hZ hP hS (c_X4_in l g base ad S x 0 ((S 0 0 2) - 1) hrn ⟨by decide, by decide⟩ ⟨by omega, by omega⟩) t_807 (q_callB hK 806 36 808 t_806 t_36 t_808 f_yX4_in ⟨by decide, by decide⟩) rfl rfl (Nat.le_of_ble_eq_true rfl) dX4_isCartoon_8 ⟨by decide, by decide⟩  (q_an (fun H locs hP hS => ?_))
  refine q_nm (b2_c (show (0 ≤ x ∧ x ≤ ((S 0 0 2) - 1)) ↔ (isC S x) from by unfold isC; omega)) ?_
  subst hQm
  exact q_zret hx hb hr hlocks hP hS (b2_01 _) ⟨rfl, rfl, rfl⟩ (by decide) (by decide) dX4_isCartoon_11

set_option maxHeartbeats 4000000 in
set_option maxRecDepth 100000 in
theorem c_X4_isPiece (l : Launch) (g : GT) (base : Nat) (ad : Nat → Nat → Nat) (S : St) (x : Int) (hw : wM S) (hrn : rng x) : Met l yX4_isPiece [Cond.code yX4_isPiece cX4_isPiece 2 (some FieldType.boolean)] ({ frames := 1, cells := 0, slots := 0, locals := 22 }) (va_Pc [.ref (ad 0 0), .int (i32 (x))] (PK g base ad S)) (gQ g base (an (some (.int (i32 (b2 (isP S x))))) ad S)) 0 0 (fun q => base ≤ q) := by
  refine mk_m (own := RX4) (lv0 := [(0, .ref (ad 0 0)), (1, .int (i32 (x)))]) (by decide) rfl (Nat.le_of_ble_eq_true rfl) rfl ?_
  intro p e s m below meth cz av Qm hx hb hr hml hown hlocks hK hZ hP hQm ls hl
  have hS : va_S (fun q => base ≤ q) s.heap s.heap [] := va_S.rf
  have rS : ∀ (a b : Nat) (i : Int), rng (S a b i) := fun a b i => hP.rg a b i
  obtain ⟨hz1, hz2⟩ := id hrn
  obtain ⟨hc1, hc2⟩ := hw.ps
  refine lv_iload_n hx hb dX4_isPiece_0 rfl (lv_at hl 1 rfl) ?_
  refine lv_iconst (v := i32 (0)) hx hb dX4_isPiece_1 rfl ?_
  refine lv_aload_n hx hb dX4_isPiece_2 rfl (lv_at hl 0 rfl) ?_
  refine p_get (k := 0) hx hb hown hK hP hw.al rfl rfl rfl (lay_X4 hK) 14 712 (by decide) t_712 rfl rfl dX4_isPiece_3 ?_
  refine lv_iconst (v := i32 (1)) hx hb dX4_isPiece_6 rfl ?_
  refine q_isub hx hb dX4_isPiece_7 ?_
  refine q_callS hx hb hml hl.1 hown hK hZ hP hS (c_X4_in l g base ad S x 0 ((S 0 0 14) - 1) hrn ⟨by decide, by decide⟩ ⟨by omega, by omega⟩) t_807 (q_callB hK 806 36 808 t_806 t_36 t_808 f_yX4_in ⟨by decide, by decide⟩) rfl rfl (Nat.le_of_ble_eq_true rfl) dX4_isPiece_8 ⟨by decide, by decide⟩  (q_an (fun H locs hP hS => ?_))
  have J28 : ∀ (H : Heap) (locs : List Loc), pic g base ad S H → va_S (fun q => base ≤ q) s.heap H locs → W p l e ({ frames := 1, cells := 0, slots := 0, locals := 22 } : Room) s m av below meth cz H locs 0 0 Qm (F0 m 28 ls (Value.int (i32 (b2 ((0 ≤ x ∧ x ≤ ((S 0 0 14) - 1)) ∧ ((S 0 19 x) = 0)))) :: [])) := by
    intro H locs hP hS
    refine q_nm (b2_c (show ((0 ≤ x ∧ x ≤ ((S 0 0 14) - 1)) ∧ ((S 0 19 x) = 0)) ↔ (isP S x) from by unfold isP; omega)) ?_
    subst hQm
    exact q_zret hx hb hr hlocks hP hS (b2_01 _) ⟨rfl, rfl, rfl⟩ (by decide) (by decide) dX4_isPiece_28
  refine q_if_eqb (tgt := 27) hx hb dX4_isPiece_11 (by decide) (fun c_1 => ?_) (fun c_1 => ?_)
  · -- ¬ (0 ≤ x ∧ x ≤ ((S 0 0 14) - 1))
    refine lv_iconst (v := i32 (0)) hx hb dX4_isPiece_27 rfl ?_
    refine q_nm (b2_f (show ¬ ((0 ≤ x ∧ x ≤ ((S 0 0 14) - 1)) ∧ ((S 0 19 x) = 0)) from by first | omega | (simp only [*]; done) | simp_all)).symm ?_
    exact J28 _ _ hP hS
  · -- 0 ≤ x ∧ x ≤ ((S 0 0 14) - 1)
    refine lv_aload_n hx hb dX4_isPiece_14 rfl (lv_at hl 0 rfl) ?_
    refine p_get (k := 0) hx hb hown hK hP hw.al rfl rfl rfl (lay_X4 hK) 18 716 (by decide) t_716 rfl rfl dX4_isPiece_15 ?_
    refine lv_iload_n hx hb dX4_isPiece_18 rfl (lv_at hl 1 rfl) ?_
    refine p_zald (k := 0) (r := 19) (n := 20) hx hb hK hP hw.al rfl rfl (by decide) (by decide) (by omega) (by omega) dX4_isPiece_19 ?_
    refine q_if_ne (tgt := 27) hx hb (hP.rg _ _ _) dX4_isPiece_20 (by decide) (fun c_2 => ?_) (fun c_2 => ?_)
    · -- (S 0 19 x) ≠ 0
      refine lv_iconst (v := i32 (0)) hx hb dX4_isPiece_27 rfl ?_
      refine q_nm (b2_f (show ¬ ((0 ≤ x ∧ x ≤ ((S 0 0 14) - 1)) ∧ ((S 0 19 x) = 0)) from by first | omega | (simp only [*]; done) | simp_all)).symm ?_
      exact J28 _ _ hP hS
    · -- (S 0 19 x) = 0
      refine lv_iconst (v := i32 (1)) hx hb dX4_isPiece_23 rfl ?_
      refine lv_goto (tgt := 28) hx hb dX4_isPiece_24 (by decide) ?_
      refine q_nm (b2_t (show (0 ≤ x ∧ x ≤ ((S 0 0 14) - 1)) ∧ ((S 0 19 x) = 0) from by first | omega | (simp only [*]; done) | simp_all)).symm ?_
      exact J28 _ _ hP hS

set_option maxHeartbeats 4000000 in
set_option maxRecDepth 100000 in
theorem c_X4_isDone (l : Launch) (g : GT) (base : Nat) (ad : Nat → Nat → Nat) (S : St) (x : Int) (hw : wM S) (hxx : 0 ≤ x ∧ x < 20) : Met l yX4_isDone [Cond.code yX4_isDone cX4_isDone 4 (some FieldType.boolean)] ({ frames := 0, cells := 0, slots := 0, locals := 0 }) (va_Pc [.ref (ad 0 0), .int (i32 (x))] (PK g base ad S)) (gQ g base (an (some (.int (i32 (b2 (dnM S x))))) ad S)) 0 0 (fun q => base ≤ q) := by
  refine mk_m (own := RX4) (lv0 := [(0, .ref (ad 0 0)), (1, .int (i32 (x)))]) (by decide) rfl (Nat.le_of_ble_eq_true rfl) rfl ?_
  intro p e s m below meth cz av Qm hx hb hr hml hown hlocks hK hZ hP hQm ls hl
  have hS : va_S (fun q => base ≤ q) s.heap s.heap [] := va_S.rf
  have rS : ∀ (a b : Nat) (i : Int), rng (S a b i) := fun a b i => hP.rg a b i
  obtain ⟨hx0, hx1⟩ := id hxx
  obtain ⟨hc1, hc2, hr1, hr2, hv1, hv2, hd1, hd2⟩ := hw.pc x hx0 hx1
  refine lv_iconst (v := i32 (1)) hx hb dX4_isDone_0 rfl ?_
  refine lv_istore_n (lv' := [(2, .int (i32 (1))), (0, .ref (ad 0 0)), (1, .int (i32 (x)))]) hx hb dX4_isDone_1 rfl hl (by decide) rfl (fun ls hl => ?_)
  refine lv_iconst (v := i32 (0)) hx hb dX4_isDone_2 rfl ?_
  refine lv_istore_n (lv' := [(3, .int (i32 (0))), (2, .int (i32 (1))), (0, .ref (ad 0 0)), (1, .int (i32 (x)))]) hx hb dX4_isDone_3 rfl hl (by decide) rfl (fun ls hl => ?_)
  have L4 : ∀ (k : Nat) (is1 i : Int) (H : Heap) (locs : List Loc) (ls : Array Slot), (0 ≤ i ∧ i ≤ S 0 18 x) → (is1 = b2 (∀ j, 0 ≤ j → j < i → S 0 20 (4 * x + j) = S 0 17 x)) → S 0 18 x - i < (k : Int) → pic g base ad S H → va_S (fun q => base ≤ q) s.heap H locs → lv_has ls 4 [(3, .int (i32 (i))), (2, .int (i32 (is1))), (0, .ref (ad 0 0)), (1, .int (i32 (x)))] → W p l e ({ frames := 0, cells := 0, slots := 0, locals := 0 } : Room) s m av below meth cz H locs 0 0 Qm (F0 m 4 ls []) := by
    intro k
    induction k with
    | zero => intro is1 i H locs ls hi his hmu _ _ _; exact absurd hmu (by omega)
    | succ k ih4 =>
      intro is1 i H locs ls hi his hmu hP hS hl
      refine lv_iload_n hx hb dX4_isDone_4 rfl (lv_at hl 0 rfl) ?_
      refine lv_aload_n hx hb dX4_isDone_5 rfl (lv_at hl 2 rfl) ?_
      refine p_get (k := 0) hx hb hown hK hP hw.al rfl rfl rfl (lay_X4 hK) 17 715 (by decide) t_715 rfl rfl dX4_isDone_6 ?_
      refine lv_iload_n hx hb dX4_isDone_9 rfl (lv_at hl 3 rfl) ?_
      refine p_iald (k := 0) (r := 18) (n := 20) hx hb hK hP hw.al rfl rfl (by decide) (by decide) (by omega) (by omega) dX4_isDone_10 ?_
      refine q_icmp_ge (tgt := 49) hx hb ⟨by omega, by omega⟩ (hP.rg _ _ _) dX4_isDone_11 (by decide) (fun c_1 => ?_) (fun c_1 => ?_)
      · -- (S 0 18 x) ≤ i
        refine lv_iload_n hx hb dX4_isDone_49 rfl (lv_at hl 1 rfl) ?_
        refine q_nm (show (is1 : Int) = b2 (dnM S x) from by rw [his, show i = S 0 18 x from by omega]; rfl) ?_
        subst hQm
        exact q_zret hx hb hr hlocks hP hS (b2_01 _) ⟨rfl, rfl, rfl⟩ (by decide) (by decide) dX4_isDone_50
      · -- i < (S 0 18 x)
        refine lv_iload_n hx hb dX4_isDone_14 rfl (lv_at hl 1 rfl) ?_
        have J42 : ∀ (H : Heap) (locs : List Loc), pic g base ad S H → va_S (fun q => base ≤ q) s.heap H locs → W p l e ({ frames := 0, cells := 0, slots := 0, locals := 0 } : Room) s m av below meth cz H locs 0 0 Qm (F0 m 42 ls (Value.int (i32 (b2 ((is1 ≠ 0) ∧ ((S 0 20 ((4 * x) + i)) = (S 0 17 x))))) :: [])) := by
          intro H locs hP hS
          refine lv_istore_n (lv' := [(2, .int (i32 (b2 ((is1 ≠ 0) ∧ ((S 0 20 ((4 * x) + i)) = (S 0 17 x)))))), (3, .int (i32 (i))), (0, .ref (ad 0 0)), (1, .int (i32 (x)))]) hx hb dX4_isDone_42 rfl hl (by decide) rfl (fun ls hl => ?_)
          refine lv_iinc (v := i32 (i + 1)) (lv' := [(3, .int (i32 (i + 1))), (2, .int (i32 (b2 ((is1 ≠ 0) ∧ ((S 0 20 ((4 * x) + i)) = (S 0 17 x)))))), (0, .ref (ad 0 0)), (1, .int (i32 (x)))]) hx hb dX4_isDone_43 hl (k := 1) rfl (i32_add _ _) (by decide) rfl (fun ls hl => ?_)
          refine lv_goto (tgt := 4) hx hb dX4_isDone_46 (by decide) ?_
          exact ih4 (b2 ((is1 ≠ 0) ∧ ((S 0 20 ((4 * x) + i)) = (S 0 17 x)))) (i + 1) _ _ _ (by omega) (by exact b2_c ((and_congr (b2_n his) Iff.rfl).trans (all_s hi.1).symm)) (by omega) hP hS (lv_sub hl [0, 1, 2, 3] rfl)
        refine q_if_eq (tgt := 41) hx hb (his ▸ b2_rng _) dX4_isDone_15 (by decide) (fun c_2 => ?_) (fun c_2 => ?_)
        · -- is1 = 0
          refine lv_iconst (v := i32 (0)) hx hb dX4_isDone_41 rfl ?_
          refine q_nm (b2_f (show ¬ ((is1 ≠ 0) ∧ ((S 0 20 ((4 * x) + i)) = (S 0 17 x))) from by first | omega | (simp only [*]; done) | simp_all)).symm ?_
          exact J42 _ _ hP hS
        · -- is1 ≠ 0
          refine lv_aload_n hx hb dX4_isDone_18 rfl (lv_at hl 2 rfl) ?_
          refine p_get (k := 0) hx hb hown hK hP hw.al rfl rfl rfl (lay_X4 hK) 19 717 (by decide) t_717 rfl rfl dX4_isDone_19 ?_
          refine lv_iconst (v := i32 (4)) hx hb dX4_isDone_22 rfl ?_
          refine lv_iload_n hx hb dX4_isDone_23 rfl (lv_at hl 3 rfl) ?_
          refine q_imul hx hb dX4_isDone_24 ?_
          refine lv_iload_n hx hb dX4_isDone_25 rfl (lv_at hl 0 rfl) ?_
          refine q_iadd hx hb dX4_isDone_26 ?_
          refine p_iald (k := 0) (r := 20) (n := 80) hx hb hK hP hw.al rfl rfl (by decide) (by decide) (by omega) (by omega) dX4_isDone_27 ?_
          refine lv_aload_n hx hb dX4_isDone_28 rfl (lv_at hl 2 rfl) ?_
          refine p_get (k := 0) hx hb hown hK hP hw.al rfl rfl rfl (lay_X4 hK) 16 714 (by decide) t_714 rfl rfl dX4_isDone_29 ?_
          refine lv_iload_n hx hb dX4_isDone_32 rfl (lv_at hl 3 rfl) ?_
          refine p_iald (k := 0) (r := 17) (n := 20) hx hb hK hP hw.al rfl rfl (by decide) (by decide) (by omega) (by omega) dX4_isDone_33 ?_
          refine q_icmp_ne (tgt := 41) hx hb (hP.rg _ _ _) (hP.rg _ _ _) dX4_isDone_34 (by decide) (fun c_3 => ?_) (fun c_3 => ?_)
          · -- (S 0 20 ((4 * x) + i)) ≠ (S 0 17 x)
            refine lv_iconst (v := i32 (0)) hx hb dX4_isDone_41 rfl ?_
            refine q_nm (b2_f (show ¬ ((is1 ≠ 0) ∧ ((S 0 20 ((4 * x) + i)) = (S 0 17 x))) from by first | omega | (simp only [*]; done) | simp_all)).symm ?_
            exact J42 _ _ hP hS
          · -- (S 0 20 ((4 * x) + i)) = (S 0 17 x)
            refine lv_iconst (v := i32 (1)) hx hb dX4_isDone_37 rfl ?_
            refine lv_goto (tgt := 42) hx hb dX4_isDone_38 (by decide) ?_
            refine q_nm (b2_t (show (is1 ≠ 0) ∧ ((S 0 20 ((4 * x) + i)) = (S 0 17 x)) from by first | omega | (simp only [*]; done) | simp_all)).symm ?_
            exact J42 _ _ hP hS
  exact L4 ((S 0 18 x - 0) + 1).toNat 1 0 _ _ _ (by omega) (by exact (b2_t (fun j h0 h1 => absurd h1 (by omega))).symm) (by omega) hP hS (lv_sub hl [0, 1, 2, 3] rfl)

set_option maxHeartbeats 4000000 in
set_option maxRecDepth 100000 in
theorem c_X4_isUnlike (l : Launch) (g : GT) (base : Nat) (ad : Nat → Nat → Nat) (S : St) (x c r : Int) (hw : wM S) (hxx : 0 ≤ x ∧ x < 20) (hcc : 1 ≤ c ∧ c < 24) (hrr : 0 ≤ r ∧ r < 10) : Met l yX4_isUnlike [Cond.code yX4_isUnlike cX4_isUnlike 4 (some FieldType.boolean)] ({ frames := 1, cells := 0, slots := 0, locals := 22 }) (va_Pc [.ref (ad 0 0), .int (i32 (x)), .int (i32 (c)), .int (i32 (r))] (PK g base ad S)) (gQ g base (an (some (.int (i32 (b2 (S 0 25 (240 * x + 10 * (c - 1) + r) ≠ S 0 25 (240 * x + 10 * c + r)))))) ad S)) 0 0 (fun q => base ≤ q) := by
  refine mk_m (own := RX4) (lv0 := [(0, .ref (ad 0 0)), (1, .int (i32 (x))), (2, .int (i32 (c))), (3, .int (i32 (r)))]) (by decide) rfl (Nat.le_of_ble_eq_true rfl) rfl ?_
  intro p e s m below meth cz av Qm hx hb hr hml hown hlocks hK hZ hP hQm ls hl
  have hS : va_S (fun q => base ≤ q) s.heap s.heap [] := va_S.rf
  have rS : ∀ (a b : Nat) (i : Int), rng (S a b i) := fun a b i => hP.rg a b i
  refine lv_aload_n hx hb dX4_isUnlike_0 rfl (lv_at hl 0 rfl) ?_
  refine p_get (k := 0) hx hb hown hK hP hw.al rfl rfl rfl (lay_X4 hK) 24 722 (by decide) t_722 rfl rfl dX4_isUnlike_1 ?_
  refine lv_iload_n hx hb dX4_isUnlike_4 rfl (lv_at hl 1 rfl) ?_
  refine lv_iload_n hx hb dX4_isUnlike_5 rfl (lv_at hl 2 rfl) ?_
  refine lv_iconst (v := i32 (1)) hx hb dX4_isUnlike_6 rfl ?_
  refine q_isub hx hb dX4_isUnlike_7 ?_
  refine lv_iload_n hx hb dX4_isUnlike_8 rfl (lv_at hl 3 rfl) ?_
  refine q_callS hx hb hml hl.1 hown hK hZ hP hS (c_X4_at l g base ad S x (c - 1) r ) t_841 (q_callB hK 840 36 842 t_840 t_36 t_842 f_yX4_at ⟨by decide, by decide⟩) rfl rfl (Nat.le_of_ble_eq_true rfl) dX4_isUnlike_9 ⟨by decide, by decide⟩  (q_an (fun H locs hP hS => ?_))
  refine p_iald (k := 0) (r := 25) (n := 4800) hx hb hK hP hw.al rfl rfl (by decide) (by decide) (by omega) (by omega) dX4_isUnlike_12 ?_
  refine lv_aload_n hx hb dX4_isUnlike_13 rfl (lv_at hl 0 rfl) ?_
  refine p_get (k := 0) hx hb hown hK hP hw.al rfl rfl rfl (lay_X4 hK) 24 722 (by decide) t_722 rfl rfl dX4_isUnlike_14 ?_
  refine lv_iload_n hx hb dX4_isUnlike_17 rfl (lv_at hl 1 rfl) ?_
  refine lv_iload_n hx hb dX4_isUnlike_18 rfl (lv_at hl 2 rfl) ?_
  refine lv_iload_n hx hb dX4_isUnlike_19 rfl (lv_at hl 3 rfl) ?_
  refine q_callS hx hb hml hl.1 hown hK hZ hP hS (c_X4_at l g base ad S x c r ) t_841 (q_callB hK 840 36 842 t_840 t_36 t_842 f_yX4_at ⟨by decide, by decide⟩) rfl rfl (Nat.le_of_ble_eq_true rfl) dX4_isUnlike_20 ⟨by decide, by decide⟩  (q_an (fun H locs hP hS => ?_))
  refine p_iald (k := 0) (r := 25) (n := 4800) hx hb hK hP hw.al rfl rfl (by decide) (by decide) (by omega) (by omega) dX4_isUnlike_23 ?_
  have J32 : ∀ (H : Heap) (locs : List Loc), pic g base ad S H → va_S (fun q => base ≤ q) s.heap H locs → W p l e ({ frames := 1, cells := 0, slots := 0, locals := 22 } : Room) s m av below meth cz H locs 0 0 Qm (F0 m 32 ls (Value.int (i32 (b2 (((S 0 25 (240 * x + 10 * (c - 1) + r)) ≠ (S 0 25 (240 * x + 10 * c + r)))))) :: [])) := by
    intro H locs hP hS
    refine q_nm (b2_c (show (((S 0 25 (240 * x + 10 * (c - 1) + r)) ≠ (S 0 25 (240 * x + 10 * c + r)))) ↔ (S 0 25 (240 * x + 10 * (c - 1) + r) ≠ S 0 25 (240 * x + 10 * c + r)) from by first | omega | (simp only [*]; done) | simp_all)) ?_
    subst hQm
    exact q_zret hx hb hr hlocks hP hS (b2_01 _) ⟨rfl, rfl, rfl⟩ (by decide) (by decide) dX4_isUnlike_32
  refine q_icmp_eq (tgt := 31) hx hb (hP.rg _ _ _) (hP.rg _ _ _) dX4_isUnlike_24 (by decide) (fun c_1 => ?_) (fun c_1 => ?_)
  · -- (S 0 25 (240 * x + 10 * (c - 1) + r)) = (S 0 25 (240 * x + 10 * c + r))
    refine lv_iconst (v := i32 (0)) hx hb dX4_isUnlike_31 rfl ?_
    refine q_nm (b2_f (show ¬ (((S 0 25 (240 * x + 10 * (c - 1) + r)) ≠ (S 0 25 (240 * x + 10 * c + r)))) from by first | omega | (simp only [*]; done) | simp_all)).symm ?_
    exact J32 _ _ hP hS
  · -- (S 0 25 (240 * x + 10 * (c - 1) + r)) ≠ (S 0 25 (240 * x + 10 * c + r))
    refine lv_iconst (v := i32 (1)) hx hb dX4_isUnlike_27 rfl ?_
    refine lv_goto (tgt := 32) hx hb dX4_isUnlike_28 (by decide) ?_
    refine q_nm (b2_t (show ((S 0 25 (240 * x + 10 * (c - 1) + r)) ≠ (S 0 25 (240 * x + 10 * c + r))) from by first | omega | (simp only [*]; done) | simp_all)).symm ?_
    exact J32 _ _ hP hS

set_option maxHeartbeats 4000000 in
set_option maxRecDepth 100000 in
theorem c_X4_isSlit (l : Launch) (g : GT) (base : Nat) (ad : Nat → Nat → Nat) (S : St) (x c : Int) (hw : wM S) (hxx : 0 ≤ x ∧ x < 20) (hcc : 1 ≤ c ∧ c < 24) : Met l yX4_isSlit [Cond.code yX4_isSlit cX4_isSlit 6 (some FieldType.boolean)] ({ frames := 2, cells := 0, slots := 0, locals := 45 }) (va_Pc [.ref (ad 0 0), .int (i32 (x)), .int (i32 (c))] (PK g base ad S)) (gQ g base (an (some (.int (i32 (b2 (slM S x c))))) ad S)) 0 0 (fun q => base ≤ q) := by
  refine mk_m (own := RX4) (lv0 := [(0, .ref (ad 0 0)), (1, .int (i32 (x))), (2, .int (i32 (c)))]) (by decide) rfl (Nat.le_of_ble_eq_true rfl) rfl ?_
  intro p e s m below meth cz av Qm hx hb hr hml hown hlocks hK hZ hP hQm ls hl
  have hS : va_S (fun q => base ≤ q) s.heap s.heap [] := va_S.rf
  have rS : ∀ (a b : Nat) (i : Int), rng (S a b i) := fun a b i => hP.rg a b i
  obtain ⟨hx0, hx1⟩ := id hxx
  obtain ⟨hc1, hc2, hr1, hr2, hv1, hv2, hd1, hd2⟩ := hw.pc x hx0 hx1
  refine lv_iconst (v := i32 (0)) hx hb dX4_isSlit_0 rfl ?_
  refine lv_istore_n (lv' := [(3, .int (i32 (0))), (0, .ref (ad 0 0)), (1, .int (i32 (x))), (2, .int (i32 (c)))]) hx hb dX4_isSlit_1 rfl hl (by decide) rfl (fun ls hl => ?_)
  refine lv_iconst (v := i32 (0)) hx hb dX4_isSlit_2 rfl ?_
  refine lv_istore (lv' := [(4, .int (i32 (0))), (3, .int (i32 (0))), (0, .ref (ad 0 0)), (1, .int (i32 (x))), (2, .int (i32 (c)))]) hx hb dX4_isSlit_3 hl (by decide) rfl (fun ls hl => ?_)
  refine lv_iconst (v := i32 (0)) hx hb dX4_isSlit_5 rfl ?_
  refine lv_istore (lv' := [(5, .int (i32 (0))), (4, .int (i32 (0))), (3, .int (i32 (0))), (0, .ref (ad 0 0)), (1, .int (i32 (x))), (2, .int (i32 (c)))]) hx hb dX4_isSlit_6 hl (by decide) rfl (fun ls hl => ?_)
  have L8 : ∀ (k : Nat) (many is1 i : Int) (H : Heap) (locs : List Loc) (ls : Array Slot), (0 ≤ i ∧ i ≤ S 0 17 x) → (0 ≤ many ∧ many ≤ i) → (many = rl (unM S x c) i.toNat) → (is1 = b2 (∃ j, 0 ≤ j ∧ j < i ∧ rl (unM S x c) (j + 1).toNat = 3)) → S 0 17 x - i < (k : Int) → pic g base ad S H → va_S (fun q => base ≤ q) s.heap H locs → lv_has ls 6 [(5, .int (i32 (i))), (4, .int (i32 (is1))), (3, .int (i32 (many))), (0, .ref (ad 0 0)), (1, .int (i32 (x))), (2, .int (i32 (c)))] → W p l e ({ frames := 2, cells := 0, slots := 0, locals := 45 } : Room) s m av below meth cz H locs 0 0 Qm (F0 m 8 ls []) := by
    intro k
    induction k with
    | zero => intro many is1 i H locs ls hi hmb hm his hmu _ _ _; exact absurd hmu (by omega)
    | succ k ih8 =>
      intro many is1 i H locs ls hi hmb hm his hmu hP hS hl
      refine lv_iload hx hb dX4_isSlit_8 (lv_at hl 0 rfl) ?_
      refine lv_aload_n hx hb dX4_isSlit_10 rfl (lv_at hl 3 rfl) ?_
      refine p_get (k := 0) hx hb hown hK hP hw.al rfl rfl rfl (lay_X4 hK) 16 714 (by decide) t_714 rfl rfl dX4_isSlit_11 ?_
      refine lv_iload_n hx hb dX4_isSlit_14 rfl (lv_at hl 4 rfl) ?_
      refine p_iald (k := 0) (r := 17) (n := 20) hx hb hK hP hw.al rfl rfl (by decide) (by decide) (by omega) (by omega) dX4_isSlit_15 ?_
      refine q_icmp_ge (tgt := 61) hx hb ⟨by omega, by omega⟩ (hP.rg _ _ _) dX4_isSlit_16 (by decide) (fun c_1 => ?_) (fun c_1 => ?_)
      · -- (S 0 17 x) ≤ i
        refine lv_iload hx hb dX4_isSlit_61 (lv_at hl 1 rfl) ?_
        have J85 : ∀ (H : Heap) (locs : List Loc), pic g base ad S H → va_S (fun q => base ≤ q) s.heap H locs → W p l e ({ frames := 2, cells := 0, slots := 0, locals := 45 } : Room) s m av below meth cz H locs 0 0 Qm (F0 m 85 ls (Value.int (i32 (b2 ((is1 ≠ 0) ∧ ((S 0 24 ((24 * x) + c)) = 0)))) :: [])) := by
          intro H locs hP hS
          refine q_nm (b2_c (show ((is1 ≠ 0) ∧ ((S 0 24 ((24 * x) + c)) = 0)) ↔ (slM S x c) from by have ei : i = S 0 17 x := (by omega); rw [ei] at his; exact and_congr (b2_n his) Iff.rfl)) ?_
          subst hQm
          exact q_zret hx hb hr hlocks hP hS (b2_01 _) ⟨rfl, rfl, rfl⟩ (by decide) (by decide) dX4_isSlit_85
        refine q_if_eq (tgt := 84) hx hb (his ▸ b2_rng _) dX4_isSlit_63 (by decide) (fun c_2 => ?_) (fun c_2 => ?_)
        · -- is1 = 0
          refine lv_iconst (v := i32 (0)) hx hb dX4_isSlit_84 rfl ?_
          refine q_nm (b2_f (show ¬ ((is1 ≠ 0) ∧ ((S 0 24 ((24 * x) + c)) = 0)) from by first | omega | (simp only [*]; done) | simp_all)).symm ?_
          exact J85 _ _ hP hS
        · -- is1 ≠ 0
          refine lv_aload_n hx hb dX4_isSlit_66 rfl (lv_at hl 3 rfl) ?_
          refine p_get (k := 0) hx hb hown hK hP hw.al rfl rfl rfl (lay_X4 hK) 23 721 (by decide) t_721 rfl rfl dX4_isSlit_67 ?_
          refine lv_bipush (v := i32 (24)) hx hb dX4_isSlit_70 (by decide) ?_
          refine lv_iload_n hx hb dX4_isSlit_72 rfl (lv_at hl 4 rfl) ?_
          refine q_imul hx hb dX4_isSlit_73 ?_
          refine lv_iload_n hx hb dX4_isSlit_74 rfl (lv_at hl 5 rfl) ?_
          refine q_iadd hx hb dX4_isSlit_75 ?_
          refine p_zald (k := 0) (r := 24) (n := 480) hx hb hK hP hw.al rfl rfl (by decide) (by decide) (by omega) (by omega) dX4_isSlit_76 ?_
          refine q_if_ne (tgt := 84) hx hb (hP.rg _ _ _) dX4_isSlit_77 (by decide) (fun c_3 => ?_) (fun c_3 => ?_)
          · -- (S 0 24 ((24 * x) + c)) ≠ 0
            refine lv_iconst (v := i32 (0)) hx hb dX4_isSlit_84 rfl ?_
            refine q_nm (b2_f (show ¬ ((is1 ≠ 0) ∧ ((S 0 24 ((24 * x) + c)) = 0)) from by first | omega | (simp only [*]; done) | simp_all)).symm ?_
            exact J85 _ _ hP hS
          · -- (S 0 24 ((24 * x) + c)) = 0
            refine lv_iconst (v := i32 (1)) hx hb dX4_isSlit_80 rfl ?_
            refine lv_goto (tgt := 85) hx hb dX4_isSlit_81 (by decide) ?_
            refine q_nm (b2_t (show (is1 ≠ 0) ∧ ((S 0 24 ((24 * x) + c)) = 0) from by first | omega | (simp only [*]; done) | simp_all)).symm ?_
            exact J85 _ _ hP hS
      · -- i < (S 0 17 x)
        refine lv_aload_n hx hb dX4_isSlit_19 rfl (lv_at hl 3 rfl) ?_
        refine lv_iload_n hx hb dX4_isSlit_20 rfl (lv_at hl 4 rfl) ?_
        refine lv_iload_n hx hb dX4_isSlit_21 rfl (lv_at hl 5 rfl) ?_
        refine lv_iload hx hb dX4_isSlit_22 (lv_at hl 0 rfl) ?_
        refine q_callV (k := 0) hx hb hml hl.1 hown hK hZ hP hS hw.al rfl rfl rfl (c_X4_isUnlike l g base ad S x c i hw (by omega) (by omega) (by omega)) t_897 t_27 (q_callB hK 895 36 898 t_895 t_36 t_898 f_yX4_isUnlike ⟨by decide, by decide⟩) rfl rfl (Nat.le_of_ble_eq_true rfl) dX4_isSlit_24 ⟨by decide, by decide⟩  (q_an (fun H locs hP hS => ?_))
        have J37 : ∀ (b37 : Int) (H : Heap) (locs : List Loc), (((¬ (S 0 25 (240 * x + 10 * (c - 1) + i) ≠ S 0 25 (240 * x + 10 * c + i))) ∧ b37 = 0) ∨ ((S 0 25 (240 * x + 10 * (c - 1) + i) ≠ S 0 25 (240 * x + 10 * c + i)) ∧ b37 = many + 1)) → pic g base ad S H → va_S (fun q => base ≤ q) s.heap H locs → W p l e ({ frames := 2, cells := 0, slots := 0, locals := 45 } : Room) s m av below meth cz H locs 0 0 Qm (F0 m 37 ls (Value.int (i32 b37) :: [])) := by
          intro b37 H locs hb37 hP hS
          refine lv_istore_n (lv' := [(3, .int (i32 (b37))), (5, .int (i32 (i))), (4, .int (i32 (is1))), (0, .ref (ad 0 0)), (1, .int (i32 (x))), (2, .int (i32 (c)))]) hx hb dX4_isSlit_37 rfl hl (by decide) rfl (fun ls hl => ?_)
          refine lv_iload hx hb dX4_isSlit_38 (lv_at hl 2 rfl) ?_
          have J53 : ∀ (H : Heap) (locs : List Loc), pic g base ad S H → va_S (fun q => base ≤ q) s.heap H locs → W p l e ({ frames := 2, cells := 0, slots := 0, locals := 45 } : Room) s m av below meth cz H locs 0 0 Qm (F0 m 53 ls (Value.int (i32 (b2 (((is1 ≠ 0)) ∨ ((is1 = 0) ∧ (b37 = 3))))) :: [])) := by
            intro H locs hP hS
            refine lv_istore (lv' := [(4, .int (i32 (b2 (((is1 ≠ 0)) ∨ ((is1 = 0) ∧ (b37 = 3)))))), (3, .int (i32 (b37))), (5, .int (i32 (i))), (0, .ref (ad 0 0)), (1, .int (i32 (x))), (2, .int (i32 (c)))]) hx hb dX4_isSlit_53 hl (by decide) rfl (fun ls hl => ?_)
            refine lv_iinc (v := i32 (i + 1)) (lv' := [(5, .int (i32 (i + 1))), (4, .int (i32 (b2 (((is1 ≠ 0)) ∨ ((is1 = 0) ∧ (b37 = 3)))))), (3, .int (i32 (b37))), (0, .ref (ad 0 0)), (1, .int (i32 (x))), (2, .int (i32 (c)))]) hx hb dX4_isSlit_55 hl (k := 2) rfl (i32_add _ _) (by decide) rfl (fun ls hl => ?_)
            refine lv_goto (tgt := 8) hx hb dX4_isSlit_58 (by decide) ?_
            have e37 : b37 = rl (unM S x c) (i + 1).toNat := by
              rcases hb37 with ⟨h1, h2⟩ | ⟨h1, h2⟩
              · rw [h2, rl_f _ hi.1 (show ¬ unM S x c i from h1)]
              · rw [h2, rl_t _ hi.1 (show unM S x c i from h1), ← hm]
            exact ih8 b37 (b2 (((is1 ≠ 0)) ∨ ((is1 = 0) ∧ (b37 = 3)))) (i + 1) _ _ _ (by omega) (by omega) (by exact e37) (by refine b2_c (Iff.trans ?_ (ex_s hi.1).symm); rw [← b2_n his, ← e37]; omega) (by omega) hP hS (lv_sub hl [0, 1, 2, 3, 4, 5] rfl)
          refine q_if_ne (tgt := 48) hx hb (his ▸ b2_rng _) dX4_isSlit_40 (by decide) (fun c_4 => ?_) (fun c_4 => ?_)
          · -- is1 ≠ 0
            refine lv_iconst (v := i32 (1)) hx hb dX4_isSlit_48 rfl ?_
            refine lv_goto (tgt := 53) hx hb dX4_isSlit_49 (by decide) ?_
            refine q_nm (b2_t (show ((is1 ≠ 0)) ∨ ((is1 = 0) ∧ (b37 = 3)) from by first | omega | (simp only [*]; done) | simp_all)).symm ?_
            exact J53 _ _ hP hS
          · -- is1 = 0
            refine lv_iload_n hx hb dX4_isSlit_43 rfl (lv_at hl 0 rfl) ?_
            refine lv_iconst (v := i32 (3)) hx hb dX4_isSlit_44 rfl ?_
            refine q_icmp_ne (tgt := 52) hx hb ⟨by omega, by omega⟩ ⟨by decide, by decide⟩ dX4_isSlit_45 (by decide) (fun c_5 => ?_) (fun c_5 => ?_)
            · -- b37 ≠ 3
              refine lv_iconst (v := i32 (0)) hx hb dX4_isSlit_52 rfl ?_
              refine q_nm (b2_f (show ¬ (((is1 ≠ 0)) ∨ ((is1 = 0) ∧ (b37 = 3))) from by first | omega | (simp only [*]; done) | simp_all)).symm ?_
              exact J53 _ _ hP hS
            · -- b37 = 3
              refine lv_iconst (v := i32 (1)) hx hb dX4_isSlit_48 rfl ?_
              refine lv_goto (tgt := 53) hx hb dX4_isSlit_49 (by decide) ?_
              refine q_nm (b2_t (show ((is1 ≠ 0)) ∨ ((is1 = 0) ∧ (b37 = 3)) from by first | omega | (simp only [*]; done) | simp_all)).symm ?_
              exact J53 _ _ hP hS
        refine q_if_eqb (tgt := 36) hx hb dX4_isSlit_27 (by decide) (fun c_6 => ?_) (fun c_6 => ?_)
        · -- ¬ (S 0 25 (240 * x + 10 * (c - 1) + i) ≠ S 0 25 (240 * x + 10 * c + i))
          refine lv_iconst (v := i32 (0)) hx hb dX4_isSlit_36 rfl ?_
          exact J37 _ _ _ (by first | omega | (simp only [*]; done) | simp_all) hP hS
        · -- S 0 25 (240 * x + 10 * (c - 1) + i) ≠ S 0 25 (240 * x + 10 * c + i)
          refine lv_iload_n hx hb dX4_isSlit_30 rfl (lv_at hl 2 rfl) ?_
          refine lv_iconst (v := i32 (1)) hx hb dX4_isSlit_31 rfl ?_
          refine q_iadd hx hb dX4_isSlit_32 ?_
          refine lv_goto (tgt := 37) hx hb dX4_isSlit_33 (by decide) ?_
          exact J37 _ _ _ (by first | omega | (simp only [*]; done) | simp_all) hP hS
  exact L8 ((S 0 17 x - 0) + 1).toNat 0 0 0 _ _ _ (by omega) (by omega) (by rfl) (by exact (b2_f (fun ⟨j, h0, h1, _⟩ => absurd h1 (by omega))).symm) (by omega) hP hS (lv_sub hl [0, 1, 2, 3, 4, 5] rfl)
