set_option maxHeartbeats 4000000 in
set_option maxRecDepth 100000 in
theorem c_X4_slits (l : Launch) (g : GT) (base : Nat) (ad : Nat → Nat → Nat) (S : St) (x : Int) (hw : wM S) (hxx : 0 ≤ x ∧ x < 20) : Met l yX4_slits [Cond.code yX4_slits cX4_slits 4 (some FieldType.int)] ({ frames := 3, cells := 0, slots := 0, locals := 70 }) (va_Pc [.ref (ad 0 0), .int (i32 (x))] (PK g base ad S)) (gQ g base (an (some (.int (i32 (stM S x)))) ad S)) 0 0 (fun q => base ≤ q) := by
  refine mk_m (own := RX4) (lv0 := [(0, .ref (ad 0 0)), (1, .int (i32 (x)))]) (by decide) rfl (Nat.le_of_ble_eq_true rfl) rfl ?_
  intro p e s m below meth cz av Qm hx hb hr hml hown hlocks hK hZ hP hQm ls hl
  have hS : va_S (fun q => base ≤ q) s.heap s.heap [] := va_S.rf
  have rS : ∀ (a1 b1 : Nat) (i1 : Int), rng (S a1 b1 i1) := fun a1 b1 i1 => hP.rg a1 b1 i1
  obtain ⟨hx0, hx1⟩ := id hxx
  obtain ⟨hc1, hc2, hr1, hr2, hv1, hv2, hd1, hd2⟩ := hw.pc x hx0 hx1
  refine lv_iconst (v := i32 (0)) hx hb dX4_slits_0 rfl ?_
  refine lv_istore_n (lv' := [(2, .int (i32 (0))), (0, .ref (ad 0 0)), (1, .int (i32 (x)))]) hx hb dX4_slits_1 rfl hl (by decide) rfl (fun ls hl => ?_)
  refine lv_iconst (v := i32 (1)) hx hb dX4_slits_2 rfl ?_
  refine lv_istore_n (lv' := [(3, .int (i32 (1))), (2, .int (i32 (0))), (0, .ref (ad 0 0)), (1, .int (i32 (x)))]) hx hb dX4_slits_3 rfl hl (by decide) rfl (fun ls hl => ?_)
  have L4 : ∀ (k : Nat) (t q : Int) (H : Heap) (locs : List Loc) (ls : Array Slot), (1 ≤ q ∧ (q = 1 ∨ q ≤ S 0 16 x)) → (¬ dnM S x → q = 1) → (t = sm (fun i => b2 (slM S x (i + 1))) (q - 1).toNat) → S 0 16 x + 1 - q < (k : Int) → pic g base ad S H → va_S (fun q => base ≤ q) s.heap H locs → lv_has ls 4 [(3, .int (i32 (q))), (2, .int (i32 (t))), (0, .ref (ad 0 0)), (1, .int (i32 (x)))] → W p l e ({ frames := 3, cells := 0, slots := 0, locals := 70 } : Room) s m av below meth cz H locs 0 0 Qm (F0 m 4 ls []) := by
    intro k
    induction k with
    | zero => intro t q H locs ls hq hg ht hmu _ _ _; exact absurd hmu (by omega)
    | succ k ih4 =>
      intro t q H locs ls hq hg ht hmu hP hS hl
      refine lv_iload_n hx hb dX4_slits_4 rfl (lv_at hl 0 rfl) ?_
      refine lv_aload_n hx hb dX4_slits_5 rfl (lv_at hl 2 rfl) ?_
      refine p_get (k := 0) hx hb hown hK hP hw.al rfl rfl rfl (lay_X4 hK) 15 713 (by decide) t_713 rfl rfl dX4_slits_6 ?_
      refine lv_iload_n hx hb dX4_slits_9 rfl (lv_at hl 3 rfl) ?_
      refine p_iald (k := 0) (r := 16) (n := 20) hx hb hK hP hw.al rfl rfl (by decide) (by decide) (by omega) (by omega) dX4_slits_10 ?_
      refine q_icmp_ge (tgt := 45) hx hb ⟨by omega, by omega⟩ (hP.rg _ _ _) dX4_slits_11 (by decide) (fun c_1 => ?_) (fun c_1 => ?_)
      · -- (S 0 16 x) ≤ q
        refine lv_iload_n hx hb dX4_slits_45 rfl (lv_at hl 1 rfl) ?_
        refine q_nm (show (t : Int) = stM S x from by rw [ht]; first | exact stM_1 hq hg (by assumption) | exact stM_2 hg (by assumption)) ?_
        subst hQm
        exact q_iret hx hb hr hlocks hP hS ⟨rfl, rfl, rfl⟩ (by decide) (by decide) dX4_slits_46
      · -- q < (S 0 16 x)
        refine lv_aload_n hx hb dX4_slits_14 rfl (lv_at hl 2 rfl) ?_
        refine lv_iload_n hx hb dX4_slits_15 rfl (lv_at hl 3 rfl) ?_
        refine q_callV (k := 0) hx hb hml hl.1 hown hK hZ hP hS hw.al rfl rfl rfl (c_X4_isDone l g base ad S x hw (by omega)) t_885 t_24 (q_callB hK 883 36 886 t_883 t_36 t_886 f_yX4_isDone ⟨by decide, by decide⟩) rfl rfl (Nat.le_of_ble_eq_true rfl) dX4_slits_16 ⟨by decide, by decide⟩  (q_an (fun H locs hP hS => ?_))
        refine q_if_eqb (tgt := 45) hx hb dX4_slits_19 (by decide) (fun c_2 => ?_) (fun c_2 => ?_)
        · -- ¬ (dnM S x)
          refine lv_iload_n hx hb dX4_slits_45 rfl (lv_at hl 1 rfl) ?_
          refine q_nm (show (t : Int) = stM S x from by rw [ht]; first | exact stM_1 hq hg (by assumption) | exact stM_2 hg (by assumption)) ?_
          subst hQm
          exact q_iret hx hb hr hlocks hP hS ⟨rfl, rfl, rfl⟩ (by decide) (by decide) dX4_slits_46
        · -- dnM S x
          refine lv_iload_n hx hb dX4_slits_22 rfl (lv_at hl 1 rfl) ?_
          refine lv_aload_n hx hb dX4_slits_23 rfl (lv_at hl 2 rfl) ?_
          refine lv_iload_n hx hb dX4_slits_24 rfl (lv_at hl 3 rfl) ?_
          refine lv_iload_n hx hb dX4_slits_25 rfl (lv_at hl 0 rfl) ?_
          refine q_callV (k := 0) hx hb hml hl.1 hown hK hZ hP hS hw.al rfl rfl rfl (c_X4_isSlit l g base ad S x q hw (by omega) (by omega)) t_893 t_26 (q_callB hK 891 36 894 t_891 t_36 t_894 f_yX4_isSlit ⟨by decide, by decide⟩) rfl rfl (Nat.le_of_ble_eq_true rfl) dX4_slits_26 ⟨by decide, by decide⟩  (q_an (fun H locs hP hS => ?_))
          have J37 : ∀ (H : Heap) (locs : List Loc), pic g base ad S H → va_S (fun q => base ≤ q) s.heap H locs → W p l e ({ frames := 3, cells := 0, slots := 0, locals := 70 } : Room) s m av below meth cz H locs 0 0 Qm (F0 m 37 ls (Value.int (i32 (b2 ((slM S x q)))) :: Value.int (i32 (t)) :: [])) := by
            intro H locs hP hS
            refine q_iadd hx hb dX4_slits_37 ?_
            refine lv_istore_n (lv' := [(2, .int (i32 (t + (b2 ((slM S x q)))))), (3, .int (i32 (q))), (0, .ref (ad 0 0)), (1, .int (i32 (x)))]) hx hb dX4_slits_38 rfl hl (by decide) rfl (fun ls hl => ?_)
            refine lv_iinc (v := i32 (q + 1)) (lv' := [(3, .int (i32 (q + 1))), (2, .int (i32 (t + (b2 ((slM S x q)))))), (0, .ref (ad 0 0)), (1, .int (i32 (x)))]) hx hb dX4_slits_39 hl (k := 1) rfl (i32_add _ _) (by decide) rfl (fun ls hl => ?_)
            refine lv_goto (tgt := 4) hx hb dX4_slits_42 (by decide) ?_
            exact ih4 (t + (b2 ((slM S x q)))) (q + 1) _ _ _ (by omega) (by exact fun h => absurd c_2 h) (by rw [show q + 1 - 1 = (q - 1) + 1 from by omega, sm_1 _ (by omega), ← ht, show q - 1 + 1 = q from by omega]) (by omega) hP hS (lv_sub hl [0, 1, 2, 3] rfl)
          refine q_if_eqb (tgt := 36) hx hb dX4_slits_29 (by decide) (fun c_3 => ?_) (fun c_3 => ?_)
          · -- ¬ (slM S x q)
            refine lv_iconst (v := i32 (0)) hx hb dX4_slits_36 rfl ?_
            refine q_nm (b2_f (show ¬ ((slM S x q)) from by first | omega | (simp only [*]; done) | simp_all)).symm ?_
            exact J37 _ _ hP hS
          · -- slM S x q
            refine lv_iconst (v := i32 (1)) hx hb dX4_slits_32 rfl ?_
            refine lv_goto (tgt := 37) hx hb dX4_slits_33 (by decide) ?_
            refine q_nm (b2_t (show (slM S x q) from by first | omega | (simp only [*]; done) | simp_all)).symm ?_
            exact J37 _ _ hP hS
  exact L4 ((S 0 16 x + 1 - 1) + 1).toNat 0 1 _ _ _ (by omega) (by exact fun _ => rfl) (by rfl) (by omega) hP hS (lv_sub hl [0, 1, 2, 3] rfl)

set_option maxHeartbeats 4000000 in
set_option maxRecDepth 100000 in
theorem c_X4_sew (l : Launch) (g : GT) (base : Nat) (ad : Nat → Nat → Nat) (S : St) (x q : Int) (hw : wM S) (hrn : rng x) (hrn2 : rng q) : Met l yX4_sew [Cond.code yX4_sew cX4_sew 5 (some FieldType.boolean)] ({ frames := 3, cells := 0, slots := 0, locals := 70 }) (va_Pc [.ref (ad 0 0), .int (i32 (x)), .int (i32 (q))] (PK g base ad S)) (gQ g base (mP ad (inM S x q) ((inM S x q) ∧ (dnM S x)) (True) S (some (.int (i32 (b2 (slM (st S 0 0 27 (thr (inM S x q) ((inM S x q) ∧ (dnM S x)) (True))) x q))))) (fun Z => Z = st (st S 0 0 27 (thr (inM S x q) ((inM S x q) ∧ (dnM S x)) (True))) 0 24 ((24 * x) + q) 1))) 0 0 (fun q => base ≤ q) := by
  refine mk_m (own := RX4) (lv0 := [(0, .ref (ad 0 0)), (1, .int (i32 (x))), (2, .int (i32 (q)))]) (by decide) rfl (Nat.le_of_ble_eq_true rfl) rfl ?_
  intro p e s m below meth cz av Qm hx hb hr hml hown hlocks hK hZ hP hQm ls hl
  have hS : va_S (fun q => base ≤ q) s.heap s.heap [] := va_S.rf
  have rS : ∀ (a1 b1 : Nat) (i1 : Int), rng (S a1 b1 i1) := fun a1 b1 i1 => hP.rg a1 b1 i1
  obtain ⟨hp1, hp2⟩ := hw.ps
  refine lv_aload_n hx hb dX4_sew_0 rfl (lv_at hl 0 rfl) ?_
  refine lv_iload_n hx hb dX4_sew_1 rfl (lv_at hl 1 rfl) ?_
  refine lv_iload_n hx hb dX4_sew_2 rfl (lv_at hl 2 rfl) ?_
  refine q_callV (k := 0) hx hb hml hl.1 hown hK hZ hP hS hw.al rfl rfl rfl (c_X4_isInner l g base ad S x q hw hrn hrn2) t_913 t_29 (q_callB hK 911 36 914 t_911 t_36 t_914 f_yX4_isInner ⟨by decide, by decide⟩) rfl rfl (Nat.le_of_ble_eq_true rfl) dX4_sew_3 ⟨by decide, by decide⟩  (q_an (fun H locs hP hS => ?_))
  refine lv_istore_n (lv' := [(3, .int (i32 (b2 (inM S x q)))), (0, .ref (ad 0 0)), (1, .int (i32 (x))), (2, .int (i32 (q)))]) hx hb dX4_sew_6 rfl hl (by decide) rfl (fun ls hl => ?_)
  refine lv_aload_n hx hb dX4_sew_7 rfl (lv_at hl 1 rfl) ?_
  refine lv_iload_n hx hb dX4_sew_8 rfl (lv_at hl 0 rfl) ?_
  refine lv_iload_n hx hb dX4_sew_9 rfl (lv_at hl 0 rfl) ?_
  have J26 : ∀ (H : Heap) (locs : List Loc), pic g base ad S H → va_S (fun q => base ≤ q) s.heap H locs → W p l e ({ frames := 3, cells := 0, slots := 0, locals := 70 } : Room) s m av below meth cz H locs 0 0 Qm (F0 m 26 ls (Value.int (i32 (b2 ((inM S x q) ∧ (dnM S x)))) :: Value.int (i32 (b2 (inM S x q))) :: Value.ref (ad 0 0) :: [])) := by
    intro H locs hP hS
    refine lv_iconst (v := i32 (1)) hx hb dX4_sew_26 rfl ?_
    refine W.eq (g2 := F0 m 27 ls (Value.int (i32 (b2 (True))) :: Value.int (i32 (b2 ((inM S x q) ∧ (dnM S x)))) :: Value.int (i32 (b2 (inM S x q))) :: Value.ref (ad 0 0) :: [])) (by simp only [b2_t trivial, b2_f not_false] <;> rfl) ?_
    refine q_callV (k := 0) hx hb hml hl.1 hown hK hZ hP hS hw.al rfl rfl rfl (c_X4_goes l g base ad S (inM S x q) ((inM S x q) ∧ (dnM S x)) True hw.al) t_796 t_14 (q_callB hK 794 36 797 t_794 t_36 t_797 f_yX4_goes ⟨by decide, by decide⟩) rfl rfl (Nat.le_of_ble_eq_true rfl) dX4_sew_27 ⟨by decide, by decide⟩  (q_an (fun H locs hP hS => ?_))
    generalize eS1 : st S 0 0 27 (thr (inM S x q) ((inM S x q) ∧ (dnM S x)) True) = S1 at hP
    have rS1 : ∀ (a1 b1 : Nat) (i1 : Int), rng (S1 a1 b1 i1) := fun a1 b1 i1 => hP.rg a1 b1 i1
    have qS1 : ∀ (a1 b1 : Nat) (i1 : Int), S1 a1 b1 i1 = if a1 = 0 ∧ b1 = 0 ∧ i1 = 27 then thr (inM S x q) ((inM S x q) ∧ (dnM S x)) True else S a1 b1 i1 := fun a1 b1 i1 => by rw [← eS1]; exact st_at _ _ _ _ _ _ _ _
    have aS1_0 : S1 0 0 (-1) = 1 := by rw [qS1, if_neg (by omega)]; exact hw.al
    have wS1 : wM S1 := wM.keep hw (fun r j h => by unfold wrow at h; rw [qS1, if_neg (by omega)])
    refine q_if_neb (tgt := 35) hx hb dX4_sew_30 (by decide) (fun c_2 => ?_) (fun c_2 => ?_)
    · -- (inM S x q) ∧ ((inM S x q) ∧ (dnM S x)) ∧ True
      obtain ⟨⟨⟨hq1, hq2, hq3⟩, hq4, hq5⟩, -, -⟩ := id c_2
      obtain ⟨hc1, hc2, hr1, hr2, hv1, hv2, hd1, hd2⟩ := hw.pc x (by omega) (by omega)
      refine lv_aload_n hx hb dX4_sew_35 rfl (lv_at hl 1 rfl) ?_
      refine lv_iload_n hx hb dX4_sew_36 rfl (lv_at hl 2 rfl) ?_
      refine lv_iload_n hx hb dX4_sew_37 rfl (lv_at hl 3 rfl) ?_
      refine q_callV (k := 0) hx hb hml hl.1 hown hK hZ hP hS aS1_0 rfl rfl rfl (c_X4_isSlit l g base ad S1 x q wS1 (by omega) (by omega)) t_893 t_26 (q_callB hK 891 36 894 t_891 t_36 t_894 f_yX4_isSlit ⟨by decide, by decide⟩) rfl rfl (Nat.le_of_ble_eq_true rfl) dX4_sew_38 ⟨by decide, by decide⟩  (q_an (fun H locs hP hS => ?_))
      refine lv_istore (lv' := [(4, .int (i32 (b2 (slM S1 x q)))), (3, .int (i32 (b2 (inM S x q)))), (0, .ref (ad 0 0)), (1, .int (i32 (x))), (2, .int (i32 (q)))]) hx hb dX4_sew_41 hl (by decide) rfl (fun ls hl => ?_)
      refine lv_aload_n hx hb dX4_sew_43 rfl (lv_at hl 2 rfl) ?_
      refine p_get (k := 0) hx hb hown hK hP aS1_0 rfl rfl rfl (lay_X4 hK) 23 721 (by decide) t_721 rfl rfl dX4_sew_44 ?_
      refine lv_bipush (v := i32 (24)) hx hb dX4_sew_47 (by decide) ?_
      refine lv_iload_n hx hb dX4_sew_49 rfl (lv_at hl 3 rfl) ?_
      refine q_imul hx hb dX4_sew_50 ?_
      refine lv_iload_n hx hb dX4_sew_51 rfl (lv_at hl 4 rfl) ?_
      refine q_iadd hx hb dX4_sew_52 ?_
      refine lv_iconst (v := i32 (1)) hx hb dX4_sew_53 rfl ?_
      refine p_zast (k := 0) (r := 24) (n := 480) hx hb hK hP hS aS1_0 rfl rfl (by decide) (by decide) (by omega) (by omega) (by omega) dX4_sew_54 (fun H locs hP hS => ?_)
      generalize eS3 : st S1 0 24 ((24 * x) + q) 1 = S3 at hP
      have qS3 : ∀ (a1 b1 : Nat) (i1 : Int), S3 a1 b1 i1 = if a1 = 0 ∧ b1 = 24 ∧ i1 = (24 * x) + q then 1 else S1 a1 b1 i1 := fun a1 b1 i1 => by rw [← eS3]; exact st_at _ _ _ _ _ _ _ _
      have rS3 : ∀ (a1 b1 : Nat) (i1 : Int), rng (S3 a1 b1 i1) := fun a1 b1 i1 => hP.rg a1 b1 i1
      have aS3_0 : S3 0 0 (-1) = 1 := by rw [qS3, if_neg (by omega)]; exact aS1_0
      have wS3 : wM S3 := wM.keep wS1 (fun r j h => by unfold wrow at h; rw [qS3, if_neg (by omega)])
      refine lv_iload hx hb dX4_sew_55 (lv_at hl 0 rfl) ?_
      subst hQm
      exact q_zret hx hb hr hlocks hP hS (b2_01 _) (by subst eS3; subst eS1; exact ⟨rfl, Or.inr ⟨c_2, rfl, rfl⟩⟩) (by decide) (by decide) dX4_sew_57
    · -- ¬ ((inM S x q) ∧ ((inM S x q) ∧ (dnM S x)) ∧ True)
      refine lv_iconst (v := i32 (0)) hx hb dX4_sew_33 rfl ?_
      subst hQm
      exact q_zret hx hb hr hlocks hP hS (by omega) (by subst eS1; exact ⟨rfl, Or.inl ⟨c_2, rfl, rfl⟩⟩) (by decide) (by decide) dX4_sew_34
  refine q_if_eqb (tgt := 25) hx hb dX4_sew_10 (by decide) (fun c_4 => ?_) (fun c_4 => ?_)
  · -- ¬ (inM S x q)
    refine lv_iconst (v := i32 (0)) hx hb dX4_sew_25 rfl ?_
    refine q_nm (b2_f (show ¬ ((inM S x q) ∧ (dnM S x)) from by first | omega | (simp only [*]; done) | simp_all)).symm ?_
    exact J26 _ _ hP hS
  · -- inM S x q
    obtain ⟨⟨hq1, hq2, hq3⟩, hq4, hq5⟩ := id c_4
    refine lv_aload_n hx hb dX4_sew_13 rfl (lv_at hl 1 rfl) ?_
    refine lv_iload_n hx hb dX4_sew_14 rfl (lv_at hl 2 rfl) ?_
    refine q_callV (k := 0) hx hb hml hl.1 hown hK hZ hP hS hw.al rfl rfl rfl (c_X4_isDone l g base ad S x hw (by omega)) t_885 t_24 (q_callB hK 883 36 886 t_883 t_36 t_886 f_yX4_isDone ⟨by decide, by decide⟩) rfl rfl (Nat.le_of_ble_eq_true rfl) dX4_sew_15 ⟨by decide, by decide⟩  (q_an (fun H locs hP hS => ?_))
    refine q_if_eqb (tgt := 25) hx hb dX4_sew_18 (by decide) (fun c_5 => ?_) (fun c_5 => ?_)
    · -- ¬ (dnM S x)
      refine lv_iconst (v := i32 (0)) hx hb dX4_sew_25 rfl ?_
      refine q_nm (b2_f (show ¬ ((inM S x q) ∧ (dnM S x)) from by first | omega | (simp only [*]; done) | simp_all)).symm ?_
      exact J26 _ _ hP hS
    · -- dnM S x
      refine lv_iconst (v := i32 (1)) hx hb dX4_sew_21 rfl ?_
      refine lv_goto (tgt := 26) hx hb dX4_sew_22 (by decide) ?_
      refine q_nm (b2_t (show (inM S x q) ∧ (dnM S x) from by first | omega | (simp only [*]; done) | simp_all)).symm ?_
      exact J26 _ _ hP hS

set_option maxHeartbeats 4000000 in
set_option maxRecDepth 100000 in
theorem c_X4_isTrue (l : Launch) (g : GT) (base : Nat) (ad : Nat → Nat → Nat) (S : St) (x : Int) (hw : wM S) (hrn : rng x) (hfc : ∀ j, 0 ≤ j → j < 480 → 0 ≤ S 0 23 j ∧ S 0 23 j ≤ 24) : Met l yX4_isTrue [Cond.code yX4_isTrue cX4_isTrue 4 (some FieldType.boolean)] ({ frames := 2, cells := 0, slots := 0, locals := 43 }) (va_Pc [.ref (ad 0 0), .int (i32 (x))] (PK g base ad S)) (gQ g base (mP ad (isP S x) (True) (True) S (some (.int (i32 (b2 (trM (st S 0 0 27 (thr (isP S x) (True) (True))) x))))) (fun Z => Z = (st S 0 0 27 (thr (isP S x) (True) (True)))))) 0 0 (fun q => base ≤ q) := by
  refine mk_m (own := RX4) (lv0 := [(0, .ref (ad 0 0)), (1, .int (i32 (x)))]) (by decide) rfl (Nat.le_of_ble_eq_true rfl) rfl ?_
  intro p e s m below meth cz av Qm hx hb hr hml hown hlocks hK hZ hP hQm ls hl
  have hS : va_S (fun q => base ≤ q) s.heap s.heap [] := va_S.rf
  have rS : ∀ (a1 b1 : Nat) (i1 : Int), rng (S a1 b1 i1) := fun a1 b1 i1 => hP.rg a1 b1 i1
  obtain ⟨hp1, hp2⟩ := hw.ps
  refine lv_aload_n hx hb dX4_isTrue_0 rfl (lv_at hl 0 rfl) ?_
  refine lv_aload_n hx hb dX4_isTrue_1 rfl (lv_at hl 0 rfl) ?_
  refine lv_iload_n hx hb dX4_isTrue_2 rfl (lv_at hl 1 rfl) ?_
  refine q_callV (k := 0) hx hb hml hl.1 hown hK hZ hP hS hw.al rfl rfl rfl (c_X4_isPiece l g base ad S x hw hrn) t_861 t_19 (q_callB hK 859 36 862 t_859 t_36 t_862 f_yX4_isPiece ⟨by decide, by decide⟩) rfl rfl (Nat.le_of_ble_eq_true rfl) dX4_isTrue_3 ⟨by decide, by decide⟩  (q_an (fun H locs hP hS => ?_))
  refine lv_iconst (v := i32 (1)) hx hb dX4_isTrue_6 rfl ?_
  refine lv_iconst (v := i32 (1)) hx hb dX4_isTrue_7 rfl ?_
  refine W.eq (g2 := F0 m 8 ls (Value.int (i32 (b2 (True))) :: Value.int (i32 (b2 (True))) :: Value.int (i32 (b2 (isP S x))) :: Value.ref (ad 0 0) :: [])) (by simp only [b2_t trivial, b2_f not_false] <;> rfl) ?_
  refine q_callV (k := 0) hx hb hml hl.1 hown hK hZ hP hS hw.al rfl rfl rfl (c_X4_goes l g base ad S (isP S x) True True hw.al) t_796 t_14 (q_callB hK 794 36 797 t_794 t_36 t_797 f_yX4_goes ⟨by decide, by decide⟩) rfl rfl (Nat.le_of_ble_eq_true rfl) dX4_isTrue_8 ⟨by decide, by decide⟩  (q_an (fun H locs hP hS => ?_))
  generalize eS1 : st S 0 0 27 (thr (isP S x) True True) = S1 at hP
  have rS1 : ∀ (a1 b1 : Nat) (i1 : Int), rng (S1 a1 b1 i1) := fun a1 b1 i1 => hP.rg a1 b1 i1
  have qS1 : ∀ (a1 b1 : Nat) (i1 : Int), S1 a1 b1 i1 = if a1 = 0 ∧ b1 = 0 ∧ i1 = 27 then thr (isP S x) True True else S a1 b1 i1 := fun a1 b1 i1 => by rw [← eS1]; exact st_at _ _ _ _ _ _ _ _
  have aS1_0 : S1 0 0 (-1) = 1 := by rw [qS1, if_neg (by omega)]; exact hw.al
  have wS1 : wM S1 := wM.keep hw (fun r j h => by unfold wrow at h; rw [qS1, if_neg (by omega)])
  refine q_if_neb (tgt := 16) hx hb dX4_isTrue_11 (by decide) (fun c_2 => ?_) (fun c_2 => ?_)
  · -- (isP S x) ∧ True ∧ True
    obtain ⟨⟨hq1, hq2, hq3⟩, -, -⟩ := id c_2
    obtain ⟨hc1, hc2, hr1, hr2, hv1, hv2, hd1, hd2⟩ := hw.pc x (by omega) (by omega)
    have e16 : S1 0 16 x = S 0 16 x := by rw [qS1, if_neg (by omega)]
    refine lv_iconst (v := i32 (1)) hx hb dX4_isTrue_16 rfl ?_
    refine lv_istore_n (lv' := [(2, .int (i32 (1))), (0, .ref (ad 0 0)), (1, .int (i32 (x)))]) hx hb dX4_isTrue_17 rfl hl (by decide) rfl (fun ls hl => ?_)
    refine lv_iconst (v := i32 (1)) hx hb dX4_isTrue_18 rfl ?_
    refine lv_istore_n (lv' := [(3, .int (i32 (1))), (2, .int (i32 (1))), (0, .ref (ad 0 0)), (1, .int (i32 (x)))]) hx hb dX4_isTrue_19 rfl hl (by decide) rfl (fun ls hl => ?_)
    have L20 : ∀ (k : Nat) (is1 q : Int) (H : Heap) (locs : List Loc) (ls : Array Slot), (1 ≤ q ∧ (q = 1 ∨ q ≤ S 0 16 x)) → (is1 = b2 (∀ j, 1 ≤ j → j < q → riM S1 x j)) → S 0 16 x + 1 - q < (k : Int) → pic g base ad S1 H → va_S (fun q => base ≤ q) s.heap H locs → lv_has ls 4 [(3, .int (i32 (q))), (2, .int (i32 (is1))), (0, .ref (ad 0 0)), (1, .int (i32 (x)))] → W p l e ({ frames := 2, cells := 0, slots := 0, locals := 43 } : Room) s m av below meth cz H locs 0 0 Qm (F0 m 20 ls []) := by
      intro k
      induction k with
      | zero => intro is1 q H locs ls hq his hmu _ _ _; exact absurd hmu (by omega)
      | succ k ih20 =>
        intro is1 q H locs ls hq his hmu hP hS hl
        refine lv_iload_n hx hb dX4_isTrue_20 rfl (lv_at hl 0 rfl) ?_
        refine lv_aload_n hx hb dX4_isTrue_21 rfl (lv_at hl 2 rfl) ?_
        refine p_get (k := 0) hx hb hown hK hP aS1_0 rfl rfl rfl (lay_X4 hK) 15 713 (by decide) t_713 rfl rfl dX4_isTrue_22 ?_
        refine lv_iload_n hx hb dX4_isTrue_25 rfl (lv_at hl 3 rfl) ?_
        refine p_iald (k := 0) (r := 16) (n := 20) hx hb hK hP aS1_0 rfl rfl (by decide) (by decide) (by omega) (by omega) dX4_isTrue_26 ?_
        refine q_nm (show S1 0 16 x = S 0 16 x from by rw [qS1, if_neg (by omega)]) ?_
        refine q_icmp_ge (tgt := 55) hx hb ⟨by omega, by omega⟩ (rS _ _ _) dX4_isTrue_27 (by decide) (fun c_3 => ?_) (fun c_3 => ?_)
        · -- (S 0 16 x) ≤ q
          refine lv_iload_n hx hb dX4_isTrue_55 rfl (lv_at hl 1 rfl) ?_
          subst hQm
          exact q_zret hx hb hr hlocks hP hS (his ▸ b2_01 _) (by exact ⟨rfl, Or.inr ⟨c_2, (ri (by rw [eS1, his]; exact b2_c ⟨fun h j h0 h1 => h j h0 (by omega), fun h j h0 h1 => h j h0 (by omega)⟩)), eS1.symm⟩⟩) (by decide) (by decide) dX4_isTrue_56
        · -- q < (S 0 16 x)
          refine lv_iload_n hx hb dX4_isTrue_30 rfl (lv_at hl 1 rfl) ?_
          have J48 : ∀ (H : Heap) (locs : List Loc), pic g base ad S1 H → va_S (fun q => base ≤ q) s.heap H locs → W p l e ({ frames := 2, cells := 0, slots := 0, locals := 43 } : Room) s m av below meth cz H locs 0 0 Qm (F0 m 48 ls (Value.int (i32 (b2 ((is1 ≠ 0) ∧ (riM S1 x q)))) :: [])) := by
            intro H locs hP hS
            refine lv_istore_n (lv' := [(2, .int (i32 (b2 ((is1 ≠ 0) ∧ (riM S1 x q))))), (3, .int (i32 (q))), (0, .ref (ad 0 0)), (1, .int (i32 (x)))]) hx hb dX4_isTrue_48 rfl hl (by decide) rfl (fun ls hl => ?_)
            refine lv_iinc (v := i32 (q + 1)) (lv' := [(3, .int (i32 (q + 1))), (2, .int (i32 (b2 ((is1 ≠ 0) ∧ (riM S1 x q))))), (0, .ref (ad 0 0)), (1, .int (i32 (x)))]) hx hb dX4_isTrue_49 hl (k := 1) rfl (i32_add _ _) (by decide) rfl (fun ls hl => ?_)
            refine lv_goto (tgt := 20) hx hb dX4_isTrue_52 (by decide) ?_
            exact ih20 (b2 ((is1 ≠ 0) ∧ (riM S1 x q))) (q + 1) _ _ _ (by omega) (by exact b2_c ((and_congr (b2_n his) Iff.rfl).trans (all_1 hq.1).symm)) (by omega) hP hS (lv_sub hl [0, 1, 2, 3] rfl)
          refine q_if_eq (tgt := 47) hx hb (his ▸ b2_rng _) dX4_isTrue_31 (by decide) (fun c_4 => ?_) (fun c_4 => ?_)
          · -- is1 = 0
            refine lv_iconst (v := i32 (0)) hx hb dX4_isTrue_47 rfl ?_
            refine q_nm (b2_f (show ¬ ((is1 ≠ 0) ∧ (riM S1 x q)) from by first | omega | (simp only [*]; done) | simp_all)).symm ?_
            exact J48 _ _ hP hS
          · -- is1 ≠ 0
            refine lv_aload_n hx hb dX4_isTrue_34 rfl (lv_at hl 2 rfl) ?_
            refine lv_iload_n hx hb dX4_isTrue_35 rfl (lv_at hl 3 rfl) ?_
            refine lv_iload_n hx hb dX4_isTrue_36 rfl (lv_at hl 0 rfl) ?_
            refine q_callV (k := 0) hx hb hml hl.1 hown hK hZ hP hS aS1_0 rfl rfl rfl (c_X4_isRight l g base ad S1 x q wS1 (by omega) (by omega) (fun j h0 h1 => by rw [qS1, if_neg (by omega)]; exact hfc j h0 h1)) t_945 t_32 (q_callB hK 943 36 946 t_943 t_36 t_946 f_yX4_isRight ⟨by decide, by decide⟩) rfl rfl (Nat.le_of_ble_eq_true rfl) dX4_isTrue_37 ⟨by decide, by decide⟩  (q_an (fun H locs hP hS => ?_))
            refine q_if_eqb (tgt := 47) hx hb dX4_isTrue_40 (by decide) (fun c_5 => ?_) (fun c_5 => ?_)
            · -- ¬ (riM S1 x q)
              refine lv_iconst (v := i32 (0)) hx hb dX4_isTrue_47 rfl ?_
              refine q_nm (b2_f (show ¬ ((is1 ≠ 0) ∧ (riM S1 x q)) from by first | omega | (simp only [*]; done) | simp_all)).symm ?_
              exact J48 _ _ hP hS
            · -- riM S1 x q
              refine lv_iconst (v := i32 (1)) hx hb dX4_isTrue_43 rfl ?_
              refine lv_goto (tgt := 48) hx hb dX4_isTrue_44 (by decide) ?_
              refine q_nm (b2_t (show (is1 ≠ 0) ∧ (riM S1 x q) from by first | omega | (simp only [*]; done) | simp_all)).symm ?_
              exact J48 _ _ hP hS
    exact L20 ((S 0 16 x + 1 - 1) + 1).toNat 1 1 _ _ _ (by omega) (by exact (b2_t (fun j h0 h1 => absurd h1 (by omega))).symm) (by omega) hP hS (lv_sub hl [0, 1, 2, 3] rfl)
  · -- ¬ ((isP S x) ∧ True ∧ True)
    refine lv_iconst (v := i32 (0)) hx hb dX4_isTrue_14 rfl ?_
    subst hQm
    exact q_zret hx hb hr hlocks hP hS (by omega) (by subst eS1; exact ⟨rfl, Or.inl ⟨c_2, rfl, rfl⟩⟩) (by decide) (by decide) dX4_isTrue_15

set_option maxHeartbeats 4000000 in
set_option maxRecDepth 100000 in
theorem c_X4_gold (l : Launch) (g : GT) (base : Nat) (ad : Nat → Nat → Nat) (S : St)  (hw : wM S) : Met l yX4_gold [Cond.code yX4_gold cX4_gold 3 (some FieldType.int)] ({ frames := 2, cells := 0, slots := 0, locals := 46 }) (va_Pc [.ref (ad 0 0)] (PK g base ad S)) (gQ g base (an (some (.int (i32 (gdM (st S 0 0 27 0))))) ad (st S 0 0 27 0))) 0 0 (fun q => base ≤ q) := by
  refine mk_m (own := RX4) (lv0 := [(0, .ref (ad 0 0))]) (by decide) rfl (Nat.le_of_ble_eq_true rfl) rfl ?_
  intro p e s m below meth cz av Qm hx hb hr hml hown hlocks hK hZ hP hQm ls hl
  have hS : va_S (fun q => base ≤ q) s.heap s.heap [] := va_S.rf
  have rS : ∀ (a1 b1 : Nat) (i1 : Int), rng (S a1 b1 i1) := fun a1 b1 i1 => hP.rg a1 b1 i1
  obtain ⟨hp1, hp2⟩ := hw.lt
  refine lv_aload_n hx hb dX4_gold_0 rfl (lv_at hl 0 rfl) ?_
  refine lv_iconst (v := i32 (0)) hx hb dX4_gold_1 rfl ?_
  refine p_put (k := 0) hx hb hown hK hP hS hw.al rfl rfl rfl (lay_X4 hK) tyX4 tyX4_ok nmX4 27 725 (by decide) t_725 rfl rfl (by decide +kernel) ⟨by decide, by decide⟩ (Nat.le_of_ble_eq_true rfl) (set_0_27 _ _ _ _) dX4_gold_2 (fun H locs hP hS => ?_)
  generalize eS1 : st S 0 0 27 0 = S1 at hP
  have qS1 : ∀ (a1 b1 : Nat) (i1 : Int), S1 a1 b1 i1 = if a1 = 0 ∧ b1 = 0 ∧ i1 = 27 then 0 else S a1 b1 i1 := fun a1 b1 i1 => by rw [← eS1]; exact st_at _ _ _ _ _ _ _ _
  have rS1 : ∀ (a1 b1 : Nat) (i1 : Int), rng (S1 a1 b1 i1) := fun a1 b1 i1 => hP.rg a1 b1 i1
  have aS1_0 : S1 0 0 (-1) = 1 := by rw [qS1, if_neg (by omega)]; exact hw.al
  have wS1 : wM S1 := wM.keep hw (fun r j h => by unfold wrow at h; rw [qS1, if_neg (by omega)])
  refine lv_iconst (v := i32 (0)) hx hb dX4_gold_5 rfl ?_
  refine lv_istore_n (lv' := [(1, .int (i32 (0))), (0, .ref (ad 0 0))]) hx hb dX4_gold_6 rfl hl (by decide) rfl (fun ls hl => ?_)
  refine lv_iconst (v := i32 (0)) hx hb dX4_gold_7 rfl ?_
  refine lv_istore_n (lv' := [(2, .int (i32 (0))), (1, .int (i32 (0))), (0, .ref (ad 0 0))]) hx hb dX4_gold_8 rfl hl (by decide) rfl (fun ls hl => ?_)
  have L9 : ∀ (k : Nat) (t k1 : Int) (H : Heap) (locs : List Loc) (ls : Array Slot), (0 ≤ k1 ∧ k1 ≤ S 0 0 8) → (t = sm (fun k => cif (S1 0 10 k = 5) (woM S1 k) 0) k1.toNat) → S 0 0 8 - k1 < (k : Int) → pic g base ad S1 H → va_S (fun q => base ≤ q) s.heap H locs → lv_has ls 3 [(2, .int (i32 (k1))), (1, .int (i32 (t))), (0, .ref (ad 0 0))] → W p l e ({ frames := 2, cells := 0, slots := 0, locals := 46 } : Room) s m av below meth cz H locs 0 0 Qm (F0 m 9 ls []) := by
    intro k
    induction k with
    | zero => intro t k1 H locs ls hi ht hmu _ _ _; exact absurd hmu (by omega)
    | succ k ih9 =>
      intro t k1 H locs ls hi ht hmu hP hS hl
      refine lv_iload_n hx hb dX4_gold_9 rfl (lv_at hl 0 rfl) ?_
      refine lv_aload_n hx hb dX4_gold_10 rfl (lv_at hl 2 rfl) ?_
      refine p_get (k := 0) hx hb hown hK hP aS1_0 rfl rfl rfl (lay_X4 hK) 8 706 (by decide) t_706 rfl rfl dX4_gold_11 ?_
      refine q_nm (show S1 0 0 8 = S 0 0 8 from by rw [qS1, if_neg (by omega)]) ?_
      refine q_icmp_ge (tgt := 45) hx hb ⟨by omega, by omega⟩ (rS _ _ _) dX4_gold_14 (by decide) (fun c_2 => ?_) (fun c_2 => ?_)
      · -- (S 0 0 8) ≤ k1
        refine lv_iload_n hx hb dX4_gold_45 rfl (lv_at hl 1 rfl) ?_
        refine q_nm (show (t : Int) = gdM (st S 0 0 27 0) from by rw [eS1, ht]; unfold gdM; have e8 : S1 0 0 8 = S 0 0 8 := (by rw [qS1, if_neg (by omega)]); rw [e8, show k1 = S 0 0 8 from by omega]) ?_
        subst hQm
        exact q_iret hx hb hr hlocks hP hS ⟨rfl, rfl, (by rw [← eS1])⟩ (by decide) (by decide) dX4_gold_46
      · -- k1 < (S 0 0 8)
        refine lv_iload_n hx hb dX4_gold_17 rfl (lv_at hl 1 rfl) ?_
        refine lv_aload_n hx hb dX4_gold_18 rfl (lv_at hl 2 rfl) ?_
        refine p_get (k := 0) hx hb hown hK hP aS1_0 rfl rfl rfl (lay_X4 hK) 9 707 (by decide) t_707 rfl rfl dX4_gold_19 ?_
        refine lv_iload_n hx hb dX4_gold_22 rfl (lv_at hl 0 rfl) ?_
        refine p_iald (k := 0) (r := 10) (n := 20) hx hb hK hP aS1_0 rfl rfl (by decide) (by decide) (by omega) (by omega) dX4_gold_23 ?_
        refine q_nm (show S1 0 10 k1 = S 0 10 k1 from by rw [qS1, if_neg (by omega)]) ?_
        refine lv_iconst (v := i32 (5)) hx hb dX4_gold_24 rfl ?_
        have J37 : ∀ (b37 : Int) (H : Heap) (locs : List Loc), ((((S 0 10 k1) ≠ 5) ∧ b37 = 0) ∨ (((S 0 10 k1) = 5) ∧ b37 = woM S1 k1)) → pic g base ad S1 H → va_S (fun q => base ≤ q) s.heap H locs → W p l e ({ frames := 2, cells := 0, slots := 0, locals := 46 } : Room) s m av below meth cz H locs 0 0 Qm (F0 m 37 ls (Value.int (i32 b37) :: Value.int (i32 (t)) :: [])) := by
          intro b37 H locs hb37 hP hS
          refine q_iadd hx hb dX4_gold_37 ?_
          refine lv_istore_n (lv' := [(1, .int (i32 (t + b37))), (2, .int (i32 (k1))), (0, .ref (ad 0 0))]) hx hb dX4_gold_38 rfl hl (by decide) rfl (fun ls hl => ?_)
          refine lv_iinc (v := i32 (k1 + 1)) (lv' := [(2, .int (i32 (k1 + 1))), (1, .int (i32 (t + b37))), (0, .ref (ad 0 0))]) hx hb dX4_gold_39 hl (k := 1) rfl (i32_add _ _) (by decide) rfl (fun ls hl => ?_)
          refine lv_goto (tgt := 9) hx hb dX4_gold_42 (by decide) ?_
          have hback : t + b37 = sm (fun k => cif (S1 0 10 k = 5) (woM S1 k) 0) (k1 + 1).toNat := by
            rw [sm_1 _ hi.1, ← ht]
            have e10 : S1 0 10 k1 = S 0 10 k1 := by rw [qS1, if_neg (by omega)]
            rcases hb37 with ⟨h1, h2⟩ | ⟨h1, h2⟩
            · rw [h2, cif_f (by omega)]
            · rw [h2, cif_t (by omega)]
          exact ih9 (t + b37) (k1 + 1) _ _ _ (by omega) (by exact hback) (by omega) hP hS (lv_sub hl [0, 1, 2] rfl)
        refine q_icmp_ne (tgt := 36) hx hb (rS _ _ _) ⟨by decide, by decide⟩ dX4_gold_25 (by decide) (fun c_3 => ?_) (fun c_3 => ?_)
        · -- (S 0 10 k1) ≠ 5
          refine lv_iconst (v := i32 (0)) hx hb dX4_gold_36 rfl ?_
          exact J37 _ _ _ (by first | omega | (simp only [*]; done) | simp_all) hP hS
        · -- (S 0 10 k1) = 5
          refine lv_aload_n hx hb dX4_gold_28 rfl (lv_at hl 2 rfl) ?_
          refine lv_iload_n hx hb dX4_gold_29 rfl (lv_at hl 0 rfl) ?_
          refine q_callV (k := 0) hx hb hml hl.1 hown hK hZ hP hS aS1_0 rfl rfl rfl (c_X4_wovenOf l g base ad S1 k1 wS1 ⟨by omega, by omega⟩) t_838 t_16 (q_callB hK 836 36 839 t_836 t_36 t_839 f_yX4_wovenOf ⟨by decide, by decide⟩) rfl rfl (Nat.le_of_ble_eq_true rfl) dX4_gold_30 ⟨by decide, by decide⟩  (q_an (fun H locs hP hS => ?_))
          refine lv_goto (tgt := 37) hx hb dX4_gold_33 (by decide) ?_
          exact J37 _ _ _ (by first | omega | (simp only [*]; done) | simp_all) hP hS
  exact L9 ((S 0 0 8 - 0) + 1).toNat 0 0 _ _ _ (by omega) (by rfl) (by omega) hP hS (lv_sub hl [0, 1, 2] rfl)

set_option maxHeartbeats 4000000 in
set_option maxRecDepth 100000 in
theorem c_X4_balances (l : Launch) (g : GT) (base : Nat) (ad : Nat → Nat → Nat) (S : St)  (hw : wM S) (hla : ∀ j, 0 ≤ j → j < 20 → 0 ≤ S 0 11 j ∧ S 0 11 j ≤ 999 ∧ 0 ≤ S 0 12 j ∧ S 0 12 j ≤ 999) : Met l yX4_balances [Cond.code yX4_balances cX4_balances 3 (some FieldType.boolean)] ({ frames := 2, cells := 0, slots := 0, locals := 46 }) (va_Pc [.ref (ad 0 0)] (PK g base ad S)) (gQ g base (an (some (.int (i32 (b2 (blM (st S 0 0 27 0)))))) ad (st S 0 0 27 0))) 0 0 (fun q => base ≤ q) := by
  refine mk_m (own := RX4) (lv0 := [(0, .ref (ad 0 0))]) (by decide) rfl (Nat.le_of_ble_eq_true rfl) rfl ?_
  intro p e s m below meth cz av Qm hx hb hr hml hown hlocks hK hZ hP hQm ls hl
  have hS : va_S (fun q => base ≤ q) s.heap s.heap [] := va_S.rf
  have rS : ∀ (a1 b1 : Nat) (i1 : Int), rng (S a1 b1 i1) := fun a1 b1 i1 => hP.rg a1 b1 i1
  obtain ⟨hp1, hp2⟩ := hw.lt
  refine lv_aload_n hx hb dX4_balances_0 rfl (lv_at hl 0 rfl) ?_
  refine lv_iconst (v := i32 (0)) hx hb dX4_balances_1 rfl ?_
  refine p_put (k := 0) hx hb hown hK hP hS hw.al rfl rfl rfl (lay_X4 hK) tyX4 tyX4_ok nmX4 27 725 (by decide) t_725 rfl rfl (by decide +kernel) ⟨by decide, by decide⟩ (Nat.le_of_ble_eq_true rfl) (set_0_27 _ _ _ _) dX4_balances_2 (fun H locs hP hS => ?_)
  generalize eS1 : st S 0 0 27 0 = S1 at hP
  have qS1 : ∀ (a1 b1 : Nat) (i1 : Int), S1 a1 b1 i1 = if a1 = 0 ∧ b1 = 0 ∧ i1 = 27 then 0 else S a1 b1 i1 := fun a1 b1 i1 => by rw [← eS1]; exact st_at _ _ _ _ _ _ _ _
  have rS1 : ∀ (a1 b1 : Nat) (i1 : Int), rng (S1 a1 b1 i1) := fun a1 b1 i1 => hP.rg a1 b1 i1
  have aS1_0 : S1 0 0 (-1) = 1 := by rw [qS1, if_neg (by omega)]; exact hw.al
  have wS1 : wM S1 := wM.keep hw (fun r j h => by unfold wrow at h; rw [qS1, if_neg (by omega)])
  refine lv_iconst (v := i32 (1)) hx hb dX4_balances_5 rfl ?_
  refine lv_istore_n (lv' := [(1, .int (i32 (1))), (0, .ref (ad 0 0))]) hx hb dX4_balances_6 rfl hl (by decide) rfl (fun ls hl => ?_)
  refine lv_iconst (v := i32 (0)) hx hb dX4_balances_7 rfl ?_
  refine lv_istore_n (lv' := [(2, .int (i32 (0))), (1, .int (i32 (1))), (0, .ref (ad 0 0))]) hx hb dX4_balances_8 rfl hl (by decide) rfl (fun ls hl => ?_)
  have L9 : ∀ (k : Nat) (is1 k1 : Int) (H : Heap) (locs : List Loc) (ls : Array Slot), (0 ≤ k1 ∧ k1 ≤ S 0 0 8) → (is1 = b2 (∀ j, 0 ≤ j → j < k1 → woM S1 j = S1 0 11 j - S1 0 12 j)) → S 0 0 8 - k1 < (k : Int) → pic g base ad S1 H → va_S (fun q => base ≤ q) s.heap H locs → lv_has ls 3 [(2, .int (i32 (k1))), (1, .int (i32 (is1))), (0, .ref (ad 0 0))] → W p l e ({ frames := 2, cells := 0, slots := 0, locals := 46 } : Room) s m av below meth cz H locs 0 0 Qm (F0 m 9 ls []) := by
    intro k
    induction k with
    | zero => intro is1 k1 H locs ls hi his hmu _ _ _; exact absurd hmu (by omega)
    | succ k ih9 =>
      intro is1 k1 H locs ls hi his hmu hP hS hl
      refine lv_iload_n hx hb dX4_balances_9 rfl (lv_at hl 0 rfl) ?_
      refine lv_aload_n hx hb dX4_balances_10 rfl (lv_at hl 2 rfl) ?_
      refine p_get (k := 0) hx hb hown hK hP aS1_0 rfl rfl rfl (lay_X4 hK) 8 706 (by decide) t_706 rfl rfl dX4_balances_11 ?_
      refine q_nm (show S1 0 0 8 = S 0 0 8 from by rw [qS1, if_neg (by omega)]) ?_
      refine q_icmp_ge (tgt := 54) hx hb ⟨by omega, by omega⟩ (rS _ _ _) dX4_balances_14 (by decide) (fun c_2 => ?_) (fun c_2 => ?_)
      · -- (S 0 0 8) ≤ k1
        refine lv_iload_n hx hb dX4_balances_54 rfl (lv_at hl 1 rfl) ?_
        refine q_nm (show (is1 : Int) = b2 (blM (st S 0 0 27 0)) from by rw [eS1, his]; have e8 : S1 0 0 8 = S 0 0 8 := (by rw [qS1, if_neg (by omega)]); rw [show k1 = S1 0 0 8 from by omega]; rfl) ?_
        subst hQm
        exact q_zret hx hb hr hlocks hP hS (b2_01 _) ⟨rfl, rfl, (by rw [← eS1])⟩ (by decide) (by decide) dX4_balances_55
      · -- k1 < (S 0 0 8)
        refine lv_iload_n hx hb dX4_balances_17 rfl (lv_at hl 1 rfl) ?_
        have J47 : ∀ (H : Heap) (locs : List Loc), pic g base ad S1 H → va_S (fun q => base ≤ q) s.heap H locs → W p l e ({ frames := 2, cells := 0, slots := 0, locals := 46 } : Room) s m av below meth cz H locs 0 0 Qm (F0 m 47 ls (Value.int (i32 (b2 ((is1 ≠ 0) ∧ ((woM S1 k1) = ((S 0 11 k1) - (S 0 12 k1)))))) :: [])) := by
          intro H locs hP hS
          refine lv_istore_n (lv' := [(1, .int (i32 (b2 ((is1 ≠ 0) ∧ ((woM S1 k1) = ((S 0 11 k1) - (S 0 12 k1))))))), (2, .int (i32 (k1))), (0, .ref (ad 0 0))]) hx hb dX4_balances_47 rfl hl (by decide) rfl (fun ls hl => ?_)
          refine lv_iinc (v := i32 (k1 + 1)) (lv' := [(2, .int (i32 (k1 + 1))), (1, .int (i32 (b2 ((is1 ≠ 0) ∧ ((woM S1 k1) = ((S 0 11 k1) - (S 0 12 k1))))))), (0, .ref (ad 0 0))]) hx hb dX4_balances_48 hl (k := 1) rfl (i32_add _ _) (by decide) rfl (fun ls hl => ?_)
          refine lv_goto (tgt := 9) hx hb dX4_balances_51 (by decide) ?_
          exact ih9 (b2 ((is1 ≠ 0) ∧ ((woM S1 k1) = ((S 0 11 k1) - (S 0 12 k1))))) (k1 + 1) _ _ _ (by omega) (by have e11 : S1 0 11 k1 = S 0 11 k1 := (by rw [qS1, if_neg (by omega)]); have e12 : S1 0 12 k1 = S 0 12 k1 := (by rw [qS1, if_neg (by omega)]); exact b2_c ((and_congr (b2_n his) (by rw [e11, e12])).trans (all_s hi.1).symm)) (by omega) hP hS (lv_sub hl [0, 1, 2] rfl)
        refine q_if_eq (tgt := 46) hx hb (his ▸ b2_rng _) dX4_balances_18 (by decide) (fun c_3 => ?_) (fun c_3 => ?_)
        · -- is1 = 0
          refine lv_iconst (v := i32 (0)) hx hb dX4_balances_46 rfl ?_
          refine q_nm (b2_f (show ¬ ((is1 ≠ 0) ∧ ((woM S1 k1) = ((S 0 11 k1) - (S 0 12 k1)))) from by first | omega | (simp only [*]; done) | simp_all)).symm ?_
          exact J47 _ _ hP hS
        · -- is1 ≠ 0
          refine lv_aload_n hx hb dX4_balances_21 rfl (lv_at hl 2 rfl) ?_
          refine lv_iload_n hx hb dX4_balances_22 rfl (lv_at hl 0 rfl) ?_
          refine q_callV (k := 0) hx hb hml hl.1 hown hK hZ hP hS aS1_0 rfl rfl rfl (c_X4_wovenOf l g base ad S1 k1 wS1 ⟨by omega, by omega⟩) t_838 t_16 (q_callB hK 836 36 839 t_836 t_36 t_839 f_yX4_wovenOf ⟨by decide, by decide⟩) rfl rfl (Nat.le_of_ble_eq_true rfl) dX4_balances_23 ⟨by decide, by decide⟩  (q_an (fun H locs hP hS => ?_))
          obtain ⟨ho1, ho2⟩ := woM_b wS1 k1
          obtain ⟨hl1, hl2, hl3, hl4⟩ := hla k1 hi.1 (by omega)
          refine lv_aload_n hx hb dX4_balances_26 rfl (lv_at hl 2 rfl) ?_
          refine p_get (k := 0) hx hb hown hK hP aS1_0 rfl rfl rfl (lay_X4 hK) 10 708 (by decide) t_708 rfl rfl dX4_balances_27 ?_
          refine lv_iload_n hx hb dX4_balances_30 rfl (lv_at hl 0 rfl) ?_
          refine p_iald (k := 0) (r := 11) (n := 20) hx hb hK hP aS1_0 rfl rfl (by decide) (by decide) (by omega) (by omega) dX4_balances_31 ?_
          refine q_nm (show S1 0 11 k1 = S 0 11 k1 from by rw [qS1, if_neg (by omega)]) ?_
          refine lv_aload_n hx hb dX4_balances_32 rfl (lv_at hl 2 rfl) ?_
          refine p_get (k := 0) hx hb hown hK hP aS1_0 rfl rfl rfl (lay_X4 hK) 11 709 (by decide) t_709 rfl rfl dX4_balances_33 ?_
          refine lv_iload_n hx hb dX4_balances_36 rfl (lv_at hl 0 rfl) ?_
          refine p_iald (k := 0) (r := 12) (n := 20) hx hb hK hP aS1_0 rfl rfl (by decide) (by decide) (by omega) (by omega) dX4_balances_37 ?_
          refine q_nm (show S1 0 12 k1 = S 0 12 k1 from by rw [qS1, if_neg (by omega)]) ?_
          refine q_isub hx hb dX4_balances_38 ?_
          refine q_icmp_ne (tgt := 46) hx hb ⟨by omega, by omega⟩ ⟨by omega, by omega⟩ dX4_balances_39 (by decide) (fun c_4 => ?_) (fun c_4 => ?_)
          · -- (woM S1 k1) ≠ ((S 0 11 k1) - (S 0 12 k1))
            refine lv_iconst (v := i32 (0)) hx hb dX4_balances_46 rfl ?_
            refine q_nm (b2_f (show ¬ ((is1 ≠ 0) ∧ ((woM S1 k1) = ((S 0 11 k1) - (S 0 12 k1)))) from by first | omega | (simp only [*]; done) | simp_all)).symm ?_
            exact J47 _ _ hP hS
          · -- (woM S1 k1) = ((S 0 11 k1) - (S 0 12 k1))
            refine lv_iconst (v := i32 (1)) hx hb dX4_balances_42 rfl ?_
            refine lv_goto (tgt := 47) hx hb dX4_balances_43 (by decide) ?_
            refine q_nm (b2_t (show (is1 ≠ 0) ∧ ((woM S1 k1) = ((S 0 11 k1) - (S 0 12 k1))) from by first | omega | (simp only [*]; done) | simp_all)).symm ?_
            exact J47 _ _ hP hS
  exact L9 ((S 0 0 8 - 0) + 1).toNat 1 0 _ _ _ (by omega) (by exact (b2_t (fun j h0 h1 => absurd h1 (by omega))).symm) (by omega) hP hS (lv_sub hl [0, 1, 2] rfl)
