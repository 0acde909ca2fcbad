set_option maxHeartbeats 4000000 in
set_option maxRecDepth 100000 in
theorem c_X2_stain (l : Launch) (g : GT) (base : Nat) (ad : Nat → Nat → Nat) (S : St) (o : Nat) (r c v : Int) (hal : S o 0 (-1) = 1) (hkd : kd o = 5) (hwd : 0 ≤ S o 0 0 ∧ S o 0 0 ≤ 24) (hht : 0 ≤ S o 0 1 ∧ S o 0 1 ≤ 10) (hrn : rng r) (hrn2 : rng c) (hrn3 : rng v) (hsh : ∀ j, 0 ≤ j → j < 240 → 0 ≤ S o 7 j ∧ S o 7 j ≤ 100) : Met l yX2_stain [Cond.code yX2_stain cX2_stain 4 (none : Option FieldType)] ({ frames := 3, cells := 0, slots := 0, locals := 66 }) (va_Pc [.ref (ad o 0), .int (i32 (r)), .int (i32 (c)), .int (i32 (v))] (PK g base ad S)) (gQ g base (an (none) ad (snF S o r c v))) 0 0 (fun q => base ≤ q) := by
  refine mk_m (own := RX2) (lv0 := [(0, .ref (ad o 0)), (1, .int (i32 (r))), (2, .int (i32 (c))), (3, .int (i32 (v)))]) (by decide) rfl (Nat.le_of_ble_eq_true rfl) rfl ?_
  intro p e s m below meth cz av Qm hx hb hr hml hown hlocks hK hZ hP hQm ls hl
  have hS : va_S (fun q => base ≤ q) s.heap s.heap [] := va_S.rf
  have rS : ∀ (a1 b1 : Nat) (i1 : Int), rng (S a1 b1 i1) := fun a1 b1 i1 => hP.rg a1 b1 i1
  refine lv_aload_n hx hb dX2_stain_0 rfl (lv_at hl 0 rfl) ?_
  refine lv_iload_n hx hb dX2_stain_1 rfl (lv_at hl 1 rfl) ?_
  refine lv_iload_n hx hb dX2_stain_2 rfl (lv_at hl 2 rfl) ?_
  refine q_callV (k := 5) hx hb hml hl.1 hown hK hZ hP hS hal hkd rfl rfl (c_X2_holds l g base ad S o r c hal hkd hrn hrn2) t_339 t_340 (q_callB hK 649 24 341 t_649 t_24 t_341 f_yX2_holds ⟨by decide, by decide⟩) rfl rfl (Nat.le_of_ble_eq_true rfl) dX2_stain_3 ⟨by decide, by decide⟩  (q_an (fun H locs hP hS => ?_))
  refine q_if_eqb (tgt := 26) hx hb dX2_stain_6 (by decide) (fun c_1 => ?_) (fun c_1 => ?_)
  · -- ¬ (0 ≤ r ∧ r < S o 0 1 ∧ 0 ≤ c ∧ c < S o 0 0)
    subst hQm
    exact q_vret hx hb hr hlocks hP hS ⟨rfl, rfl, (by exact (snF_f (by omega)).symm)⟩ (by decide) (by decide) dX2_stain_26
  · -- 0 ≤ r ∧ r < S o 0 1 ∧ 0 ≤ c ∧ c < S o 0 0
    refine lv_aload_n hx hb dX2_stain_9 rfl (lv_at hl 0 rfl) ?_
    refine lv_iload_n hx hb dX2_stain_10 rfl (lv_at hl 1 rfl) ?_
    refine lv_iload_n hx hb dX2_stain_11 rfl (lv_at hl 2 rfl) ?_
    refine q_callV (k := 5) hx hb hml hl.1 hown hK hZ hP hS hal hkd rfl rfl (c_X2_lotAt l g base ad S o r c hal hkd (by omega) (by omega)) t_99 t_100 (q_callB hK 98 24 101 t_98 t_24 t_101 f_yX2_lotAt ⟨by decide, by decide⟩) rfl rfl (Nat.le_of_ble_eq_true rfl) dX2_stain_12 ⟨by decide, by decide⟩  (q_an (fun H locs hP hS => ?_))
    refine lv_iload_n hx hb dX2_stain_15 rfl (lv_at hl 3 rfl) ?_
    refine q_icmp_eq (tgt := 26) hx hb (hP.rg _ _ _) hrn3 dX2_stain_16 (by decide) (fun c_2 => ?_) (fun c_2 => ?_)
    · -- (S o 6 (r * 24 + c)) = v
      subst hQm
      exact q_vret hx hb hr hlocks hP hS ⟨rfl, rfl, (by exact (snF_f (by omega)).symm)⟩ (by decide) (by decide) dX2_stain_26
    · -- (S o 6 (r * 24 + c)) ≠ v
      refine lv_aload_n hx hb dX2_stain_19 rfl (lv_at hl 0 rfl) ?_
      refine lv_iload_n hx hb dX2_stain_20 rfl (lv_at hl 1 rfl) ?_
      refine lv_iload_n hx hb dX2_stain_21 rfl (lv_at hl 2 rfl) ?_
      refine lv_iconst (v := i32 (5)) hx hb dX2_stain_22 rfl ?_
      refine q_callV (k := 5) hx hb hml hl.1 hown hK hZ hP hS hal hkd rfl rfl (c_X2_dim l g base ad S o r c 5 hal hkd (by omega) (by omega) (by omega) (hsh _ (by omega) (by omega))) t_652 t_13 (q_callB hK 650 24 653 t_650 t_24 t_653 f_yX2_dim ⟨by decide, by decide⟩) rfl rfl (Nat.le_of_ble_eq_true rfl) dX2_stain_23 ⟨by decide, by decide⟩  (q_an (fun H locs hP hS => ?_))
      generalize eS3 : st S o 7 (r * 24 + c) (mx0 (S o 7 (r * 24 + c) - 5)) = S3 at hP
      have rS3 : ∀ (a1 b1 : Nat) (i1 : Int), rng (S3 a1 b1 i1) := fun a1 b1 i1 => hP.rg a1 b1 i1
      have qS3 : ∀ (a1 b1 : Nat) (i1 : Int), S3 a1 b1 i1 = if a1 = o ∧ b1 = 7 ∧ i1 = r * 24 + c then mx0 (S o 7 (r * 24 + c) - 5) else S a1 b1 i1 := fun a1 b1 i1 => by rw [← eS3]; exact st_at _ _ _ _ _ _ _ _
      have aS3_o : S3 o 0 (-1) = 1 := by rw [qS3, if_neg (by omega)]; exact hal
      subst hQm
      exact q_vret hx hb hr hlocks hP hS ⟨rfl, rfl, (by rw [← eS3]; exact (snF_t (by omega)).symm)⟩ (by decide) (by decide) dX2_stain_26

set_option maxHeartbeats 4000000 in
set_option maxRecDepth 100000 in
theorem c_X2_bleed (l : Launch) (g : GT) (base : Nat) (ad : Nat → Nat → Nat) (S : St) (o : Nat)  (hal : S o 0 (-1) = 1) (hkd : kd o = 5) (halb : S 2 0 (-1) = 1) (hwd : 0 ≤ S o 0 0 ∧ S o 0 0 ≤ 24) (hht : 0 ≤ S o 0 1 ∧ S o 0 1 ≤ 10) (hct : 0 ≤ S 2 0 0 ∧ S 2 0 0 ≤ 20) (hsh : ∀ j, 0 ≤ j → j < 240 → 0 ≤ S o 7 j ∧ S o 7 j ≤ 100) (hlt : ∀ r c, 0 ≤ r → r < S o 0 1 → 0 ≤ c → c < S o 0 0 → 0 ≤ S o 6 (r * 24 + c) ∧ S o 6 (r * 24 + c) < S 2 0 0) : Met l yX2_bleed [Cond.code yX2_bleed cX2_bleed 5 (none : Option FieldType)] ({ frames := 4, cells := 0, slots := 0, locals := 89 }) (va_Pc [.ref (ad o 0), .ref (ad 2 0)] (PK g base ad S)) (gQ g base (an (none) ad (bst S o (nbK S o (S o 0 1) 0)))) 0 0 (fun q => base ≤ q) := by
  refine mk_m (own := RX2) (lv0 := [(0, .ref (ad o 0)), (1, .ref (ad 2 0))]) (by decide) rfl (Nat.le_of_ble_eq_true rfl) rfl ?_
  intro p e s m below meth cz av Qm hx hb hr hml hown hlocks hK hZ hP hQm ls hl
  have hS : va_S (fun q => base ≤ q) s.heap s.heap [] := va_S.rf
  have rS : ∀ (a1 b1 : Nat) (i1 : Int), rng (S a1 b1 i1) := fun a1 b1 i1 => hP.rg a1 b1 i1
  refine lv_iconst (v := i32 (0)) hx hb dX2_bleed_0 rfl ?_
  refine lv_istore_n (lv' := [(2, .int (i32 (0))), (0, .ref (ad o 0)), (1, .ref (ad 2 0))]) hx hb dX2_bleed_1 rfl hl (by decide) rfl (fun ls hl => ?_)
  have L2 : ∀ (k : Nat) (r : Int) (Sa : St) (H : Heap) (locs : List Loc) (ls : Array Slot), (0 ≤ r ∧ r ≤ S o 0 1) → (∀ (a1 b1 : Nat) (i1 : Int), Sa a1 b1 i1 = bst S o (nbK S o r 0) a1 b1 i1) → S o 0 1 - r < (k : Int) → pic g base ad Sa H → va_S (fun q => base ≤ q) s.heap H locs → lv_has ls 5 [(2, .int (i32 (r))), (0, .ref (ad o 0)), (1, .ref (ad 2 0))] → W p l e ({ frames := 4, cells := 0, slots := 0, locals := 89 } : Room) s m av below meth cz H locs 0 0 Qm (F0 m 2 ls []) := by
    intro k
    induction k with
    | zero => intro r Sa H locs ls zr zS hmu _ _ _; exact absurd hmu (by omega)
    | succ k ih2 =>
      intro r Sa H locs ls zr zS hmu hP hS hl
      have aSa_o : Sa o 0 (-1) = 1 := by rw [zS, bst_o (by decide)]; exact hal
      have aSa_2 : Sa 2 0 (-1) = 1 := by rw [zS, bst_o (by decide)]; exact halb
      have rSa : ∀ (a1 b1 : Nat) (i1 : Int), rng (Sa a1 b1 i1) := fun a1 b1 i1 => hP.rg a1 b1 i1
      refine lv_iload_n hx hb dX2_bleed_2 rfl (lv_at hl 0 rfl) ?_
      refine lv_aload_n hx hb dX2_bleed_3 rfl (lv_at hl 1 rfl) ?_
      refine p_get (k := 5) hx hb hown hK hP aSa_o hkd rfl rfl (lay_X2 hK) 1 461 (by decide) t_461 rfl rfl dX2_bleed_4 ?_
      refine q_nm (show Sa o 0 1 = S o 0 1 from by rw [zS, bst_o (by decide)]) ?_
      refine q_icmp_ge (tgt := 89) hx hb ⟨by omega, by omega⟩ (rS _ _ _) dX2_bleed_7 (by decide) (fun c_1 => ?_) (fun c_1 => ?_)
      · -- (S o 0 1) ≤ r
        subst hQm
        exact q_vret hx hb hr hlocks hP hS ⟨rfl, rfl, (by funext a1 b1 i1; rw [zS, show r = S o 0 1 from by omega])⟩ (by decide) (by decide) dX2_bleed_89
      · -- r < (S o 0 1)
        refine lv_iconst (v := i32 (0)) hx hb dX2_bleed_10 rfl ?_
        refine lv_istore_n (lv' := [(3, .int (i32 (0))), (2, .int (i32 (r))), (0, .ref (ad o 0)), (1, .ref (ad 2 0))]) hx hb dX2_bleed_11 rfl hl (by decide) rfl (fun ls hl => ?_)
        have L12 : ∀ (k : Nat) (c : Int) (Sb : St) (H : Heap) (locs : List Loc) (ls : Array Slot), (0 ≤ c ∧ c ≤ S o 0 0) → (∀ (a1 b1 : Nat) (i1 : Int), Sb a1 b1 i1 = bst S o (nbK S o r c) a1 b1 i1) → S o 0 0 - c < (k : Int) → pic g base ad Sb H → va_S (fun q => base ≤ q) s.heap H locs → lv_has ls 5 [(3, .int (i32 (c))), (2, .int (i32 (r))), (0, .ref (ad o 0)), (1, .ref (ad 2 0))] → W p l e ({ frames := 4, cells := 0, slots := 0, locals := 89 } : Room) s m av below meth cz H locs 0 0 Qm (F0 m 12 ls []) := by
          intro k
          induction k with
          | zero => intro c Sb H locs ls zc zT hmu _ _ _; exact absurd hmu (by omega)
          | succ k ih12 =>
            intro c Sb H locs ls zc zT hmu hP hS hl
            have aSb_o : Sb o 0 (-1) = 1 := by rw [zT, bst_o (by decide)]; exact hal
            have aSb_2 : Sb 2 0 (-1) = 1 := by rw [zT, bst_o (by decide)]; exact halb
            have rSb : ∀ (a1 b1 : Nat) (i1 : Int), rng (Sb a1 b1 i1) := fun a1 b1 i1 => hP.rg a1 b1 i1
            have hSb : ∀ j : Int, 0 ≤ j → j < 240 → 0 ≤ Sb o 7 j ∧ Sb o 7 j ≤ 100 := bd_h zT hsh
            refine lv_iload_n hx hb dX2_bleed_12 rfl (lv_at hl 0 rfl) ?_
            refine lv_aload_n hx hb dX2_bleed_13 rfl (lv_at hl 2 rfl) ?_
            refine p_get (k := 5) hx hb hown hK hP aSb_o hkd rfl rfl (lay_X2 hK) 0 460 (by decide) t_460 rfl rfl dX2_bleed_14 ?_
            refine q_nm (show Sb o 0 0 = S o 0 0 from by rw [zT, bst_o (by decide)]) ?_
            refine q_icmp_ge (tgt := 83) hx hb ⟨by omega, by omega⟩ (rS _ _ _) dX2_bleed_17 (by decide) (fun c_2 => ?_) (fun c_2 => ?_)
            · -- (S o 0 0) ≤ c
              refine lv_iinc (v := i32 (r + 1)) (lv' := [(2, .int (i32 (r + 1))), (3, .int (i32 (c))), (0, .ref (ad o 0)), (1, .ref (ad 2 0))]) hx hb dX2_bleed_83 hl (k := 1) rfl (i32_add _ _) (by decide) rfl (fun ls hl => ?_)
              refine lv_goto (tgt := 2) hx hb dX2_bleed_86 (by decide) ?_
              exact ih2 (r + 1) Sb _ _ _ (by omega) (by exact bd_n zT (by omega)) (by omega) hP hS (lv_sub hl [0, 2, 3] rfl)
            · -- c < (S o 0 0)
              refine lv_aload_n hx hb dX2_bleed_20 rfl (lv_at hl 2 rfl) ?_
              refine lv_iload_n hx hb dX2_bleed_21 rfl (lv_at hl 1 rfl) ?_
              refine lv_iload_n hx hb dX2_bleed_22 rfl (lv_at hl 0 rfl) ?_
              refine q_callV (k := 5) hx hb hml hl.1 hown hK hZ hP hS aSb_o hkd rfl rfl (c_X2_lotAt l g base ad Sb o r c aSb_o hkd (by omega) (by omega)) t_99 t_100 (q_callB hK 98 24 101 t_98 t_24 t_101 f_yX2_lotAt ⟨by decide, by decide⟩) rfl rfl (Nat.le_of_ble_eq_true rfl) dX2_bleed_23 ⟨by decide, by decide⟩  (q_an (fun H locs hP hS => ?_))
              refine q_nm (show Sb o 6 (r * 24 + c) = S o 6 (r * 24 + c) from by rw [zT, bst_o (by decide)]) ?_
              refine lv_istore (lv' := [(4, .int (i32 (S o 6 (r * 24 + c)))), (3, .int (i32 (c))), (2, .int (i32 (r))), (0, .ref (ad o 0)), (1, .ref (ad 2 0))]) hx hb dX2_bleed_26 hl (by decide) rfl (fun ls hl => ?_)
              refine lv_aload_n hx hb dX2_bleed_28 rfl (lv_at hl 4 rfl) ?_
              refine lv_iload hx hb dX2_bleed_29 (lv_at hl 0 rfl) ?_
              refine q_callV (k := 2) hx hb hml hl.1 hown hK hZ hP hS aSb_2 rfl rfl rfl (c_X1_isBleeding l g base ad Sb (S o 6 (r * 24 + c)) aSb_2 (by have := hlt r c (by omega) (by omega) (by omega) (by omega); omega)) t_642 t_643 (q_callB hK 641 16 644 t_641 t_16 t_644 f_yX1_isBleeding ⟨by decide, by decide⟩) rfl rfl (Nat.le_of_ble_eq_true rfl) dX2_bleed_31 ⟨by decide, by decide⟩  (q_an (fun H locs hP hS => ?_))
              have w2 : Sb 2 6 (S o 6 (r * 24 + c)) = S 2 6 (S o 6 (r * 24 + c)) := by rw [zT, bst_o (by decide)]
              refine q_if_eqb (tgt := 77) hx hb dX2_bleed_34 (by decide) (fun c_3 => ?_) (fun c_3 => ?_)
              · -- ¬ (Sb 2 6 (S o 6 (r * 24 + c)) ≠ 0)
                refine lv_iinc (v := i32 (c + 1)) (lv' := [(3, .int (i32 (c + 1))), (4, .int (i32 (S o 6 (r * 24 + c)))), (2, .int (i32 (r))), (0, .ref (ad o 0)), (1, .ref (ad 2 0))]) hx hb dX2_bleed_77 hl (k := 1) rfl (i32_add _ _) (by decide) rfl (fun ls hl => ?_)
                refine lv_goto (tgt := 12) hx hb dX2_bleed_80 (by decide) ?_
                exact ih12 (c + 1) Sb _ _ _ (by omega) (by exact bd_u zT (by rw [← w2]; exact Classical.not_not.mp c_3)) (by omega) hP hS (lv_sub hl [0, 2, 3, 4] rfl)
              · -- Sb 2 6 (S o 6 (r * 24 + c)) ≠ 0
                refine lv_aload_n hx hb dX2_bleed_37 rfl (lv_at hl 3 rfl) ?_
                refine lv_iload_n hx hb dX2_bleed_38 rfl (lv_at hl 2 rfl) ?_
                refine lv_iload_n hx hb dX2_bleed_39 rfl (lv_at hl 1 rfl) ?_
                refine lv_iconst (v := i32 (1)) hx hb dX2_bleed_40 rfl ?_
                refine q_isub hx hb dX2_bleed_41 ?_
                refine lv_iload hx hb dX2_bleed_42 (lv_at hl 0 rfl) ?_
                refine q_callV (k := 5) hx hb hml hl.1 hown hK hZ hP hS aSb_o hkd rfl rfl (c_X2_stain l g base ad Sb o r (c - 1) (S o 6 (r * 24 + c)) aSb_o hkd (by rw [zT, bst_o (by decide)]; exact hwd) (by rw [zT, bst_o (by decide)]; exact hht) ⟨by omega, by omega⟩ ⟨by omega, by omega⟩ (rS _ _ _) hSb) t_647 t_12 (q_callB hK 645 24 648 t_645 t_24 t_648 f_yX2_stain ⟨by decide, by decide⟩) rfl rfl (Nat.le_of_ble_eq_true rfl) dX2_bleed_44 ⟨by decide, by decide⟩  (q_an (fun H locs hP hS => ?_))
                generalize eS4 : snF Sb o r (c - 1) (S o 6 (r * 24 + c)) = S4 at hP
                have rS4 : ∀ (a1 b1 : Nat) (i1 : Int), rng (S4 a1 b1 i1) := fun a1 b1 i1 => hP.rg a1 b1 i1
                have qS4 : ∀ (a1 b1 : Nat) (i1 : Int), S4 a1 b1 i1 = snF Sb o r (c - 1) (S o 6 (r * 24 + c)) a1 b1 i1 := fun a1 b1 i1 => by rw [← eS4]
                have aS4_o : S4 o 0 (-1) = 1 := by rw [qS4, snF_o (by decide)]; exact aSb_o
                have aS4_2 : S4 2 0 (-1) = 1 := by rw [qS4, snF_o (by decide)]; exact aSb_2
                have hS4 : ∀ j : Int, 0 ≤ j → j < 240 → 0 ≤ S4 o 7 j ∧ S4 o 7 j ≤ 100 := sn_h hSb qS4
                refine lv_aload_n hx hb dX2_bleed_47 rfl (lv_at hl 3 rfl) ?_
                refine lv_iload_n hx hb dX2_bleed_48 rfl (lv_at hl 2 rfl) ?_
                refine lv_iload_n hx hb dX2_bleed_49 rfl (lv_at hl 1 rfl) ?_
                refine lv_iconst (v := i32 (1)) hx hb dX2_bleed_50 rfl ?_
                refine q_iadd hx hb dX2_bleed_51 ?_
                refine lv_iload hx hb dX2_bleed_52 (lv_at hl 0 rfl) ?_
                refine q_callV (k := 5) hx hb hml hl.1 hown hK hZ hP hS aS4_o hkd rfl rfl (c_X2_stain l g base ad S4 o r (c + 1) (S o 6 (r * 24 + c)) aS4_o hkd (by rw [qS4, snF_o (by decide), zT, bst_o (by decide)]; exact hwd) (by rw [qS4, snF_o (by decide), zT, bst_o (by decide)]; exact hht) ⟨by omega, by omega⟩ ⟨by omega, by omega⟩ (rS _ _ _) hS4) t_647 t_12 (q_callB hK 645 24 648 t_645 t_24 t_648 f_yX2_stain ⟨by decide, by decide⟩) rfl rfl (Nat.le_of_ble_eq_true rfl) dX2_bleed_54 ⟨by decide, by decide⟩  (q_an (fun H locs hP hS => ?_))
                generalize eS5 : snF S4 o r (c + 1) (S o 6 (r * 24 + c)) = S5 at hP
                have rS5 : ∀ (a1 b1 : Nat) (i1 : Int), rng (S5 a1 b1 i1) := fun a1 b1 i1 => hP.rg a1 b1 i1
                have qS5 : ∀ (a1 b1 : Nat) (i1 : Int), S5 a1 b1 i1 = snF S4 o r (c + 1) (S o 6 (r * 24 + c)) a1 b1 i1 := fun a1 b1 i1 => by rw [← eS5]
                have aS5_o : S5 o 0 (-1) = 1 := by rw [qS5, snF_o (by decide)]; exact aS4_o
                have aS5_2 : S5 2 0 (-1) = 1 := by rw [qS5, snF_o (by decide)]; exact aS4_2
                have hS5 : ∀ j : Int, 0 ≤ j → j < 240 → 0 ≤ S5 o 7 j ∧ S5 o 7 j ≤ 100 := sn_h hS4 qS5
                refine lv_aload_n hx hb dX2_bleed_57 rfl (lv_at hl 3 rfl) ?_
                refine lv_iload_n hx hb dX2_bleed_58 rfl (lv_at hl 2 rfl) ?_
                refine lv_iconst (v := i32 (1)) hx hb dX2_bleed_59 rfl ?_
                refine q_isub hx hb dX2_bleed_60 ?_
                refine lv_iload_n hx hb dX2_bleed_61 rfl (lv_at hl 1 rfl) ?_
                refine lv_iload hx hb dX2_bleed_62 (lv_at hl 0 rfl) ?_
                refine q_callV (k := 5) hx hb hml hl.1 hown hK hZ hP hS aS5_o hkd rfl rfl (c_X2_stain l g base ad S5 o (r - 1) c (S o 6 (r * 24 + c)) aS5_o hkd (by rw [qS5, snF_o (by decide), qS4, snF_o (by decide), zT, bst_o (by decide)]; exact hwd) (by rw [qS5, snF_o (by decide), qS4, snF_o (by decide), zT, bst_o (by decide)]; exact hht) ⟨by omega, by omega⟩ ⟨by omega, by omega⟩ (rS _ _ _) hS5) t_647 t_12 (q_callB hK 645 24 648 t_645 t_24 t_648 f_yX2_stain ⟨by decide, by decide⟩) rfl rfl (Nat.le_of_ble_eq_true rfl) dX2_bleed_64 ⟨by decide, by decide⟩  (q_an (fun H locs hP hS => ?_))
                generalize eS6 : snF S5 o (r - 1) c (S o 6 (r * 24 + c)) = S6 at hP
                have rS6 : ∀ (a1 b1 : Nat) (i1 : Int), rng (S6 a1 b1 i1) := fun a1 b1 i1 => hP.rg a1 b1 i1
                have qS6 : ∀ (a1 b1 : Nat) (i1 : Int), S6 a1 b1 i1 = snF S5 o (r - 1) c (S o 6 (r * 24 + c)) a1 b1 i1 := fun a1 b1 i1 => by rw [← eS6]
                have aS6_o : S6 o 0 (-1) = 1 := by rw [qS6, snF_o (by decide)]; exact aS5_o
                have aS6_2 : S6 2 0 (-1) = 1 := by rw [qS6, snF_o (by decide)]; exact aS5_2
                have hS6 : ∀ j : Int, 0 ≤ j → j < 240 → 0 ≤ S6 o 7 j ∧ S6 o 7 j ≤ 100 := sn_h hS5 qS6
                refine lv_aload_n hx hb dX2_bleed_67 rfl (lv_at hl 3 rfl) ?_
                refine lv_iload_n hx hb dX2_bleed_68 rfl (lv_at hl 2 rfl) ?_
                refine lv_iconst (v := i32 (1)) hx hb dX2_bleed_69 rfl ?_
                refine q_iadd hx hb dX2_bleed_70 ?_
                refine lv_iload_n hx hb dX2_bleed_71 rfl (lv_at hl 1 rfl) ?_
                refine lv_iload hx hb dX2_bleed_72 (lv_at hl 0 rfl) ?_
                refine q_callV (k := 5) hx hb hml hl.1 hown hK hZ hP hS aS6_o hkd rfl rfl (c_X2_stain l g base ad S6 o (r + 1) c (S o 6 (r * 24 + c)) aS6_o hkd (by rw [qS6, snF_o (by decide), qS5, snF_o (by decide), qS4, snF_o (by decide), zT, bst_o (by decide)]; exact hwd) (by rw [qS6, snF_o (by decide), qS5, snF_o (by decide), qS4, snF_o (by decide), zT, bst_o (by decide)]; exact hht) ⟨by omega, by omega⟩ ⟨by omega, by omega⟩ (rS _ _ _) hS6) t_647 t_12 (q_callB hK 645 24 648 t_645 t_24 t_648 f_yX2_stain ⟨by decide, by decide⟩) rfl rfl (Nat.le_of_ble_eq_true rfl) dX2_bleed_74 ⟨by decide, by decide⟩  (q_an (fun H locs hP hS => ?_))
                generalize eS7 : snF S6 o (r + 1) c (S o 6 (r * 24 + c)) = S7 at hP
                have rS7 : ∀ (a1 b1 : Nat) (i1 : Int), rng (S7 a1 b1 i1) := fun a1 b1 i1 => hP.rg a1 b1 i1
                have qS7 : ∀ (a1 b1 : Nat) (i1 : Int), S7 a1 b1 i1 = snF S6 o (r + 1) c (S o 6 (r * 24 + c)) a1 b1 i1 := fun a1 b1 i1 => by rw [← eS7]
                have aS7_o : S7 o 0 (-1) = 1 := by rw [qS7, snF_o (by decide)]; exact aS6_o
                have aS7_2 : S7 2 0 (-1) = 1 := by rw [qS7, snF_o (by decide)]; exact aS6_2
                have hS7 : ∀ j : Int, 0 ≤ j → j < 240 → 0 ≤ S7 o 7 j ∧ S7 o 7 j ≤ 100 := sn_h hS6 qS7
                refine lv_iinc (v := i32 (c + 1)) (lv' := [(3, .int (i32 (c + 1))), (4, .int (i32 (S o 6 (r * 24 + c)))), (2, .int (i32 (r))), (0, .ref (ad o 0)), (1, .ref (ad 2 0))]) hx hb dX2_bleed_77 hl (k := 1) rfl (i32_add _ _) (by decide) rfl (fun ls hl => ?_)
                refine lv_goto (tgt := 12) hx hb dX2_bleed_80 (by decide) ?_
                exact ih12 (c + 1) S7 _ _ _ (by omega) (by exact bd_s zT (by omega) (by omega) hwd.2 rfl (w2 ▸ c_3) (by rw [← eS7, ← eS6, ← eS5, ← eS4])) (by omega) hP hS (lv_sub hl [0, 2, 3, 4] rfl)
        exact L12 ((S o 0 0 - 0) + 1).toNat 0 Sa _ _ _ (by omega) (by exact zS) (by omega) hP hS (lv_sub hl [0, 1, 2, 3] rfl)
  exact L2 ((S o 0 1 - 0) + 1).toNat 0 S _ _ _ (by omega) (by exact fun a b i => bd_0 S o a b i hsh hwd.2 hht.2) (by omega) hP hS (lv_sub hl [0, 1, 2] rfl)
