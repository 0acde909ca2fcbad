set_option maxHeartbeats 4000000 in
set_option maxRecDepth 100000 in
theorem c_X0_addRow (l : Launch) (g : GT) (base : Nat) (ad : Nat → Nat → Nat) (S : St) (o : Nat) (hal : S o 0 (-1) = 1) (hkd : kd o = 4) (halc : S 1 0 (-1) = 1) (hwd : 0 ≤ S o 0 0 ∧ S o 0 0 ≤ 12) (hht : 0 ≤ S o 0 1 ∧ S o 0 1 < 10) : Met l yX0_addRow [Cond.code yX0_addRow cX0_addRow 3 (none : Option FieldType)] ({ frames := 1, cells := 0, slots := 0, locals := 22 }) (va_Pc [.ref (ad o 0), .ref (ad 1 1)] (PK g base ad S)) (gQ g base (an (none) ad (st (adF S o (S o 0 0)) o 0 1 (S o 0 1 + 1)))) 0 0 (fun q => base ≤ q) := by
  refine mk_m (own := RX0) (lv0 := [(0, .ref (ad o 0)), (1, .ref (ad 1 1))]) (by decide) rfl (Nat.le_of_ble_eq_true rfl) rfl ?_
  intro p e s m below meth cz av Qm hx hb hr hml hown hlocks hK hZ hP hQm ls hl
  have hS : va_S (fun q => base ≤ q) s.heap s.heap [] := va_S.rf
  have rS : ∀ (a1 b1 : Nat) (i1 : Int), rng (S a1 b1 i1) := fun a1 b1 i1 => hP.rg a1 b1 i1
  refine lv_iconst (v := i32 (0)) hx hb dX0_addRow_0 rfl ?_
  refine lv_istore_n (lv' := [(2, .int (i32 (0))), (0, .ref (ad o 0)), (1, .ref (ad 1 1))]) hx hb dX0_addRow_1 rfl hl (by decide) rfl (fun ls hl => ?_)
  have L2 : ∀ (k : Nat) (q : Int) (Sa : St) (H : Heap) (locs : List Loc) (ls : Array Slot), (0 ≤ q ∧ q ≤ S o 0 0) → (∀ (a1 b1 : Nat) (i1 : Int), Sa a1 b1 i1 = adF S o q a1 b1 i1) → S o 0 0 - q < (k : Int) → pic g base ad Sa H → va_S (fun q => base ≤ q) s.heap H locs → lv_has ls 3 [(2, .int (i32 (q))), (0, .ref (ad o 0)), (1, .ref (ad 1 1))] → W p l e ({ frames := 1, cells := 0, slots := 0, locals := 22 } : Room) s m av below meth cz H locs 0 0 Qm (F0 m 2 ls []) := by
    intro k
    induction k with
    | zero => intro q Sa H locs ls zq zS hmu _ _ _; exact absurd hmu (by omega)
    | succ k ih2 =>
      intro q Sa H locs ls zq zS hmu hP hS hl
      have aSa_o : Sa o 0 (-1) = 1 := by rw [zS, adF_o (by decide)]; exact hal
      have aSa_1 : Sa 1 0 (-1) = 1 := by rw [zS, adF_o (by decide)]; exact halc
      have rSa : ∀ (a1 b1 : Nat) (i1 : Int), rng (Sa a1 b1 i1) := fun a1 b1 i1 => hP.rg a1 b1 i1
      have y1 : Sa o 0 0 = S o 0 0 := by rw [zS, adF_o (by decide)]
      have y2 : Sa o 0 1 = S o 0 1 := by rw [zS, adF_o (by decide)]
      refine lv_iload_n hx hb dX0_addRow_2 rfl (lv_at hl 0 rfl) ?_
      refine lv_aload_n hx hb dX0_addRow_3 rfl (lv_at hl 1 rfl) ?_
      refine p_get (k := 4) hx hb hown hK hP aSa_o hkd rfl rfl (lay_X0 hK) 0 364 (by decide) t_364 rfl rfl dX0_addRow_4 ?_
      refine q_nm (show Sa o 0 0 = S o 0 0 from by rw [zS, adF_o (by decide)]) ?_
      refine q_icmp_ge (tgt := 37) hx hb ⟨by omega, by omega⟩ (rS _ _ _) dX0_addRow_7 (by decide) (fun c_1 => ?_) (fun c_1 => ?_)
      · -- (S o 0 0) ≤ q
        refine lv_aload_n hx hb dX0_addRow_37 rfl (lv_at hl 1 rfl) ?_
        refine lv_dup hx hb dX0_addRow_38 rfl ?_
        refine p_get (k := 4) hx hb hown hK hP aSa_o hkd rfl rfl (lay_X0 hK) 1 365 (by decide) t_365 rfl rfl dX0_addRow_39 ?_
        refine q_nm (show Sa o 0 1 = S o 0 1 from by rw [zS, adF_o (by decide)]) ?_
        refine lv_iconst (v := i32 (1)) hx hb dX0_addRow_42 rfl ?_
        refine q_iadd hx hb dX0_addRow_43 ?_
        refine p_put (k := 4) hx hb hown hK hP hS aSa_o hkd rfl rfl (lay_X0 hK) tyX0 tyX0_ok nmX0 1 365 (by decide) t_365 rfl rfl (by decide +kernel) ⟨by omega, by omega⟩ (Nat.le_of_ble_eq_true rfl) (set_4_1 _ _ _ _) dX0_addRow_44 (fun H locs hP hS => ?_)
        generalize eS2 : st Sa o 0 1 ((S o 0 1) + 1) = S2 at hP
        have qS2 : ∀ (a1 b1 : Nat) (i1 : Int), S2 a1 b1 i1 = if a1 = o ∧ b1 = 0 ∧ i1 = 1 then (S o 0 1) + 1 else Sa a1 b1 i1 := fun a1 b1 i1 => by rw [← eS2]; exact st_at _ _ _ _ _ _ _ _
        have rS2 : ∀ (a1 b1 : Nat) (i1 : Int), rng (S2 a1 b1 i1) := fun a1 b1 i1 => hP.rg a1 b1 i1
        have aS2_o : S2 o 0 (-1) = 1 := by rw [qS2, if_neg (by omega)]; exact aSa_o
        have aS2_1 : S2 1 0 (-1) = 1 := by rw [qS2, if_neg (by omega)]; exact aSa_1
        subst hQm
        exact q_vret hx hb hr hlocks hP hS ⟨rfl, rfl, (by have eq9 : q = S o 0 0 := (by omega); have eq8 : Sa = adF S o (S o 0 0) := (by funext a b i; rw [zS, eq9]); rw [← eS2, eq8])⟩ (by decide) (by decide) dX0_addRow_47
      · -- q < (S o 0 0)
        refine lv_aload_n hx hb dX0_addRow_10 rfl (lv_at hl 1 rfl) ?_
        refine p_get (k := 4) hx hb hown hK hP aSa_o hkd rfl rfl (lay_X0 hK) 2 366 (by decide) t_366 rfl rfl dX0_addRow_11 ?_
        refine lv_aload_n hx hb dX0_addRow_14 rfl (lv_at hl 1 rfl) ?_
        refine p_get (k := 4) hx hb hown hK hP aSa_o hkd rfl rfl (lay_X0 hK) 1 365 (by decide) t_365 rfl rfl dX0_addRow_15 ?_
        refine q_nm (show Sa o 0 1 = S o 0 1 from by rw [zS, adF_o (by decide)]) ?_
        refine lv_bipush (v := i32 (12)) hx hb dX0_addRow_18 (by decide) ?_
        refine q_imul hx hb dX0_addRow_20 ?_
        refine lv_iload_n hx hb dX0_addRow_21 rfl (lv_at hl 0 rfl) ?_
        refine q_iadd hx hb dX0_addRow_22 ?_
        refine lv_aload_n hx hb dX0_addRow_23 rfl (lv_at hl 2 rfl) ?_
        refine lv_iload_n hx hb dX0_addRow_24 rfl (lv_at hl 0 rfl) ?_
        refine q_callN hx hb hml hl.1 hown hK hZ hP hS (c_X3_valueAt l g base ad Sa 1 1 1 12 q aSa_1 rfl rfl (by omega) (by omega) ⟨by omega, by omega⟩) t_426 t_15 t_107 t_106 f_yX3_valueAt ⟨by decide, by decide⟩ rfl rfl (Nat.le_of_ble_eq_true rfl) dX0_addRow_25 ⟨by decide, by decide⟩ (q_an (fun H locs hP hS => ?_))
        refine q_nm (vA_in (by omega) (by omega)) ?_
        refine q_nm (show Sa 1 1 q = S 1 1 q from by rw [zS, adF_o (by decide)]) ?_
        refine q_callN hx hb hml hl.1 hown hK hZ hP hS (c_X3_setAt l g base ad Sa o 3 4 120 (((S o 0 1) * 12) + q) (S 1 1 q) aSa_o hkd rfl (by omega) (by omega) ⟨by omega, by omega⟩ (rS _ _ _)) t_427 t_15 t_110 t_109 f_yX3_setAt ⟨by decide, by decide⟩ rfl rfl (Nat.le_of_ble_eq_true rfl) dX0_addRow_28 ⟨by decide, by decide⟩ (q_an (fun H locs hP hS => ?_))
        rw [sA_in (by omega) (by omega)] at hP
        generalize eS3 : st Sa o 3 (((S o 0 1) * 12) + q) (S 1 1 q) = S3 at hP
        have qS3 : ∀ (a1 b1 : Nat) (i1 : Int), S3 a1 b1 i1 = if a1 = o ∧ b1 = 3 ∧ i1 = ((S o 0 1) * 12) + q then S 1 1 q else Sa a1 b1 i1 := fun a1 b1 i1 => by rw [← eS3]; exact st_at _ _ _ _ _ _ _ _
        have rS3 : ∀ (a1 b1 : Nat) (i1 : Int), rng (S3 a1 b1 i1) := fun a1 b1 i1 => hP.rg a1 b1 i1
        have aS3_o : S3 o 0 (-1) = 1 := by rw [qS3, if_neg (by omega)]; exact aSa_o
        have aS3_1 : S3 1 0 (-1) = 1 := by rw [qS3, if_neg (by omega)]; exact aSa_1
        refine lv_iinc (v := i32 (q + 1)) (lv' := [(2, .int (i32 (q + 1))), (0, .ref (ad o 0)), (1, .ref (ad 1 1))]) hx hb dX0_addRow_31 hl (k := 0) rfl (i32_add _ _) (by decide) rfl (fun ls hl => ?_)
        refine lv_goto (tgt := 2) hx hb dX0_addRow_34 (by decide) ?_
        exact ih2 (q + 1) S3 _ _ _ (by omega) (by exact ad_s zS zq.1 qS3) (by omega) hP hS (lv_sub hl [0, 1, 2] rfl)
  exact L2 ((S o 0 0 - 0) + 1).toNat 0 S _ _ _ (by omega) (by exact ad_0 S o) (by omega) hP hS (lv_sub hl [0, 1, 2] rfl)

set_option maxHeartbeats 4000000 in
set_option maxRecDepth 100000 in
theorem c_X0_hatchBetween (l : Launch) (g : GT) (base : Nat) (ad : Nat → Nat → Nat) (S : St) (o : Nat) (u w : Int) (hal : S o 0 (-1) = 1) (hkd : kd o = 4) (hrn : rng u) (hrn2 : rng w) : Met l yX0_hatchBetween [Cond.code yX0_hatchBetween cX0_hatchBetween 3 (none : Option FieldType)] ({ frames := 0, cells := 0, slots := 0, locals := 0 }) (va_Pc [.ref (ad o 0), .int (i32 (u)), .int (i32 (w))] (PK g base ad S)) (gQ g base (an (none) ad (st (st S o 0 3 u) o 0 4 w))) 0 0 (fun q => base ≤ q) := by
  refine mk_m (own := RX0) (lv0 := [(0, .ref (ad o 0)), (1, .int (i32 (u))), (2, .int (i32 (w)))]) (by decide) rfl (Nat.le_of_ble_eq_true rfl) rfl ?_
  intro p e s m below meth cz av Qm hx hb hr hml hown hlocks hK hZ hP hQm ls hl
  have hS : va_S (fun q => base ≤ q) s.heap s.heap [] := va_S.rf
  have rS : ∀ (a1 b1 : Nat) (i1 : Int), rng (S a1 b1 i1) := fun a1 b1 i1 => hP.rg a1 b1 i1
  refine lv_aload_n hx hb dX0_hatchBetween_0 rfl (lv_at hl 0 rfl) ?_
  refine lv_iload_n hx hb dX0_hatchBetween_1 rfl (lv_at hl 1 rfl) ?_
  refine p_put (k := 4) hx hb hown hK hP hS hal hkd rfl rfl (lay_X0 hK) tyX0 tyX0_ok nmX0 3 367 (by decide) t_367 rfl rfl (by decide +kernel) hrn (Nat.le_of_ble_eq_true rfl) (set_4_3 _ _ _ _) dX0_hatchBetween_2 (fun H locs hP hS => ?_)
  generalize eS1 : st S o 0 3 u = S1 at hP
  have qS1 : ∀ (a1 b1 : Nat) (i1 : Int), S1 a1 b1 i1 = if a1 = o ∧ b1 = 0 ∧ i1 = 3 then u else S a1 b1 i1 := fun a1 b1 i1 => by rw [← eS1]; exact st_at _ _ _ _ _ _ _ _
  have rS1 : ∀ (a1 b1 : Nat) (i1 : Int), rng (S1 a1 b1 i1) := fun a1 b1 i1 => hP.rg a1 b1 i1
  have aS1_o : S1 o 0 (-1) = 1 := by rw [qS1, if_neg (by omega)]; exact hal
  refine lv_aload_n hx hb dX0_hatchBetween_5 rfl (lv_at hl 0 rfl) ?_
  refine lv_iload_n hx hb dX0_hatchBetween_6 rfl (lv_at hl 2 rfl) ?_
  refine p_put (k := 4) hx hb hown hK hP hS aS1_o hkd rfl rfl (lay_X0 hK) tyX0 tyX0_ok nmX0 4 368 (by decide) t_368 rfl rfl (by decide +kernel) hrn2 (Nat.le_of_ble_eq_true rfl) (set_4_4 _ _ _ _) dX0_hatchBetween_7 (fun H locs hP hS => ?_)
  generalize eS2 : st S1 o 0 4 w = S2 at hP
  have qS2 : ∀ (a1 b1 : Nat) (i1 : Int), S2 a1 b1 i1 = if a1 = o ∧ b1 = 0 ∧ i1 = 4 then w else S1 a1 b1 i1 := fun a1 b1 i1 => by rw [← eS2]; exact st_at _ _ _ _ _ _ _ _
  have rS2 : ∀ (a1 b1 : Nat) (i1 : Int), rng (S2 a1 b1 i1) := fun a1 b1 i1 => hP.rg a1 b1 i1
  have aS2_o : S2 o 0 (-1) = 1 := by rw [qS2, if_neg (by omega)]; exact aS1_o
  subst hQm
  exact q_vret hx hb hr hlocks hP hS ⟨rfl, rfl, (by rw [← eS2, ← eS1])⟩ (by decide) (by decide) dX0_hatchBetween_10

set_option maxHeartbeats 4000000 in
set_option maxRecDepth 100000 in
theorem c_X0_colourAt (l : Launch) (g : GT) (base : Nat) (ad : Nat → Nat → Nat) (S : St) (o : Nat) (r c : Int) (mir : Prop) (hal : S o 0 (-1) = 1) (hkd : kd o = 4) (hwd : 0 ≤ S o 0 0 ∧ S o 0 0 ≤ 12) (hrr : 0 ≤ r ∧ r < 10) (hcc : 0 ≤ c ∧ c < S o 0 0) : Met l yX0_colourAt [Cond.code yX0_colourAt cX0_colourAt 6 (some FieldType.int)] ({ frames := 1, cells := 0, slots := 0, locals := 21 }) (va_Pc [.ref (ad o 0), .int (i32 (r)), .int (i32 (c)), .int (i32 (b2 (mir)))] (PK g base ad S)) (gQ g base (an (some (.int (i32 (dcF S o r (cif mir (S o 0 0 - 1 - c) c))))) ad S)) 0 0 (fun q => base ≤ q) := by
  refine mk_m (own := RX0) (lv0 := [(0, .ref (ad o 0)), (1, .int (i32 (r))), (2, .int (i32 (c))), (3, .int (i32 (b2 (mir))))]) (by decide) rfl (Nat.le_of_ble_eq_true rfl) rfl ?_
  intro p e s m below meth cz av Qm hx hb hr hml hown hlocks hK hZ hP hQm ls hl
  have hS : va_S (fun q => base ≤ q) s.heap s.heap [] := va_S.rf
  have rS : ∀ (a1 b1 : Nat) (i1 : Int), rng (S a1 b1 i1) := fun a1 b1 i1 => hP.rg a1 b1 i1
  refine lv_iload_n hx hb dX0_colourAt_0 rfl (lv_at hl 3 rfl) ?_
  have J16 : ∀ (b16 : Int) (H : Heap) (locs : List Loc), (((¬ (mir)) ∧ b16 = c) ∨ ((mir) ∧ b16 = ((S o 0 0) - 1) - c)) → pic g base ad S H → va_S (fun q => base ≤ q) s.heap H locs → W p l e ({ frames := 1, cells := 0, slots := 0, locals := 21 } : Room) s m av below meth cz H locs 0 0 Qm (F0 m 16 ls (Value.int (i32 b16) :: [])) := by
    intro b16 H locs hb16 hP hS
    have e16 : b16 = cif mir (S o 0 0 - 1 - c) c := by
      rcases hb16 with ⟨h1, h2⟩ | ⟨h1, h2⟩
      · rw [cif_f h1, h2]
      · rw [cif_t h1, h2]
    have b16b : 0 ≤ b16 ∧ b16 < 12 := by rcases hb16 with ⟨-, h2⟩ | ⟨-, h2⟩ <;> omega
    refine lv_istore (lv' := [(4, .int (i32 (b16))), (0, .ref (ad o 0)), (1, .int (i32 (r))), (2, .int (i32 (c))), (3, .int (i32 (b2 (mir))))]) hx hb dX0_colourAt_16 hl (by decide) rfl (fun ls hl => ?_)
    refine lv_aload_n hx hb dX0_colourAt_18 rfl (lv_at hl 1 rfl) ?_
    refine p_get (k := 4) hx hb hown hK hP hal hkd rfl rfl (lay_X0 hK) 2 366 (by decide) t_366 rfl rfl dX0_colourAt_19 ?_
    refine lv_iload_n hx hb dX0_colourAt_22 rfl (lv_at hl 2 rfl) ?_
    refine lv_bipush (v := i32 (12)) hx hb dX0_colourAt_23 (by decide) ?_
    refine q_imul hx hb dX0_colourAt_25 ?_
    refine lv_iload hx hb dX0_colourAt_26 (lv_at hl 0 rfl) ?_
    refine q_iadd hx hb dX0_colourAt_28 ?_
    refine q_callN hx hb hml hl.1 hown hK hZ hP hS (c_X3_valueAt l g base ad S o 3 4 120 ((r * 12) + b16) hal hkd rfl (by omega) (by omega) ⟨by omega, by omega⟩) t_426 t_15 t_107 t_106 f_yX3_valueAt ⟨by decide, by decide⟩ rfl rfl (Nat.le_of_ble_eq_true rfl) dX0_colourAt_29 ⟨by decide, by decide⟩ (q_an (fun H locs hP hS => ?_))
    refine q_nm (vA_in (by omega) (by omega)) ?_
    refine lv_istore (lv' := [(5, .int (i32 (S o 3 ((r * 12) + b16)))), (4, .int (i32 (b16))), (0, .ref (ad o 0)), (1, .int (i32 (r))), (2, .int (i32 (c))), (3, .int (i32 (b2 (mir))))]) hx hb dX0_colourAt_32 hl (by decide) rfl (fun ls hl => ?_)
    refine lv_iload hx hb dX0_colourAt_34 (lv_at hl 0 rfl) ?_
    refine lv_bipush (v := i32 (6)) hx hb dX0_colourAt_36 (by decide) ?_
    refine q_icmp_eq (tgt := 44) hx hb (hP.rg _ _ _) ⟨by decide, by decide⟩ dX0_colourAt_38 (by decide) (fun c_1 => ?_) (fun c_1 => ?_)
    · -- (S o 3 ((r * 12) + b16)) = 6
      refine lv_iload_n hx hb dX0_colourAt_44 rfl (lv_at hl 3 rfl) ?_
      refine lv_iload hx hb dX0_colourAt_45 (lv_at hl 1 rfl) ?_
      refine q_iadd hx hb dX0_colourAt_47 ?_
      refine lv_iconst (v := i32 (2)) hx hb dX0_colourAt_48 rfl ?_
      refine q_irem hx hb (by omega) (by omega) (by omega) (by omega) dX0_colourAt_49 ?_
      have J64 : ∀ (b64 : Int) (H : Heap) (locs : List Loc), (((((r + b16) % 2) ≠ 0) ∧ b64 = S o 0 4) ∨ ((((r + b16) % 2) = 0) ∧ b64 = S o 0 3)) → pic g base ad S H → va_S (fun q => base ≤ q) s.heap H locs → W p l e ({ frames := 1, cells := 0, slots := 0, locals := 21 } : Room) s m av below meth cz H locs 0 0 Qm (F0 m 64 ls (Value.int (i32 b64) :: [])) := by
        intro b64 H locs hb64 hP hS
        refine q_nm (show (b64 : Int) = dcF S o r (cif mir (S o 0 0 - 1 - c) c) from by unfold dcF; rw [← e16, cif_t c_1]; rcases hb64 with ⟨h1, h2⟩ | ⟨h1, h2⟩ <;> rw [h2] <;> first | rw [cif_t h1] | rw [cif_f h1]) ?_
        subst hQm
        exact q_iret hx hb hr hlocks hP hS ⟨rfl, rfl, rfl⟩ (by decide) (by decide) dX0_colourAt_64
      refine q_if_ne (tgt := 60) hx hb ⟨by omega, by omega⟩ dX0_colourAt_50 (by decide) (fun c_2 => ?_) (fun c_2 => ?_)
      · -- ((r + b16) % 2) ≠ 0
        refine lv_aload_n hx hb dX0_colourAt_60 rfl (lv_at hl 2 rfl) ?_
        refine p_get (k := 4) hx hb hown hK hP hal hkd rfl rfl (lay_X0 hK) 4 368 (by decide) t_368 rfl rfl dX0_colourAt_61 ?_
        exact J64 _ _ _ (by first | omega | (simp only [*]; done) | simp_all) hP hS
      · -- ((r + b16) % 2) = 0
        refine lv_aload_n hx hb dX0_colourAt_53 rfl (lv_at hl 2 rfl) ?_
        refine p_get (k := 4) hx hb hown hK hP hal hkd rfl rfl (lay_X0 hK) 3 367 (by decide) t_367 rfl rfl dX0_colourAt_54 ?_
        refine lv_goto (tgt := 64) hx hb dX0_colourAt_57 (by decide) ?_
        exact J64 _ _ _ (by first | omega | (simp only [*]; done) | simp_all) hP hS
    · -- (S o 3 ((r * 12) + b16)) ≠ 6
      refine lv_iload hx hb dX0_colourAt_41 (lv_at hl 0 rfl) ?_
      refine q_nm (show (S o 3 ((r * 12) + b16) : Int) = dcF S o r (cif mir (S o 0 0 - 1 - c) c) from by unfold dcF; rw [← e16, cif_f c_1]) ?_
      subst hQm
      exact q_iret hx hb hr hlocks hP hS ⟨rfl, rfl, rfl⟩ (by decide) (by decide) dX0_colourAt_43
  refine q_if_eqb (tgt := 15) hx hb dX0_colourAt_1 (by decide) (fun c_3 => ?_) (fun c_3 => ?_)
  · -- ¬ (mir)
    refine lv_iload_n hx hb dX0_colourAt_15 rfl (lv_at hl 2 rfl) ?_
    exact J16 _ _ _ (by first | omega | (simp only [*]; done) | simp_all) hP hS
  · -- mir
    refine lv_aload_n hx hb dX0_colourAt_4 rfl (lv_at hl 0 rfl) ?_
    refine p_get (k := 4) hx hb hown hK hP hal hkd rfl rfl (lay_X0 hK) 0 364 (by decide) t_364 rfl rfl dX0_colourAt_5 ?_
    refine lv_iconst (v := i32 (1)) hx hb dX0_colourAt_8 rfl ?_
    refine q_isub hx hb dX0_colourAt_9 ?_
    refine lv_iload_n hx hb dX0_colourAt_10 rfl (lv_at hl 2 rfl) ?_
    refine q_isub hx hb dX0_colourAt_11 ?_
    refine lv_goto (tgt := 16) hx hb dX0_colourAt_12 (by decide) ?_
    exact J16 _ _ _ (by first | omega | (simp only [*]; done) | simp_all) hP hS

set_option maxHeartbeats 4000000 in
set_option maxRecDepth 100000 in
theorem c_X1_threadsIn (l : Launch) (g : GT) (base : Nat) (ad : Nat → Nat → Nat) (S : St) (z : Int) (halb : S 2 0 (-1) = 1) (hzz : 0 ≤ z ∧ z < 20) : Met l yX1_threadsIn [Cond.code yX1_threadsIn cX1_threadsIn 2 (some FieldType.int)] ({ frames := 1, cells := 0, slots := 0, locals := 21 }) (va_Pc [.ref (ad 2 0), .int (i32 (z))] (PK g base ad S)) (gQ g base (an (some (.int (i32 (S 2 4 z)))) ad S)) 0 0 (fun q => base ≤ q) := by
  refine mk_m (own := RX1) (lv0 := [(0, .ref (ad 2 0)), (1, .int (i32 (z)))]) (by decide) rfl (Nat.le_of_ble_eq_true rfl) rfl ?_
  intro p e s m below meth cz av Qm hx hb hr hml hown hlocks hK hZ hP hQm ls hl
  have hS : va_S (fun q => base ≤ q) s.heap s.heap [] := va_S.rf
  have rS : ∀ (a1 b1 : Nat) (i1 : Int), rng (S a1 b1 i1) := fun a1 b1 i1 => hP.rg a1 b1 i1
  refine lv_aload_n hx hb dX1_threadsIn_0 rfl (lv_at hl 0 rfl) ?_
  refine p_get (k := 2) hx hb hown hK hP halb rfl rfl rfl (lay_X1 hK) 3 45 (by decide) t_45 rfl rfl dX1_threadsIn_1 ?_
  refine lv_iload_n hx hb dX1_threadsIn_4 rfl (lv_at hl 1 rfl) ?_
  refine q_callN hx hb hml hl.1 hown hK hZ hP hS (c_X3_valueAt l g base ad S 2 4 2 20 z halb rfl rfl (by omega) (by omega) ⟨by omega, by omega⟩) t_115 t_15 t_107 t_106 f_yX3_valueAt ⟨by decide, by decide⟩ rfl rfl (Nat.le_of_ble_eq_true rfl) dX1_threadsIn_5 ⟨by decide, by decide⟩ (q_an (fun H locs hP hS => ?_))
  refine q_nm (vA_in (by omega) (by omega)) ?_
  subst hQm
  exact q_iret hx hb hr hlocks hP hS ⟨rfl, rfl, rfl⟩ (by decide) (by decide) dX1_threadsIn_8

set_option maxHeartbeats 4000000 in
set_option maxRecDepth 100000 in
theorem c_X1_threadsGivenBy (l : Launch) (g : GT) (base : Nat) (ad : Nat → Nat → Nat) (S : St) (z : Int) (halb : S 2 0 (-1) = 1) (hzz : 0 ≤ z ∧ z < 20) : Met l yX1_threadsGivenBy [Cond.code yX1_threadsGivenBy cX1_threadsGivenBy 2 (some FieldType.int)] ({ frames := 1, cells := 0, slots := 0, locals := 21 }) (va_Pc [.ref (ad 2 0), .int (i32 (z))] (PK g base ad S)) (gQ g base (an (some (.int (i32 (S 2 3 z - S 2 4 z)))) ad S)) 0 0 (fun q => base ≤ q) := by
  refine mk_m (own := RX1) (lv0 := [(0, .ref (ad 2 0)), (1, .int (i32 (z)))]) (by decide) rfl (Nat.le_of_ble_eq_true rfl) rfl ?_
  intro p e s m below meth cz av Qm hx hb hr hml hown hlocks hK hZ hP hQm ls hl
  have hS : va_S (fun q => base ≤ q) s.heap s.heap [] := va_S.rf
  have rS : ∀ (a1 b1 : Nat) (i1 : Int), rng (S a1 b1 i1) := fun a1 b1 i1 => hP.rg a1 b1 i1
  refine lv_aload_n hx hb dX1_threadsGivenBy_0 rfl (lv_at hl 0 rfl) ?_
  refine p_get (k := 2) hx hb hown hK hP halb rfl rfl rfl (lay_X1 hK) 2 44 (by decide) t_44 rfl rfl dX1_threadsGivenBy_1 ?_
  refine lv_iload_n hx hb dX1_threadsGivenBy_4 rfl (lv_at hl 1 rfl) ?_
  refine q_callN hx hb hml hl.1 hown hK hZ hP hS (c_X3_valueAt l g base ad S 2 3 2 20 z halb rfl rfl (by omega) (by omega) ⟨by omega, by omega⟩) t_115 t_15 t_107 t_106 f_yX3_valueAt ⟨by decide, by decide⟩ rfl rfl (Nat.le_of_ble_eq_true rfl) dX1_threadsGivenBy_5 ⟨by decide, by decide⟩ (q_an (fun H locs hP hS => ?_))
  refine q_nm (vA_in (by omega) (by omega)) ?_
  refine lv_aload_n hx hb dX1_threadsGivenBy_8 rfl (lv_at hl 0 rfl) ?_
  refine p_get (k := 2) hx hb hown hK hP halb rfl rfl rfl (lay_X1 hK) 3 45 (by decide) t_45 rfl rfl dX1_threadsGivenBy_9 ?_
  refine lv_iload_n hx hb dX1_threadsGivenBy_12 rfl (lv_at hl 1 rfl) ?_
  refine q_callN hx hb hml hl.1 hown hK hZ hP hS (c_X3_valueAt l g base ad S 2 4 2 20 z halb rfl rfl (by omega) (by omega) ⟨by omega, by omega⟩) t_115 t_15 t_107 t_106 f_yX3_valueAt ⟨by decide, by decide⟩ rfl rfl (Nat.le_of_ble_eq_true rfl) dX1_threadsGivenBy_13 ⟨by decide, by decide⟩ (q_an (fun H locs hP hS => ?_))
  refine q_nm (vA_in (by omega) (by omega)) ?_
  refine q_isub hx hb dX1_threadsGivenBy_16 ?_
  refine q_nm (show ((S 2 3 z) - (S 2 4 z) : Int) = S 2 3 z - S 2 4 z from by omega) ?_
  subst hQm
  exact q_iret hx hb hr hlocks hP hS ⟨rfl, rfl, rfl⟩ (by decide) (by decide) dX1_threadsGivenBy_17

set_option maxHeartbeats 4000000 in
set_option maxRecDepth 100000 in
theorem c_X1_fadeOf (l : Launch) (g : GT) (base : Nat) (ad : Nat → Nat → Nat) (S : St) (z : Int) (halb : S 2 0 (-1) = 1) (hzz : 0 ≤ z ∧ z < 20) : Met l yX1_fadeOf [Cond.code yX1_fadeOf cX1_fadeOf 2 (some FieldType.int)] ({ frames := 1, cells := 0, slots := 0, locals := 21 }) (va_Pc [.ref (ad 2 0), .int (i32 (z))] (PK g base ad S)) (gQ g base (an (some (.int (i32 (S 2 5 z)))) ad S)) 0 0 (fun q => base ≤ q) := by
  refine mk_m (own := RX1) (lv0 := [(0, .ref (ad 2 0)), (1, .int (i32 (z)))]) (by decide) rfl (Nat.le_of_ble_eq_true rfl) rfl ?_
  intro p e s m below meth cz av Qm hx hb hr hml hown hlocks hK hZ hP hQm ls hl
  have hS : va_S (fun q => base ≤ q) s.heap s.heap [] := va_S.rf
  have rS : ∀ (a1 b1 : Nat) (i1 : Int), rng (S a1 b1 i1) := fun a1 b1 i1 => hP.rg a1 b1 i1
  refine lv_aload_n hx hb dX1_fadeOf_0 rfl (lv_at hl 0 rfl) ?_
  refine p_get (k := 2) hx hb hown hK hP halb rfl rfl rfl (lay_X1 hK) 4 46 (by decide) t_46 rfl rfl dX1_fadeOf_1 ?_
  refine lv_iload_n hx hb dX1_fadeOf_4 rfl (lv_at hl 1 rfl) ?_
  refine q_callN hx hb hml hl.1 hown hK hZ hP hS (c_X3_valueAt l g base ad S 2 5 2 20 z halb rfl rfl (by omega) (by omega) ⟨by omega, by omega⟩) t_115 t_15 t_107 t_106 f_yX3_valueAt ⟨by decide, by decide⟩ rfl rfl (Nat.le_of_ble_eq_true rfl) dX1_fadeOf_5 ⟨by decide, by decide⟩ (q_an (fun H locs hP hS => ?_))
  refine q_nm (vA_in (by omega) (by omega)) ?_
  subst hQm
  exact q_iret hx hb hr hlocks hP hS ⟨rfl, rfl, rfl⟩ (by decide) (by decide) dX1_fadeOf_8

set_option maxHeartbeats 4000000 in
set_option maxRecDepth 100000 in
theorem c_X1_isBleeding (l : Launch) (g : GT) (base : Nat) (ad : Nat → Nat → Nat) (S : St) (z : Int) (halb : S 2 0 (-1) = 1) (hzz : 0 ≤ z ∧ z < 20) : Met l yX1_isBleeding [Cond.code yX1_isBleeding cX1_isBleeding 2 (some FieldType.boolean)] ({ frames := 0, cells := 0, slots := 0, locals := 0 }) (va_Pc [.ref (ad 2 0), .int (i32 (z))] (PK g base ad S)) (gQ g base (an (some (.int (i32 (b2 (S 2 6 z ≠ 0))))) ad S)) 0 0 (fun q => base ≤ q) := by
  refine mk_m (own := RX1) (lv0 := [(0, .ref (ad 2 0)), (1, .int (i32 (z)))]) (by decide) rfl (Nat.le_of_ble_eq_true rfl) rfl ?_
  intro p e s m below meth cz av Qm hx hb hr hml hown hlocks hK hZ hP hQm ls hl
  have hS : va_S (fun q => base ≤ q) s.heap s.heap [] := va_S.rf
  have rS : ∀ (a1 b1 : Nat) (i1 : Int), rng (S a1 b1 i1) := fun a1 b1 i1 => hP.rg a1 b1 i1
  refine lv_iload_n hx hb dX1_isBleeding_0 rfl (lv_at hl 1 rfl) ?_
  have J27 : ∀ (H : Heap) (locs : List Loc), pic g base ad S H → va_S (fun q => base ≤ q) s.heap H locs → W p l e ({ frames := 0, cells := 0, slots := 0, locals := 0 } : Room) s m av below meth cz H locs 0 0 Qm (F0 m 27 ls (Value.int (i32 (b2 ((0 ≤ z) ∧ (z < 20) ∧ ((S 2 6 z) ≠ 0)))) :: [])) := by
    intro H locs hP hS
    refine q_nm (b2_c (show ((0 ≤ z) ∧ (z < 20) ∧ ((S 2 6 z) ≠ 0)) ↔ (S 2 6 z ≠ 0) from by first | omega | (simp only [*]; done) | simp_all)) ?_
    subst hQm
    exact q_zret hx hb hr hlocks hP hS (b2_01 _) ⟨rfl, rfl, rfl⟩ (by decide) (by decide) dX1_isBleeding_27
  refine q_if_lt (tgt := 26) hx hb ⟨by omega, by omega⟩ dX1_isBleeding_1 (by decide) (fun c_1 => ?_) (fun c_1 => ?_)
  · -- z < 0
    refine lv_iconst (v := i32 (0)) hx hb dX1_isBleeding_26 rfl ?_
    refine q_nm (b2_f (show ¬ ((0 ≤ z) ∧ (z < 20) ∧ ((S 2 6 z) ≠ 0)) from by first | omega | (simp only [*]; done) | simp_all)).symm ?_
    exact J27 _ _ hP hS
  · -- 0 ≤ z
    refine lv_iload_n hx hb dX1_isBleeding_4 rfl (lv_at hl 1 rfl) ?_
    refine lv_aload_n hx hb dX1_isBleeding_5 rfl (lv_at hl 0 rfl) ?_
    refine p_get (k := 2) hx hb hown hK hP halb rfl rfl rfl (lay_X1 hK) 5 47 (by decide) t_47 rfl rfl dX1_isBleeding_6 ?_
    refine p_alen (k := 2) (r := 6) (q := 1) (n := 20) hx hb hK hP halb rfl rfl (by decide) (by decide) dX1_isBleeding_9 ?_
    refine q_icmp_ge (tgt := 26) hx hb ⟨by omega, by omega⟩ ⟨by decide, by decide⟩ dX1_isBleeding_10 (by decide) (fun c_2 => ?_) (fun c_2 => ?_)
    · -- 20 ≤ z
      refine lv_iconst (v := i32 (0)) hx hb dX1_isBleeding_26 rfl ?_
      refine q_nm (b2_f (show ¬ ((0 ≤ z) ∧ (z < 20) ∧ ((S 2 6 z) ≠ 0)) from by first | omega | (simp only [*]; done) | simp_all)).symm ?_
      exact J27 _ _ hP hS
    · -- z < 20
      refine lv_aload_n hx hb dX1_isBleeding_13 rfl (lv_at hl 0 rfl) ?_
      refine p_get (k := 2) hx hb hown hK hP halb rfl rfl rfl (lay_X1 hK) 5 47 (by decide) t_47 rfl rfl dX1_isBleeding_14 ?_
      refine lv_iload_n hx hb dX1_isBleeding_17 rfl (lv_at hl 1 rfl) ?_
      refine p_zald (k := 2) (r := 6) (n := 20) hx hb hK hP halb rfl rfl (by decide) (by decide) (by omega) (by omega) dX1_isBleeding_18 ?_
      refine q_if_eq (tgt := 26) hx hb (hP.rg _ _ _) dX1_isBleeding_19 (by decide) (fun c_3 => ?_) (fun c_3 => ?_)
      · -- (S 2 6 z) = 0
        refine lv_iconst (v := i32 (0)) hx hb dX1_isBleeding_26 rfl ?_
        refine q_nm (b2_f (show ¬ ((0 ≤ z) ∧ (z < 20) ∧ ((S 2 6 z) ≠ 0)) from by first | omega | (simp only [*]; done) | simp_all)).symm ?_
        exact J27 _ _ hP hS
      · -- (S 2 6 z) ≠ 0
        refine lv_iconst (v := i32 (1)) hx hb dX1_isBleeding_22 rfl ?_
        refine lv_goto (tgt := 27) hx hb dX1_isBleeding_23 (by decide) ?_
        refine q_nm (b2_t (show (0 ≤ z) ∧ (z < 20) ∧ ((S 2 6 z) ≠ 0) from by first | omega | (simp only [*]; done) | simp_all)).symm ?_
        exact J27 _ _ hP hS

set_option maxHeartbeats 4000000 in
set_option maxRecDepth 100000 in
theorem c_X1_threadsOfColour (l : Launch) (g : GT) (base : Nat) (ad : Nat → Nat → Nat) (S : St) (w : Int) (halb : S 2 0 (-1) = 1) (hrn : rng w) (hct : 0 ≤ S 2 0 0 ∧ S 2 0 0 ≤ 20) : Met l yX1_threadsOfColour [Cond.code yX1_threadsOfColour cX1_threadsOfColour 4 (some FieldType.int)] ({ frames := 2, cells := 0, slots := 0, locals := 42 }) (va_Pc [.ref (ad 2 0), .int (i32 (w))] (PK g base ad S)) (gQ g base (an (some (.int (i32 (thC S w)))) ad S)) 0 0 (fun q => base ≤ q) := by
  refine mk_m (own := RX1) (lv0 := [(0, .ref (ad 2 0)), (1, .int (i32 (w)))]) (by decide) rfl (Nat.le_of_ble_eq_true rfl) rfl ?_
  intro p e s m below meth cz av Qm hx hb hr hml hown hlocks hK hZ hP hQm ls hl
  have hS : va_S (fun q => base ≤ q) s.heap s.heap [] := va_S.rf
  have rS : ∀ (a1 b1 : Nat) (i1 : Int), rng (S a1 b1 i1) := fun a1 b1 i1 => hP.rg a1 b1 i1
  refine lv_iconst (v := i32 (0)) hx hb dX1_threadsOfColour_0 rfl ?_
  refine lv_istore_n (lv' := [(2, .int (i32 (0))), (0, .ref (ad 2 0)), (1, .int (i32 (w)))]) hx hb dX1_threadsOfColour_1 rfl hl (by decide) rfl (fun ls hl => ?_)
  refine lv_iconst (v := i32 (0)) hx hb dX1_threadsOfColour_2 rfl ?_
  refine lv_istore_n (lv' := [(3, .int (i32 (0))), (2, .int (i32 (0))), (0, .ref (ad 2 0)), (1, .int (i32 (w)))]) hx hb dX1_threadsOfColour_3 rfl hl (by decide) rfl (fun ls hl => ?_)
  have L4 : ∀ (k : Nat) (t j : Int) (H : Heap) (locs : List Loc) (ls : Array Slot), (0 ≤ j ∧ j ≤ S 2 0 0) → (t = sm (fun j => cif (S 2 2 j = w) (S 2 4 j) 0) j.toNat) → S 2 0 0 - j < (k : Int) → pic g base ad S H → va_S (fun q => base ≤ q) s.heap H locs → lv_has ls 4 [(3, .int (i32 (j))), (2, .int (i32 (t))), (0, .ref (ad 2 0)), (1, .int (i32 (w)))] → W p l e ({ frames := 2, cells := 0, slots := 0, locals := 42 } : Room) s m av below meth cz H locs 0 0 Qm (F0 m 4 ls []) := by
    intro k
    induction k with
    | zero => intro t j H locs ls zj zt hmu _ _ _; exact absurd hmu (by omega)
    | succ k ih4 =>
      intro t j H locs ls zj zt hmu hP hS hl
      refine lv_iload_n hx hb dX1_threadsOfColour_4 rfl (lv_at hl 0 rfl) ?_
      refine lv_aload_n hx hb dX1_threadsOfColour_5 rfl (lv_at hl 2 rfl) ?_
      refine p_get (k := 2) hx hb hown hK hP halb rfl rfl rfl (lay_X1 hK) 0 42 (by decide) t_42 rfl rfl dX1_threadsOfColour_6 ?_
      refine q_icmp_ge (tgt := 38) hx hb ⟨by omega, by omega⟩ (hP.rg _ _ _) dX1_threadsOfColour_9 (by decide) (fun c_1 => ?_) (fun c_1 => ?_)
      · -- (S 2 0 0) ≤ j
        refine lv_iload_n hx hb dX1_threadsOfColour_38 rfl (lv_at hl 1 rfl) ?_
        refine q_nm (show (t : Int) = thC S w from by rw [zt, show j = S 2 0 0 from by omega]; rfl) ?_
        subst hQm
        exact q_iret hx hb hr hlocks hP hS ⟨rfl, rfl, rfl⟩ (by decide) (by decide) dX1_threadsOfColour_39
      · -- j < (S 2 0 0)
        refine lv_aload_n hx hb dX1_threadsOfColour_12 rfl (lv_at hl 2 rfl) ?_
        refine p_get (k := 2) hx hb hown hK hP halb rfl rfl rfl (lay_X1 hK) 1 43 (by decide) t_43 rfl rfl dX1_threadsOfColour_13 ?_
        refine lv_iload_n hx hb dX1_threadsOfColour_16 rfl (lv_at hl 0 rfl) ?_
        refine q_callN hx hb hml hl.1 hown hK hZ hP hS (c_X3_valueAt l g base ad S 2 2 2 20 j halb rfl rfl (by omega) (by omega) ⟨by omega, by omega⟩) t_115 t_15 t_107 t_106 f_yX3_valueAt ⟨by decide, by decide⟩ rfl rfl (Nat.le_of_ble_eq_true rfl) dX1_threadsOfColour_17 ⟨by decide, by decide⟩ (q_an (fun H locs hP hS => ?_))
        refine q_nm (vA_in (by omega) (by omega)) ?_
        refine lv_iload_n hx hb dX1_threadsOfColour_20 rfl (lv_at hl 3 rfl) ?_
        refine q_icmp_ne (tgt := 32) hx hb (hP.rg _ _ _) hrn dX1_threadsOfColour_21 (by decide) (fun c_2 => ?_) (fun c_2 => ?_)
        · -- (S 2 2 j) ≠ w
          refine lv_iinc (v := i32 (j + 1)) (lv' := [(3, .int (i32 (j + 1))), (2, .int (i32 (t))), (0, .ref (ad 2 0)), (1, .int (i32 (w)))]) hx hb dX1_threadsOfColour_32 hl (k := 0) rfl (i32_add _ _) (by decide) rfl (fun ls hl => ?_)
          refine lv_goto (tgt := 4) hx hb dX1_threadsOfColour_35 (by decide) ?_
          exact ih4 t (j + 1) _ _ _ (by omega) (by rw [sm_1 _ zj.1, ← zt]; rw [cif_f c_2]; omega) (by omega) hP hS (lv_sub hl [0, 1, 2, 3] rfl)
        · -- (S 2 2 j) = w
          refine lv_iload_n hx hb dX1_threadsOfColour_24 rfl (lv_at hl 1 rfl) ?_
          refine lv_aload_n hx hb dX1_threadsOfColour_25 rfl (lv_at hl 2 rfl) ?_
          refine lv_iload_n hx hb dX1_threadsOfColour_26 rfl (lv_at hl 0 rfl) ?_
          refine q_callV (k := 2) hx hb hml hl.1 hown hK hZ hP hS halb rfl rfl rfl (c_X1_threadsIn l g base ad S j halb (by omega)) t_260 t_261 (q_callB hK 572 16 262 t_572 t_16 t_262 f_yX1_threadsIn ⟨by decide, by decide⟩) rfl rfl (Nat.le_of_ble_eq_true rfl) dX1_threadsOfColour_27 ⟨by decide, by decide⟩  (q_an (fun H locs hP hS => ?_))
          refine q_iadd hx hb dX1_threadsOfColour_30 ?_
          refine lv_istore_n (lv' := [(2, .int (i32 (t + (S 2 4 j)))), (3, .int (i32 (j))), (0, .ref (ad 2 0)), (1, .int (i32 (w)))]) hx hb dX1_threadsOfColour_31 rfl hl (by decide) rfl (fun ls hl => ?_)
          refine lv_iinc (v := i32 (j + 1)) (lv' := [(3, .int (i32 (j + 1))), (2, .int (i32 (t + (S 2 4 j)))), (0, .ref (ad 2 0)), (1, .int (i32 (w)))]) hx hb dX1_threadsOfColour_32 hl (k := 1) rfl (i32_add _ _) (by decide) rfl (fun ls hl => ?_)
          refine lv_goto (tgt := 4) hx hb dX1_threadsOfColour_35 (by decide) ?_
          exact ih4 (t + (S 2 4 j)) (j + 1) _ _ _ (by omega) (by rw [sm_1 _ zj.1, ← zt]; rw [cif_t c_2]) (by omega) hP hS (lv_sub hl [0, 1, 2, 3] rfl)
  exact L4 ((S 2 0 0 - 0) + 1).toNat 0 0 _ _ _ (by omega) (by rfl) (by omega) hP hS (lv_sub hl [0, 1, 2, 3] rfl)

set_option maxHeartbeats 4000000 in
set_option maxRecDepth 100000 in
theorem c_X1_takeThread (l : Launch) (g : GT) (base : Nat) (ad : Nat → Nat → Nat) (S : St) (w : Int) (halb : S 2 0 (-1) = 1) (hrn : rng w) (hct : 0 ≤ S 2 0 0 ∧ S 2 0 0 ≤ 20) : Met l yX1_takeThread [Cond.code yX1_takeThread cX1_takeThread 4 (some FieldType.int)] ({ frames := 2, cells := 0, slots := 0, locals := 42 }) (va_Pc [.ref (ad 2 0), .int (i32 (w))] (PK g base ad S)) (gQ g base (an (some (.int (i32 (gvC S w)))) ad (tkS S w))) 0 0 (fun q => base ≤ q) := by
  refine mk_m (own := RX1) (lv0 := [(0, .ref (ad 2 0)), (1, .int (i32 (w)))]) (by decide) rfl (Nat.le_of_ble_eq_true rfl) rfl ?_
  intro p e s m below meth cz av Qm hx hb hr hml hown hlocks hK hZ hP hQm ls hl
  have hS : va_S (fun q => base ≤ q) s.heap s.heap [] := va_S.rf
  have rS : ∀ (a1 b1 : Nat) (i1 : Int), rng (S a1 b1 i1) := fun a1 b1 i1 => hP.rg a1 b1 i1
  refine lv_iconst (v := i32 (0)) hx hb dX1_takeThread_0 rfl ?_
  refine lv_istore_n (lv' := [(2, .int (i32 (0))), (0, .ref (ad 2 0)), (1, .int (i32 (w)))]) hx hb dX1_takeThread_1 rfl hl (by decide) rfl (fun ls hl => ?_)
  have L2 : ∀ (k : Nat) (j : Int) (H : Heap) (locs : List Loc) (ls : Array Slot), (0 ≤ j ∧ j ≤ S 2 0 0) → (gvC S w = gf (gvQ S w) (S 2 0 0 - j).toNat j) → S 2 0 0 - j < (k : Int) → pic g base ad S H → va_S (fun q => base ≤ q) s.heap H locs → lv_has ls 4 [(2, .int (i32 (j))), (0, .ref (ad 2 0)), (1, .int (i32 (w)))] → W p l e ({ frames := 2, cells := 0, slots := 0, locals := 42 } : Room) s m av below meth cz H locs 0 0 Qm (F0 m 2 ls []) := by
    intro k
    induction k with
    | zero => intro j H locs ls zj zg hmu _ _ _; exact absurd hmu (by omega)
    | succ k ih2 =>
      intro j H locs ls zj zg hmu hP hS hl
      refine lv_iload_n hx hb dX1_takeThread_2 rfl (lv_at hl 0 rfl) ?_
      refine lv_aload_n hx hb dX1_takeThread_3 rfl (lv_at hl 1 rfl) ?_
      refine p_get (k := 2) hx hb hown hK hP halb rfl rfl rfl (lay_X1 hK) 0 42 (by decide) t_42 rfl rfl dX1_takeThread_4 ?_
      refine q_icmp_ge (tgt := 51) hx hb ⟨by omega, by omega⟩ (hP.rg _ _ _) dX1_takeThread_7 (by decide) (fun c_1 => ?_) (fun c_1 => ?_)
      · -- (S 2 0 0) ≤ j
        have y2 : gvC S w = -1 := by
          rw [zg, show S 2 0 0 - j = 0 from by omega]; rfl
        refine lv_iconst (v := i32 (-1)) hx hb dX1_takeThread_51 rfl ?_
        refine q_nm (show (-1 : Int) = gvC S w from by exact y2.symm) ?_
        subst hQm
        exact q_iret hx hb hr hlocks hP hS ⟨rfl, rfl, (by exact (tk_a y2).symm)⟩ (by decide) (by decide) dX1_takeThread_52
      · -- j < (S 2 0 0)
        refine lv_aload_n hx hb dX1_takeThread_10 rfl (lv_at hl 1 rfl) ?_
        refine lv_iload_n hx hb dX1_takeThread_11 rfl (lv_at hl 0 rfl) ?_
        refine q_callV (k := 2) hx hb hml hl.1 hown hK hZ hP hS halb rfl rfl rfl (c_X1_threadsIn l g base ad S j halb (by omega)) t_260 t_261 (q_callB hK 572 16 262 t_572 t_16 t_262 f_yX1_threadsIn ⟨by decide, by decide⟩) rfl rfl (Nat.le_of_ble_eq_true rfl) dX1_takeThread_12 ⟨by decide, by decide⟩  (q_an (fun H locs hP hS => ?_))
        refine lv_istore_n (lv' := [(3, .int (i32 (S 2 4 j))), (2, .int (i32 (j))), (0, .ref (ad 2 0)), (1, .int (i32 (w)))]) hx hb dX1_takeThread_15 rfl hl (by decide) rfl (fun ls hl => ?_)
        refine lv_aload_n hx hb dX1_takeThread_16 rfl (lv_at hl 2 rfl) ?_
        refine p_get (k := 2) hx hb hown hK hP halb rfl rfl rfl (lay_X1 hK) 1 43 (by decide) t_43 rfl rfl dX1_takeThread_17 ?_
        refine lv_iload_n hx hb dX1_takeThread_20 rfl (lv_at hl 1 rfl) ?_
        refine q_callN hx hb hml hl.1 hown hK hZ hP hS (c_X3_valueAt l g base ad S 2 2 2 20 j halb rfl rfl (by omega) (by omega) ⟨by omega, by omega⟩) t_115 t_15 t_107 t_106 f_yX3_valueAt ⟨by decide, by decide⟩ rfl rfl (Nat.le_of_ble_eq_true rfl) dX1_takeThread_21 ⟨by decide, by decide⟩ (q_an (fun H locs hP hS => ?_))
        refine q_nm (vA_in (by omega) (by omega)) ?_
        refine lv_iload_n hx hb dX1_takeThread_24 rfl (lv_at hl 3 rfl) ?_
        refine q_icmp_ne (tgt := 45) hx hb (hP.rg _ _ _) hrn dX1_takeThread_25 (by decide) (fun c_2 => ?_) (fun c_2 => ?_)
        · -- (S 2 2 j) ≠ w
          refine lv_iinc (v := i32 (j + 1)) (lv' := [(2, .int (i32 (j + 1))), (3, .int (i32 (S 2 4 j))), (0, .ref (ad 2 0)), (1, .int (i32 (w)))]) hx hb dX1_takeThread_45 hl (k := 1) rfl (i32_add _ _) (by decide) rfl (fun ls hl => ?_)
          refine lv_goto (tgt := 2) hx hb dX1_takeThread_48 (by decide) ?_
          exact ih2 (j + 1) _ _ _ (by omega) (by rw [zg, show S 2 0 0 - j = (S 2 0 0 - (j + 1)) + 1 from by omega, gf_s _ _ (by omega), cif_f (by unfold gvQ; omega)]) (by omega) hP hS (lv_sub hl [0, 2, 3] rfl)
        · -- (S 2 2 j) = w
          refine lv_iload_n hx hb dX1_takeThread_28 rfl (lv_at hl 0 rfl) ?_
          refine q_if_le (tgt := 45) hx hb (hP.rg _ _ _) dX1_takeThread_29 (by decide) (fun c_3 => ?_) (fun c_3 => ?_)
          · -- (S 2 4 j) ≤ 0
            refine lv_iinc (v := i32 (j + 1)) (lv' := [(2, .int (i32 (j + 1))), (3, .int (i32 (S 2 4 j))), (0, .ref (ad 2 0)), (1, .int (i32 (w)))]) hx hb dX1_takeThread_45 hl (k := 1) rfl (i32_add _ _) (by decide) rfl (fun ls hl => ?_)
            refine lv_goto (tgt := 2) hx hb dX1_takeThread_48 (by decide) ?_
            exact ih2 (j + 1) _ _ _ (by omega) (by rw [zg, show S 2 0 0 - j = (S 2 0 0 - (j + 1)) + 1 from by omega, gf_s _ _ (by omega), cif_f (by unfold gvQ; omega)]) (by omega) hP hS (lv_sub hl [0, 2, 3] rfl)
          · -- 0 < (S 2 4 j)
            obtain ⟨hz1, hz2⟩ := id (rS 2 4 j)
            have y1 : gvC S w = j := by
              rw [zg, show S 2 0 0 - j = (S 2 0 0 - (j + 1)) + 1 from by omega, gf_s _ _ (by omega), cif_t (by unfold gvQ; omega)]
            refine lv_aload_n hx hb dX1_takeThread_32 rfl (lv_at hl 2 rfl) ?_
            refine p_get (k := 2) hx hb hown hK hP halb rfl rfl rfl (lay_X1 hK) 3 45 (by decide) t_45 rfl rfl dX1_takeThread_33 ?_
            refine lv_iload_n hx hb dX1_takeThread_36 rfl (lv_at hl 1 rfl) ?_
            refine lv_iload_n hx hb dX1_takeThread_37 rfl (lv_at hl 0 rfl) ?_
            refine lv_iconst (v := i32 (1)) hx hb dX1_takeThread_38 rfl ?_
            refine q_isub hx hb dX1_takeThread_39 ?_
            refine q_callN hx hb hml hl.1 hown hK hZ hP hS (c_X3_setAt l g base ad S 2 4 2 20 j ((S 2 4 j) - 1) halb rfl rfl (by omega) (by omega) ⟨by omega, by omega⟩ ⟨by omega, by omega⟩) t_247 t_15 t_110 t_109 f_yX3_setAt ⟨by decide, by decide⟩ rfl rfl (Nat.le_of_ble_eq_true rfl) dX1_takeThread_40 ⟨by decide, by decide⟩ (q_an (fun H locs hP hS => ?_))
            rw [sA_in (by omega) (by omega)] at hP
            generalize eS4 : st S 2 4 j ((S 2 4 j) - 1) = S4 at hP
            have qS4 : ∀ (a1 b1 : Nat) (i1 : Int), S4 a1 b1 i1 = if a1 = 2 ∧ b1 = 4 ∧ i1 = j then (S 2 4 j) - 1 else S a1 b1 i1 := fun a1 b1 i1 => by rw [← eS4]; exact st_at _ _ _ _ _ _ _ _
            have rS4 : ∀ (a1 b1 : Nat) (i1 : Int), rng (S4 a1 b1 i1) := fun a1 b1 i1 => hP.rg a1 b1 i1
            have aS4_2 : S4 2 0 (-1) = 1 := by rw [qS4, if_neg (by omega)]; exact halb
            refine lv_iload_n hx hb dX1_takeThread_43 rfl (lv_at hl 1 rfl) ?_
            refine q_nm (show (j : Int) = gvC S w from by exact y1.symm) ?_
            subst hQm
            exact q_iret hx hb hr hlocks hP hS ⟨rfl, rfl, (by rw [tk_b y1 zj.1, ← eS4])⟩ (by decide) (by decide) dX1_takeThread_44
  exact L2 ((S 2 0 0 - 0) + 1).toNat 0 _ _ _ (by omega) (by rw [show S 2 0 0 - 0 = S 2 0 0 from by omega]; rfl) (by omega) hP hS (lv_sub hl [0, 1, 2] rfl)

set_option maxHeartbeats 4000000 in
set_option maxRecDepth 100000 in
theorem c_X1_add (l : Launch) (g : GT) (base : Nat) (ad : Nat → Nat → Nat) (S : St) (u t f : Int) (bl : Prop) (halb : S 2 0 (-1) = 1) (hrn : rng u) (hrn2 : rng t) (hrn3 : rng f) (hct : 0 ≤ S 2 0 0 ∧ S 2 0 0 < 20) : Met l yX1_add [Cond.code yX1_add cX1_add 6 (some FieldType.int)] ({ frames := 1, cells := 0, slots := 0, locals := 22 }) (va_Pc [.ref (ad 2 0), .int (i32 (u)), .int (i32 (t)), .int (i32 (f)), .int (i32 (b2 (bl)))] (PK g base ad S)) (gQ g base (an (some (.int (i32 (S 2 0 0)))) ad (st (st (st (st (st (st S 2 2 (S 2 0 0) u) 2 3 (S 2 0 0) t) 2 4 (S 2 0 0) t) 2 5 (S 2 0 0) f) 2 6 (S 2 0 0) (b2 bl)) 2 0 0 (S 2 0 0 + 1)))) 0 0 (fun q => base ≤ q) := by
  refine mk_m (own := RX1) (lv0 := [(0, .ref (ad 2 0)), (1, .int (i32 (u))), (2, .int (i32 (t))), (3, .int (i32 (f))), (4, .int (i32 (b2 (bl))))]) (by decide) rfl (Nat.le_of_ble_eq_true rfl) rfl ?_
  intro p e s m below meth cz av Qm hx hb hr hml hown hlocks hK hZ hP hQm ls hl
  have hS : va_S (fun q => base ≤ q) s.heap s.heap [] := va_S.rf
  have rS : ∀ (a1 b1 : Nat) (i1 : Int), rng (S a1 b1 i1) := fun a1 b1 i1 => hP.rg a1 b1 i1
  refine lv_aload_n hx hb dX1_add_0 rfl (lv_at hl 0 rfl) ?_
  refine p_get (k := 2) hx hb hown hK hP halb rfl rfl rfl (lay_X1 hK) 0 42 (by decide) t_42 rfl rfl dX1_add_1 ?_
  refine lv_istore (lv' := [(5, .int (i32 (S 2 0 0))), (0, .ref (ad 2 0)), (1, .int (i32 (u))), (2, .int (i32 (t))), (3, .int (i32 (f))), (4, .int (i32 (b2 (bl))))]) hx hb dX1_add_4 hl (by decide) rfl (fun ls hl => ?_)
  refine lv_aload_n hx hb dX1_add_6 rfl (lv_at hl 1 rfl) ?_
  refine p_get (k := 2) hx hb hown hK hP halb rfl rfl rfl (lay_X1 hK) 1 43 (by decide) t_43 rfl rfl dX1_add_7 ?_
  refine lv_iload hx hb dX1_add_10 (lv_at hl 0 rfl) ?_
  refine lv_iload_n hx hb dX1_add_12 rfl (lv_at hl 2 rfl) ?_
  refine q_callN hx hb hml hl.1 hown hK hZ hP hS (c_X3_setAt l g base ad S 2 2 2 20 (S 2 0 0) u halb rfl rfl (by omega) (by omega) (hP.rg _ _ _) hrn) t_247 t_15 t_110 t_109 f_yX3_setAt ⟨by decide, by decide⟩ rfl rfl (Nat.le_of_ble_eq_true rfl) dX1_add_13 ⟨by decide, by decide⟩ (q_an (fun H locs hP hS => ?_))
  rw [sA_in (by omega) (by omega)] at hP
  generalize eS1 : st S 2 2 (S 2 0 0) u = S1 at hP
  have qS1 : ∀ (a1 b1 : Nat) (i1 : Int), S1 a1 b1 i1 = if a1 = 2 ∧ b1 = 2 ∧ i1 = S 2 0 0 then u else S a1 b1 i1 := fun a1 b1 i1 => by rw [← eS1]; exact st_at _ _ _ _ _ _ _ _
  have rS1 : ∀ (a1 b1 : Nat) (i1 : Int), rng (S1 a1 b1 i1) := fun a1 b1 i1 => hP.rg a1 b1 i1
  have aS1_2 : S1 2 0 (-1) = 1 := by rw [qS1, if_neg (by omega)]; exact halb
  refine lv_aload_n hx hb dX1_add_16 rfl (lv_at hl 1 rfl) ?_
  refine p_get (k := 2) hx hb hown hK hP aS1_2 rfl rfl rfl (lay_X1 hK) 2 44 (by decide) t_44 rfl rfl dX1_add_17 ?_
  refine lv_iload hx hb dX1_add_20 (lv_at hl 0 rfl) ?_
  refine lv_iload_n hx hb dX1_add_22 rfl (lv_at hl 3 rfl) ?_
  refine q_callN hx hb hml hl.1 hown hK hZ hP hS (c_X3_setAt l g base ad S1 2 3 2 20 (S 2 0 0) t aS1_2 rfl rfl (by omega) (by omega) (rS _ _ _) hrn2) t_247 t_15 t_110 t_109 f_yX3_setAt ⟨by decide, by decide⟩ rfl rfl (Nat.le_of_ble_eq_true rfl) dX1_add_23 ⟨by decide, by decide⟩ (q_an (fun H locs hP hS => ?_))
  rw [sA_in (by omega) (by omega)] at hP
  generalize eS2 : st S1 2 3 (S 2 0 0) t = S2 at hP
  have qS2 : ∀ (a1 b1 : Nat) (i1 : Int), S2 a1 b1 i1 = if a1 = 2 ∧ b1 = 3 ∧ i1 = S 2 0 0 then t else S1 a1 b1 i1 := fun a1 b1 i1 => by rw [← eS2]; exact st_at _ _ _ _ _ _ _ _
  have rS2 : ∀ (a1 b1 : Nat) (i1 : Int), rng (S2 a1 b1 i1) := fun a1 b1 i1 => hP.rg a1 b1 i1
  have aS2_2 : S2 2 0 (-1) = 1 := by rw [qS2, if_neg (by omega)]; exact aS1_2
  refine lv_aload_n hx hb dX1_add_26 rfl (lv_at hl 1 rfl) ?_
  refine p_get (k := 2) hx hb hown hK hP aS2_2 rfl rfl rfl (lay_X1 hK) 3 45 (by decide) t_45 rfl rfl dX1_add_27 ?_
  refine lv_iload hx hb dX1_add_30 (lv_at hl 0 rfl) ?_
  refine lv_iload_n hx hb dX1_add_32 rfl (lv_at hl 3 rfl) ?_
  refine q_callN hx hb hml hl.1 hown hK hZ hP hS (c_X3_setAt l g base ad S2 2 4 2 20 (S 2 0 0) t aS2_2 rfl rfl (by omega) (by omega) (rS _ _ _) hrn2) t_247 t_15 t_110 t_109 f_yX3_setAt ⟨by decide, by decide⟩ rfl rfl (Nat.le_of_ble_eq_true rfl) dX1_add_33 ⟨by decide, by decide⟩ (q_an (fun H locs hP hS => ?_))
  rw [sA_in (by omega) (by omega)] at hP
  generalize eS3 : st S2 2 4 (S 2 0 0) t = S3 at hP
  have qS3 : ∀ (a1 b1 : Nat) (i1 : Int), S3 a1 b1 i1 = if a1 = 2 ∧ b1 = 4 ∧ i1 = S 2 0 0 then t else S2 a1 b1 i1 := fun a1 b1 i1 => by rw [← eS3]; exact st_at _ _ _ _ _ _ _ _
  have rS3 : ∀ (a1 b1 : Nat) (i1 : Int), rng (S3 a1 b1 i1) := fun a1 b1 i1 => hP.rg a1 b1 i1
  have aS3_2 : S3 2 0 (-1) = 1 := by rw [qS3, if_neg (by omega)]; exact aS2_2
  refine lv_aload_n hx hb dX1_add_36 rfl (lv_at hl 1 rfl) ?_
  refine p_get (k := 2) hx hb hown hK hP aS3_2 rfl rfl rfl (lay_X1 hK) 4 46 (by decide) t_46 rfl rfl dX1_add_37 ?_
  refine lv_iload hx hb dX1_add_40 (lv_at hl 0 rfl) ?_
  refine lv_iload_n hx hb dX1_add_42 rfl (lv_at hl 4 rfl) ?_
  refine q_callN hx hb hml hl.1 hown hK hZ hP hS (c_X3_setAt l g base ad S3 2 5 2 20 (S 2 0 0) f aS3_2 rfl rfl (by omega) (by omega) (rS _ _ _) hrn3) t_247 t_15 t_110 t_109 f_yX3_setAt ⟨by decide, by decide⟩ rfl rfl (Nat.le_of_ble_eq_true rfl) dX1_add_43 ⟨by decide, by decide⟩ (q_an (fun H locs hP hS => ?_))
  rw [sA_in (by omega) (by omega)] at hP
  generalize eS4 : st S3 2 5 (S 2 0 0) f = S4 at hP
  have qS4 : ∀ (a1 b1 : Nat) (i1 : Int), S4 a1 b1 i1 = if a1 = 2 ∧ b1 = 5 ∧ i1 = S 2 0 0 then f else S3 a1 b1 i1 := fun a1 b1 i1 => by rw [← eS4]; exact st_at _ _ _ _ _ _ _ _
  have rS4 : ∀ (a1 b1 : Nat) (i1 : Int), rng (S4 a1 b1 i1) := fun a1 b1 i1 => hP.rg a1 b1 i1
  have aS4_2 : S4 2 0 (-1) = 1 := by rw [qS4, if_neg (by omega)]; exact aS3_2
  refine lv_iload hx hb dX1_add_46 (lv_at hl 0 rfl) ?_
  refine q_if_lt (tgt := 70) hx hb (rS _ _ _) dX1_add_48 (by decide) (fun c_5 => ?_) (fun c_5 => ?_)
  · -- (S 2 0 0) < 0
    refine lv_aload_n hx hb dX1_add_70 rfl (lv_at hl 1 rfl) ?_
    refine lv_dup hx hb dX1_add_71 rfl ?_
    refine p_get (k := 2) hx hb hown hK hP aS4_2 rfl rfl rfl (lay_X1 hK) 0 42 (by decide) t_42 rfl rfl dX1_add_72 ?_
    refine q_nm (show S4 2 0 0 = S 2 0 0 from by rw [qS4, if_neg (by omega), qS3, if_neg (by omega), qS2, if_neg (by omega), qS1, if_neg (by omega)]) ?_
    refine lv_iconst (v := i32 (1)) hx hb dX1_add_75 rfl ?_
    refine q_iadd hx hb dX1_add_76 ?_
    refine p_put (k := 2) hx hb hown hK hP hS aS4_2 rfl rfl rfl (lay_X1 hK) tyX1 tyX1_ok nmX1 0 42 (by decide) t_42 rfl rfl (by decide +kernel) ⟨by omega, by omega⟩ (Nat.le_of_ble_eq_true rfl) (set_2_0 _ _ _ _) dX1_add_77 (fun H locs hP hS => ?_)
    generalize eS6 : st S4 2 0 0 ((S 2 0 0) + 1) = S6 at hP
    have qS6 : ∀ (a1 b1 : Nat) (i1 : Int), S6 a1 b1 i1 = if a1 = 2 ∧ b1 = 0 ∧ i1 = 0 then (S 2 0 0) + 1 else S4 a1 b1 i1 := fun a1 b1 i1 => by rw [← eS6]; exact st_at _ _ _ _ _ _ _ _
    have rS6 : ∀ (a1 b1 : Nat) (i1 : Int), rng (S6 a1 b1 i1) := fun a1 b1 i1 => hP.rg a1 b1 i1
    have aS6_2 : S6 2 0 (-1) = 1 := by rw [qS6, if_neg (by omega)]; exact aS4_2
    refine lv_iload hx hb dX1_add_80 (lv_at hl 0 rfl) ?_
    subst hQm
    exact q_iret hx hb hr hlocks hP hS ⟨rfl, rfl, (by first | (rw [← eS6, ← eS4, ← eS3, ← eS2, ← eS1]; done) | (exfalso; omega))⟩ (by decide) (by decide) dX1_add_82
  · -- 0 ≤ (S 2 0 0)
    refine lv_iload hx hb dX1_add_51 (lv_at hl 0 rfl) ?_
    refine lv_aload_n hx hb dX1_add_53 rfl (lv_at hl 1 rfl) ?_
    refine p_get (k := 2) hx hb hown hK hP aS4_2 rfl rfl rfl (lay_X1 hK) 5 47 (by decide) t_47 rfl rfl dX1_add_54 ?_
    refine p_alen (k := 2) (r := 6) (q := 1) (n := 20) hx hb hK hP aS4_2 rfl rfl (by decide) (by decide) dX1_add_57 ?_
    refine q_icmp_ge (tgt := 70) hx hb (rS _ _ _) ⟨by decide, by decide⟩ dX1_add_58 (by decide) (fun c_7 => ?_) (fun c_7 => ?_)
    · -- 20 ≤ (S 2 0 0)
      refine lv_aload_n hx hb dX1_add_70 rfl (lv_at hl 1 rfl) ?_
      refine lv_dup hx hb dX1_add_71 rfl ?_
      refine p_get (k := 2) hx hb hown hK hP aS4_2 rfl rfl rfl (lay_X1 hK) 0 42 (by decide) t_42 rfl rfl dX1_add_72 ?_
      refine q_nm (show S4 2 0 0 = S 2 0 0 from by rw [qS4, if_neg (by omega), qS3, if_neg (by omega), qS2, if_neg (by omega), qS1, if_neg (by omega)]) ?_
      refine lv_iconst (v := i32 (1)) hx hb dX1_add_75 rfl ?_
      refine q_iadd hx hb dX1_add_76 ?_
      refine p_put (k := 2) hx hb hown hK hP hS aS4_2 rfl rfl rfl (lay_X1 hK) tyX1 tyX1_ok nmX1 0 42 (by decide) t_42 rfl rfl (by decide +kernel) ⟨by omega, by omega⟩ (Nat.le_of_ble_eq_true rfl) (set_2_0 _ _ _ _) dX1_add_77 (fun H locs hP hS => ?_)
      generalize eS8 : st S4 2 0 0 ((S 2 0 0) + 1) = S8 at hP
      have qS8 : ∀ (a1 b1 : Nat) (i1 : Int), S8 a1 b1 i1 = if a1 = 2 ∧ b1 = 0 ∧ i1 = 0 then (S 2 0 0) + 1 else S4 a1 b1 i1 := fun a1 b1 i1 => by rw [← eS8]; exact st_at _ _ _ _ _ _ _ _
      have rS8 : ∀ (a1 b1 : Nat) (i1 : Int), rng (S8 a1 b1 i1) := fun a1 b1 i1 => hP.rg a1 b1 i1
      have aS8_2 : S8 2 0 (-1) = 1 := by rw [qS8, if_neg (by omega)]; exact aS4_2
      refine lv_iload hx hb dX1_add_80 (lv_at hl 0 rfl) ?_
      subst hQm
      exact q_iret hx hb hr hlocks hP hS ⟨rfl, rfl, (by first | (rw [← eS8, ← eS4, ← eS3, ← eS2, ← eS1]; done) | (exfalso; omega))⟩ (by decide) (by decide) dX1_add_82
    · -- (S 2 0 0) < 20
      refine lv_aload_n hx hb dX1_add_61 rfl (lv_at hl 1 rfl) ?_
      refine p_get (k := 2) hx hb hown hK hP aS4_2 rfl rfl rfl (lay_X1 hK) 5 47 (by decide) t_47 rfl rfl dX1_add_62 ?_
      refine lv_iload hx hb dX1_add_65 (lv_at hl 0 rfl) ?_
      refine lv_iload hx hb dX1_add_67 (lv_at hl 5 rfl) ?_
      refine p_zast (k := 2) (r := 6) (n := 20) hx hb hK hP hS aS4_2 rfl rfl (by decide) (by decide) (by omega) (by omega) (b2_01 _) dX1_add_69 (fun H locs hP hS => ?_)
      generalize eS9 : st S4 2 6 (S 2 0 0) (b2 (bl)) = S9 at hP
      have qS9 : ∀ (a1 b1 : Nat) (i1 : Int), S9 a1 b1 i1 = if a1 = 2 ∧ b1 = 6 ∧ i1 = S 2 0 0 then b2 (bl) else S4 a1 b1 i1 := fun a1 b1 i1 => by rw [← eS9]; exact st_at _ _ _ _ _ _ _ _
      have rS9 : ∀ (a1 b1 : Nat) (i1 : Int), rng (S9 a1 b1 i1) := fun a1 b1 i1 => hP.rg a1 b1 i1
      have aS9_2 : S9 2 0 (-1) = 1 := by rw [qS9, if_neg (by omega)]; exact aS4_2
      refine lv_aload_n hx hb dX1_add_70 rfl (lv_at hl 1 rfl) ?_
      refine lv_dup hx hb dX1_add_71 rfl ?_
      refine p_get (k := 2) hx hb hown hK hP aS9_2 rfl rfl rfl (lay_X1 hK) 0 42 (by decide) t_42 rfl rfl dX1_add_72 ?_
      refine q_nm (show S9 2 0 0 = S 2 0 0 from by rw [qS9, if_neg (by omega), qS4, if_neg (by omega), qS3, if_neg (by omega), qS2, if_neg (by omega), qS1, if_neg (by omega)]) ?_
      refine lv_iconst (v := i32 (1)) hx hb dX1_add_75 rfl ?_
      refine q_iadd hx hb dX1_add_76 ?_
      refine p_put (k := 2) hx hb hown hK hP hS aS9_2 rfl rfl rfl (lay_X1 hK) tyX1 tyX1_ok nmX1 0 42 (by decide) t_42 rfl rfl (by decide +kernel) ⟨by omega, by omega⟩ (Nat.le_of_ble_eq_true rfl) (set_2_0 _ _ _ _) dX1_add_77 (fun H locs hP hS => ?_)
      generalize eS10 : st S9 2 0 0 ((S 2 0 0) + 1) = S10 at hP
      have qS10 : ∀ (a1 b1 : Nat) (i1 : Int), S10 a1 b1 i1 = if a1 = 2 ∧ b1 = 0 ∧ i1 = 0 then (S 2 0 0) + 1 else S9 a1 b1 i1 := fun a1 b1 i1 => by rw [← eS10]; exact st_at _ _ _ _ _ _ _ _
      have rS10 : ∀ (a1 b1 : Nat) (i1 : Int), rng (S10 a1 b1 i1) := fun a1 b1 i1 => hP.rg a1 b1 i1
      have aS10_2 : S10 2 0 (-1) = 1 := by rw [qS10, if_neg (by omega)]; exact aS9_2
      refine lv_iload hx hb dX1_add_80 (lv_at hl 0 rfl) ?_
      subst hQm
      exact q_iret hx hb hr hlocks hP hS ⟨rfl, rfl, (by first | (rw [← eS10, ← eS9, ← eS4, ← eS3, ← eS2, ← eS1]; done) | (exfalso; omega))⟩ (by decide) (by decide) dX1_add_82
