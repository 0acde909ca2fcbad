set_option maxHeartbeats 4000000 in
set_option maxRecDepth 100000 in
theorem c_X3_cartoon (l : Launch) (g : GT) (base : Nat) (ad : Nat → Nat → Nat) (S : St) (z : Int) (hfl : l.stackTraces = false) (hwc : wC S) (hrn : rng z) (hcf : ∀ j : Nat, S 1 3 j = 1 → (j : Int) < S 1 0 3) (hpf : ∀ j : Nat, S 1 6 j = 1 → (j : Int) < S 1 0 6) : vx_Met l yX3_cartoon [Cond.code yX3_cartoon cX3_cartoon 3 (some FieldType.int)] ({ frames := 6, cells := 2, slots := 125, locals := 90 }) (va_Pc [.ref (ad 1 0), .int (i32 (z))] (PK g base ad S)) (gQ g base (fun rr9 ad9 S9 => ((2 ≤ z ∧ z ≤ 12) ∧ (S 1 0 3 < 5) ∧ (True)) ∧ ∃ A9 : Nat → Nat, rr9 = some (.int (i32 (S 1 0 3))) ∧ ad9 = adN ad (4 + (S 1 0 3).toNat) A9 ∧ S9 = ctS S z)) (xQ g base ad S (fun E => t3 eA eS "" (2 ≤ z ∧ z ≤ 12) (S 1 0 3 < 5) (True) E)) 2 125 (fun q => base ≤ q) := by
  refine mk_mx (own := RX3) (lv0 := [(0, .ref (ad 1 0)), (1, .int (i32 (z)))]) (by decide) rfl (Nat.le_of_ble_eq_true rfl) rfl ?_
  intro p e s m below meth cz av Qm hx hb hr hml hown hlocks hout hK hZ hP hQm ls hl
  have hS : va_S (fun q => base ≤ q) s.heap s.heap [] := va_S.rf
  have rS : ∀ (a1 b1 : Nat) (i1 : Int), rng (S a1 b1 i1) := fun a1 b1 i1 => hP.rg a1 b1 i1
  obtain ⟨hcc1, hcc2⟩ := hwc.cc
  refine lv_iload_n hx hb dX3_cartoon_0 rfl (lv_at hl 1 rfl) ?_
  refine lv_iconst (v := i32 (2)) hx hb dX3_cartoon_1 rfl ?_
  refine q_icmp_lt (tgt := 11) hx hb hrn ⟨by decide, by decide⟩ dX3_cartoon_2 (by decide) (fun c_1 => ?_) (fun c_1 => ?_)
  · -- z < 2
    subst hQm
    exact q_throw hx hb hfl hml hl.1 hown hK hZ (by decide) t_206 t_20 t_357 (at_A hK) ao_A hP hS dX3_cartoon_11 dX3_cartoon_14 dX3_cartoon_15 dX3_cartoon_17 dX3_cartoon_20 hout (by decide) (by decide) (by decide) (by decide) hlocks (by exact Or.inl ⟨rfl, by first | omega | (intro y; omega) | (intro y; have := y.1; omega) | (intro y; have := y.2; omega) | (intro y; exact absurd y.1 (by assumption)) | (intro y; exact absurd y.2 (by assumption)) | (intro y; have := y.2.1; omega)| (intro y; exact absurd y.2.1 (by assumption))| (intro y; exact absurd y.2.2 (by assumption)) | (intro y; exact absurd y (by assumption))⟩) (by decide) (by decide)
  · -- 2 ≤ z
    refine lv_iload_n hx hb dX3_cartoon_5 rfl (lv_at hl 1 rfl) ?_
    refine lv_bipush (v := i32 (12)) hx hb dX3_cartoon_6 (by decide) ?_
    refine q_icmp_le (tgt := 21) hx hb hrn ⟨by decide, by decide⟩ dX3_cartoon_8 (by decide) (fun c_2 => ?_) (fun c_2 => ?_)
    · -- z ≤ 12
      refine lv_aload_n hx hb dX3_cartoon_21 rfl (lv_at hl 0 rfl) ?_
      refine p_get (k := 1) hx hb hown hK hP hwc.h1 rfl rfl rfl (lay_X3 hK) 3 68 (by decide) t_68 rfl rfl dX3_cartoon_22 ?_
      refine q_if_lt (tgt := 40) hx hb (hP.rg _ _ _) dX3_cartoon_25 (by decide) (fun c_3 => ?_) (fun c_3 => ?_)
      · -- (S 1 0 3) < 0
        subst hQm
        exact q_throw hx hb hfl hml hl.1 hown hK hZ (by decide) t_227 t_21 t_358 (at_S hK) ao_S hP hS dX3_cartoon_40 dX3_cartoon_43 dX3_cartoon_44 dX3_cartoon_46 dX3_cartoon_49 hout (by decide) (by decide) (by decide) (by decide) hlocks (by exact Or.inr (Or.inl ⟨rfl, by first | trivial | assumption | omega | exact ⟨by assumption, by omega⟩ | exact ⟨by assumption, by assumption⟩ | exact ⟨by assumption, by omega, by omega⟩ | exact ⟨by assumption, by omega, by omega, by omega, by omega⟩ | exact ⟨by assumption, by assumption, by omega⟩, by first | omega | (intro y; omega) | (intro y; have := y.1; omega) | (intro y; have := y.2; omega) | (intro y; exact absurd y.1 (by assumption)) | (intro y; exact absurd y.2 (by assumption)) | (intro y; have := y.2.1; omega)| (intro y; exact absurd y.2.1 (by assumption))| (intro y; exact absurd y.2.2 (by assumption)) | (intro y; exact absurd y (by assumption))⟩)) (by decide) (by decide)
      · -- 0 ≤ (S 1 0 3)
        refine lv_aload_n hx hb dX3_cartoon_28 rfl (lv_at hl 0 rfl) ?_
        refine p_get (k := 1) hx hb hown hK hP hwc.h1 rfl rfl rfl (lay_X3 hK) 3 68 (by decide) t_68 rfl rfl dX3_cartoon_29 ?_
        refine lv_aload_n hx hb dX3_cartoon_32 rfl (lv_at hl 0 rfl) ?_
        refine p_get (k := 1) hx hb hown hK hP hwc.h1 rfl rfl rfl (lay_X3 hK) 2 67 (by decide) t_67 rfl rfl dX3_cartoon_33 ?_
        refine p_alen (k := 1) (r := 3) (q := 3) (n := 5) hx hb hK hP hwc.h1 rfl rfl (by decide) (by decide) dX3_cartoon_36 ?_
        refine q_icmp_lt (tgt := 50) hx hb (hP.rg _ _ _) ⟨by decide, by decide⟩ dX3_cartoon_37 (by decide) (fun c_4 => ?_) (fun c_4 => ?_)
        · -- (S 1 0 3) < 5
          refine lv_aload_n hx hb dX3_cartoon_50 rfl (lv_at hl 0 rfl) ?_
          refine p_get (k := 1) hx hb hown hK hP hwc.h1 rfl rfl rfl (lay_X3 hK) 3 68 (by decide) t_68 rfl rfl dX3_cartoon_51 ?_
          refine lv_istore_n (lv' := [(2, .int (i32 (S 1 0 3))), (0, .ref (ad 1 0)), (1, .int (i32 (z)))]) hx hb dX3_cartoon_54 rfl hl (by decide) rfl (fun ls hl => ?_)
          refine lv_aload_n hx hb dX3_cartoon_55 rfl (lv_at hl 1 rfl) ?_
          refine p_get (k := 1) hx hb hown hK hP hwc.h1 rfl rfl rfl (lay_X3 hK) 2 67 (by decide) t_67 rfl rfl dX3_cartoon_56 ?_
          refine lv_iload_n hx hb dX3_cartoon_59 rfl (lv_at hl 0 rfl) ?_
          refine w_newO (fs := [.int (i32 0), .int (i32 0), .null, .int (i32 0), .int (i32 0)]) hx hb hown hK hP.piw hS (ci := 0) rfl (lay_X0 hK) tyX0 tyX0_ok t_34 t_359 t_22 (fun j hj => by rcases (show j = 0 ∨ j = 1 ∨ j = 2 ∨ j = 3 ∨ j = 4 by omega) with rfl | rfl | rfl | rfl | rfl <;> rfl) (by decide) (Nat.le_of_ble_eq_true rfl) dX3_cartoon_60 (fun q60 H hqq60 hW hS => ?_)
          have hW : piw g base ad S [(q60, .inr (0, [.int (i32 0), .int (i32 0), .null, .int (i32 0), .int (i32 0)]))] H := hW
          have hP := hW.1
          refine lv_dup hx hb dX3_cartoon_63 rfl ?_
          refine lv_iload_n hx hb dX3_cartoon_64 rfl (lv_at hl 2 rfl) ?_
          obtain ⟨o9, ho9⟩ : ∃ o9 : Nat, 4 + (S 1 0 3).toNat = o9 := ⟨_, rfl⟩
          have hkd9 : kd o9 = 4 := by rw [← ho9]; exact kd_c (by omega) (by omega)
          have hcc9 : keepc S o9 := fun _ => ⟨by omega, fun j h => by have := hcf j h; omega, fun j h => by have := hpf j h; omega⟩
          refine q_callI (As := [.int (i32 (z))]) (rest := [.ref q60, .int (i32 (S 1 0 3)), .ref (ad 1 3)]) hx hb hml hl.1 hown hK hZ hW hS (c_X0_init l g base ad S o9 q60 z hkd9 hrn hcc9) rfl t_361 (q_callB hK 360 22 362 t_360 t_22 t_362 f_yX0_init ⟨by decide, by decide⟩) rfl rfl (Nat.le_of_ble_eq_true rfl) dX3_cartoon_65 ⟨by decide, by decide⟩ (fun r9 ad9 Sn9 H locs h9 hP hS => ?_)
          obtain ⟨rfl, A9, hA9, had9, hSn9⟩ := h9
          have ea : ∀ x r, x ≠ o9 → ad x r = ad9 x r := fun x r h => by rw [had9, adN_n h]
          have eo : q60 = ad9 o9 0 := by rw [had9, adN_o, hA9]
          have eg : F0 m 68 ls (Value.ref q60 :: Value.int (i32 (S 1 0 3)) :: Value.ref (ad 1 3) :: []) = F0 m 68 ls (Value.ref (ad9 o9 0) :: Value.int (i32 (S 1 0 3)) :: Value.ref (ad9 1 3) :: []) := by rw [eo, ea 1 3 (by omega)]
          refine W.eq eg ?_
          have hl : lv_has ls 3 [(2, .int (i32 (S 1 0 3))), (0, .ref (ad9 1 0)), (1, .int (i32 (z)))] := by
            have t9 := hl
            rw [ea 1 0 (by omega)] at t9
            exact t9
          have qSn9 : ∀ (a1 b1 : Nat) (i1 : Int), Sn9 a1 b1 i1 = if a1 = o9 then (if b1 = 0 then (fun i => if i = -1 then 1 else if i = 0 then z else if i = 4 then 1 else 0) i1 else 0) else S a1 b1 i1 := fun a1 b1 i1 => by rw [hSn9]; rfl
          have rSn9 : ∀ (a1 b1 : Nat) (i1 : Int), rng (Sn9 a1 b1 i1) := fun a1 b1 i1 => hP.rg a1 b1 i1
          have aSn9_1 : Sn9 1 0 (-1) = 1 := by rw [qSn9, if_neg (by omega)]; exact hwc.h1
          have aSn9_2 : Sn9 2 0 (-1) = 1 := by rw [qSn9, if_neg (by omega)]; exact hwc.h2
          have aSn9_o9 : Sn9 o9 0 (-1) = 1 := by rw [qSn9]; simp
          rw [← ho9]
          refine p_aastC (k := 1) (r := 3) (n := 5) hx hb hK hP hS aSn9_1 rfl rfl (by decide) (by decide) (by omega) (by omega) (by rw [ho9]; exact aSn9_o9) (kd_c (by omega) (by omega)) dX3_cartoon_68 (fun H locs hP hS => ?_)
          generalize eS5 : st Sn9 1 3 (S 1 0 3) 1 = S5 at hP
          have qS5 : ∀ (a1 b1 : Nat) (i1 : Int), S5 a1 b1 i1 = if a1 = 1 ∧ b1 = 3 ∧ i1 = S 1 0 3 then 1 else Sn9 a1 b1 i1 := fun a1 b1 i1 => by rw [← eS5]; exact st_at _ _ _ _ _ _ _ _
          have rS5 : ∀ (a1 b1 : Nat) (i1 : Int), rng (S5 a1 b1 i1) := fun a1 b1 i1 => hP.rg a1 b1 i1
          have aS5_1 : S5 1 0 (-1) = 1 := by rw [qS5, if_neg (by omega)]; exact aSn9_1
          have aS5_2 : S5 2 0 (-1) = 1 := by rw [qS5, if_neg (by omega)]; exact aSn9_2
          have aS5_o9 : S5 o9 0 (-1) = 1 := by rw [qS5, if_neg (by omega)]; exact aSn9_o9
          refine lv_aload_n hx hb dX3_cartoon_69 rfl (lv_at hl 1 rfl) ?_
          refine lv_dup hx hb dX3_cartoon_70 rfl ?_
          refine p_get (k := 1) hx hb hown hK hP aS5_1 rfl rfl rfl (lay_X3 hK) 3 68 (by decide) t_68 rfl rfl dX3_cartoon_71 ?_
          refine q_nm (show S5 1 0 3 = S 1 0 3 from by rw [qS5, if_neg (by omega), qSn9, if_neg (by omega)]) ?_
          refine lv_iconst (v := i32 (1)) hx hb dX3_cartoon_74 rfl ?_
          refine q_iadd hx hb dX3_cartoon_75 ?_
          refine p_put (k := 1) hx hb hown hK hP hS aS5_1 rfl rfl rfl (lay_X3 hK) tyX3 tyX3_ok nmX3 3 68 (by decide) t_68 rfl rfl (by decide +kernel) ⟨by omega, by omega⟩ (Nat.le_of_ble_eq_true rfl) (set_1_3 _ _ _ _) dX3_cartoon_76 (fun H locs hP hS => ?_)
          generalize eS6 : st S5 1 0 3 ((S 1 0 3) + 1) = S6 at hP
          have qS6 : ∀ (a1 b1 : Nat) (i1 : Int), S6 a1 b1 i1 = if a1 = 1 ∧ b1 = 0 ∧ i1 = 3 then (S 1 0 3) + 1 else S5 a1 b1 i1 := fun a1 b1 i1 => by rw [← eS6]; exact st_at _ _ _ _ _ _ _ _
          have rS6 : ∀ (a1 b1 : Nat) (i1 : Int), rng (S6 a1 b1 i1) := fun a1 b1 i1 => hP.rg a1 b1 i1
          have aS6_1 : S6 1 0 (-1) = 1 := by rw [qS6, if_neg (by omega)]; exact aS5_1
          have aS6_2 : S6 2 0 (-1) = 1 := by rw [qS6, if_neg (by omega)]; exact aS5_2
          have aS6_o9 : S6 o9 0 (-1) = 1 := by rw [qS6, if_neg (by omega)]; exact aS5_o9
          refine lv_iload_n hx hb dX3_cartoon_79 rfl (lv_at hl 0 rfl) ?_
          subst hQm
          refine vx_ret ?_
          exact q_iret hx hb hr hlocks hP hS ⟨(by refine ⟨?_, ?_, ?_⟩ <;> first | trivial | assumption | omega | exact ⟨by assumption, by omega⟩ | exact ⟨by assumption, by assumption⟩ | exact ⟨by assumption, by omega, by omega⟩ | exact ⟨by assumption, by omega, by omega, by omega, by omega⟩ | exact ⟨by assumption, by assumption, by omega⟩), A9, rfl, (by rw [had9, ho9]), (by rw [← eS6, ← eS5, hSn9, ← ho9]; rfl)⟩ (by decide) (by decide) dX3_cartoon_80
        · -- 5 ≤ (S 1 0 3)
          subst hQm
          exact q_throw hx hb hfl hml hl.1 hown hK hZ (by decide) t_227 t_21 t_358 (at_S hK) ao_S hP hS dX3_cartoon_40 dX3_cartoon_43 dX3_cartoon_44 dX3_cartoon_46 dX3_cartoon_49 hout (by decide) (by decide) (by decide) (by decide) hlocks (by exact Or.inr (Or.inl ⟨rfl, by first | trivial | assumption | omega | exact ⟨by assumption, by omega⟩ | exact ⟨by assumption, by assumption⟩ | exact ⟨by assumption, by omega, by omega⟩ | exact ⟨by assumption, by omega, by omega, by omega, by omega⟩ | exact ⟨by assumption, by assumption, by omega⟩, by first | omega | (intro y; omega) | (intro y; have := y.1; omega) | (intro y; have := y.2; omega) | (intro y; exact absurd y.1 (by assumption)) | (intro y; exact absurd y.2 (by assumption)) | (intro y; have := y.2.1; omega)| (intro y; exact absurd y.2.1 (by assumption))| (intro y; exact absurd y.2.2 (by assumption)) | (intro y; exact absurd y (by assumption))⟩)) (by decide) (by decide)
    · -- 12 < z
      subst hQm
      exact q_throw hx hb hfl hml hl.1 hown hK hZ (by decide) t_206 t_20 t_357 (at_A hK) ao_A hP hS dX3_cartoon_11 dX3_cartoon_14 dX3_cartoon_15 dX3_cartoon_17 dX3_cartoon_20 hout (by decide) (by decide) (by decide) (by decide) hlocks (by exact Or.inl ⟨rfl, by first | omega | (intro y; omega) | (intro y; have := y.1; omega) | (intro y; have := y.2; omega) | (intro y; exact absurd y.1 (by assumption)) | (intro y; exact absurd y.2 (by assumption)) | (intro y; have := y.2.1; omega)| (intro y; exact absurd y.2.1 (by assumption))| (intro y; exact absurd y.2.2 (by assumption)) | (intro y; exact absurd y (by assumption))⟩) (by decide) (by decide)

set_option maxHeartbeats 4000000 in
set_option maxRecDepth 100000 in
theorem c_X3_loom (l : Launch) (g : GT) (base : Nat) (ad : Nat → Nat → Nat) (S : St) (x n : Int) (mir : Prop) (hfl : l.stackTraces = false) (hwc : wC S) (hrn : rng x) (hrn2 : rng n) (hcf : ∀ j : Nat, S 1 3 j = 1 → (j : Int) < S 1 0 3) (hpf : ∀ j : Nat, S 1 6 j = 1 → (j : Int) < S 1 0 6) : vx_Met l yX3_loom [Cond.code yX3_loom cX3_loom 6 (some FieldType.int)] ({ frames := 7, cells := 9, slots := 793, locals := 112 }) (va_Pc [.ref (ad 1 0), .int (i32 (x)), .int (i32 (n)), .int (i32 (b2 (mir)))] (PK g base ad S)) (gQ g base (fun rr9 ad9 S9 => ((ceC S x) ∧ (1 ≤ n ∧ n ≤ 4 ∧ n ≤ S (4 + x.toNat) 0 0) ∧ (1 ≤ S (4 + x.toNat) 0 1 ∧ S 1 0 6 < 20)) ∧ ∃ A9 : Nat → Nat, rr9 = some (.int (i32 (S 1 0 6))) ∧ ad9 = adN ad (10 + (S 1 0 6).toNat) A9 ∧ S9 = lmS S x n mir)) (xQ g base ad S (fun E => t3 eB eA eS (ceC S x) (1 ≤ n ∧ n ≤ 4 ∧ n ≤ S (4 + x.toNat) 0 0) (1 ≤ S (4 + x.toNat) 0 1 ∧ S 1 0 6 < 20) E)) 9 793 (fun q => base ≤ q) := by
  refine mk_mx (own := RX3) (lv0 := [(0, .ref (ad 1 0)), (1, .int (i32 (x))), (2, .int (i32 (n))), (3, .int (i32 (b2 (mir))))]) (by decide) rfl (Nat.le_of_ble_eq_true rfl) rfl ?_
  intro p e s m below meth cz av Qm hx hb hr hml hown hlocks hout hK hZ hP hQm ls hl
  have hS : va_S (fun q => base ≤ q) s.heap s.heap [] := va_S.rf
  have rS : ∀ (a1 b1 : Nat) (i1 : Int), rng (S a1 b1 i1) := fun a1 b1 i1 => hP.rg a1 b1 i1
  refine lv_aload_n hx hb dX3_loom_0 rfl (lv_at hl 0 rfl) ?_
  refine lv_iload_n hx hb dX3_loom_1 rfl (lv_at hl 1 rfl) ?_
  refine q_callVx (k := 1) hx hb hml hl.1 hown hK hZ hP hS hwc.h1 rfl rfl rfl (c_X3_cartoonNumbered l g base ad S x hfl hwc.h1 hrn) t_409 t_4 (q_callB hK 407 15 410 t_407 t_15 t_410 f_yX3_cartoonNumbered ⟨by decide, by decide⟩) rfl rfl (Nat.le_of_ble_eq_true rfl) dX3_loom_2 ⟨by decide, by decide⟩ (fun E ce q9 H locs hE hq9 hv9 hc9 hP hS => by subst hQm; exact q_out hout hlocks hq9 hv9 hc9 hP hS (by exact Or.inl ⟨hE.1, by intro y; first | exact hE.2 y | exact hE.2 y.1 | exact hE.2 y.2 | exact hE.2 y.2.1 | exact hE.2 y.2.2 | exact hE.2 y.1.1 | exact hE.2 y.1.2⟩) (by decide) (by decide)) (q_anc (fun hq1 H locs hP hS => ?_))
  have hc2 := hwc.ce hq1
  have hk2 := kd_c (x := x) (by have := hq1; unfold ceC at this; omega) (by have := hq1; unfold ceC at this; omega)
  generalize ho2 : 4 + Int.toNat x = ob2 at hc2 hk2 ⊢
  obtain ⟨ha2, hcw2, hch2⟩ := hc2
  refine lv_astore (lv' := [(4, .ref (ad ob2 0)), (0, .ref (ad 1 0)), (1, .int (i32 (x))), (2, .int (i32 (n))), (3, .int (i32 (b2 (mir))))]) hx hb dX3_loom_5 hl (by decide) rfl (fun ls hl => ?_)
  refine lv_iload_n hx hb dX3_loom_7 rfl (lv_at hl 3 rfl) ?_
  refine lv_iconst (v := i32 (1)) hx hb dX3_loom_8 rfl ?_
  refine q_icmp_lt (tgt := 26) hx hb hrn2 ⟨by decide, by decide⟩ dX3_loom_9 (by decide) (fun c_2 => ?_) (fun c_2 => ?_)
  · -- n < 1
    subst hQm
    exact q_throw hx hb hfl hml hl.1 hown hK hZ (by decide) t_206 t_20 t_449 (at_A hK) ao_A hP hS dX3_loom_26 dX3_loom_29 dX3_loom_30 dX3_loom_32 dX3_loom_35 hout (by decide) (by decide) (by decide) (by decide) hlocks (by subst ho2; exact Or.inr (Or.inl ⟨rfl, by first | trivial | assumption | omega | exact ⟨by assumption, by omega⟩ | exact ⟨by assumption, by assumption⟩ | exact ⟨by assumption, by omega, by omega⟩ | exact ⟨by assumption, by omega, by omega, by omega, by omega⟩ | exact ⟨by assumption, by assumption, by omega⟩, by first | omega | (intro y; omega) | (intro y; have := y.1; omega) | (intro y; have := y.2; omega) | (intro y; exact absurd y.1 (by assumption)) | (intro y; exact absurd y.2 (by assumption)) | (intro y; have := y.2.1; omega)| (intro y; exact absurd y.2.1 (by assumption))| (intro y; exact absurd y.2.2 (by assumption)) | (intro y; exact absurd y (by assumption))⟩)) (by decide) (by decide)
  · -- 1 ≤ n
    refine lv_iload_n hx hb dX3_loom_12 rfl (lv_at hl 3 rfl) ?_
    refine lv_iconst (v := i32 (4)) hx hb dX3_loom_13 rfl ?_
    refine q_icmp_gt (tgt := 26) hx hb hrn2 ⟨by decide, by decide⟩ dX3_loom_14 (by decide) (fun c_3 => ?_) (fun c_3 => ?_)
    · -- 4 < n
      subst hQm
      exact q_throw hx hb hfl hml hl.1 hown hK hZ (by decide) t_206 t_20 t_449 (at_A hK) ao_A hP hS dX3_loom_26 dX3_loom_29 dX3_loom_30 dX3_loom_32 dX3_loom_35 hout (by decide) (by decide) (by decide) (by decide) hlocks (by subst ho2; exact Or.inr (Or.inl ⟨rfl, by first | trivial | assumption | omega | exact ⟨by assumption, by omega⟩ | exact ⟨by assumption, by assumption⟩ | exact ⟨by assumption, by omega, by omega⟩ | exact ⟨by assumption, by omega, by omega, by omega, by omega⟩ | exact ⟨by assumption, by assumption, by omega⟩, by first | omega | (intro y; omega) | (intro y; have := y.1; omega) | (intro y; have := y.2; omega) | (intro y; exact absurd y.1 (by assumption)) | (intro y; exact absurd y.2 (by assumption)) | (intro y; have := y.2.1; omega)| (intro y; exact absurd y.2.1 (by assumption))| (intro y; exact absurd y.2.2 (by assumption)) | (intro y; exact absurd y (by assumption))⟩)) (by decide) (by decide)
    · -- n ≤ 4
      refine lv_iload_n hx hb dX3_loom_17 rfl (lv_at hl 3 rfl) ?_
      refine lv_aload hx hb dX3_loom_18 (lv_at hl 0 rfl) ?_
      refine q_callV (k := 4) hx hb hml hl.1 hown hK hZ hP hS ha2 hk2 rfl rfl (c_X0_width l g base ad S ob2 ha2 hk2) t_413 t_414 (q_callB hK 412 22 415 t_412 t_22 t_415 f_yX0_width ⟨by decide, by decide⟩) rfl rfl (Nat.le_of_ble_eq_true rfl) dX3_loom_20 ⟨by decide, by decide⟩  (q_an (fun H locs hP hS => ?_))
      refine q_icmp_le (tgt := 36) hx hb hrn2 (hP.rg _ _ _) dX3_loom_23 (by decide) (fun c_4 => ?_) (fun c_4 => ?_)
      · -- n ≤ (S ob2 0 0)
        refine lv_aload hx hb dX3_loom_36 (lv_at hl 0 rfl) ?_
        refine q_callV (k := 4) hx hb hml hl.1 hown hK hZ hP hS ha2 hk2 rfl rfl (c_X0_height l g base ad S ob2 ha2 hk2) t_418 t_419 (q_callB hK 417 22 420 t_417 t_22 t_420 f_yX0_height ⟨by decide, by decide⟩) rfl rfl (Nat.le_of_ble_eq_true rfl) dX3_loom_38 ⟨by decide, by decide⟩  (q_an (fun H locs hP hS => ?_))
        refine lv_iconst (v := i32 (1)) hx hb dX3_loom_41 rfl ?_
        refine q_icmp_ge (tgt := 55) hx hb (hP.rg _ _ _) ⟨by decide, by decide⟩ dX3_loom_42 (by decide) (fun c_5 => ?_) (fun c_5 => ?_)
        · -- 1 ≤ (S ob2 0 1)
          refine lv_aload_n hx hb dX3_loom_55 rfl (lv_at hl 1 rfl) ?_
          refine q_callVx (k := 1) hx hb hml hl.1 hown hK hZ hP hS hwc.h1 rfl rfl rfl (c_X3_requireRoomForPiece l g base ad S  hfl hwc.h1) t_453 t_5 (q_callB hK 451 15 454 t_451 t_15 t_454 f_yX3_requireRoomForPiece ⟨by decide, by decide⟩) rfl rfl (Nat.le_of_ble_eq_true rfl) dX3_loom_56 ⟨by decide, by decide⟩ (fun E ce q9 H locs hE hq9 hv9 hc9 hP hS => by subst hQm; exact q_out hout hlocks hq9 hv9 hc9 hP hS (by subst ho2; exact Or.inr (Or.inr ⟨hE.1, by first | trivial | assumption | omega | exact ⟨by assumption, by omega⟩ | exact ⟨by assumption, by assumption⟩ | exact ⟨by assumption, by omega, by omega⟩ | exact ⟨by assumption, by omega, by omega, by omega, by omega⟩ | exact ⟨by assumption, by assumption, by omega⟩, by first | trivial | assumption | omega | exact ⟨by assumption, by omega⟩ | exact ⟨by assumption, by assumption⟩ | exact ⟨by assumption, by omega, by omega⟩ | exact ⟨by assumption, by omega, by omega, by omega, by omega⟩ | exact ⟨by assumption, by assumption, by omega⟩, by intro y; first | exact hE.2 y | exact hE.2 y.1 | exact hE.2 y.2 | exact hE.2 y.2.1 | exact hE.2 y.2.2 | exact hE.2 y.1.1 | exact hE.2 y.1.2⟩)) (by decide) (by decide)) (q_anc (fun hq6 H locs hP hS => ?_))
          obtain ⟨hpc1, hpc2⟩ := hwc.pc
          obtain ⟨hcc1, hcc2⟩ := hwc.cc
          have hxb : 0 ≤ x ∧ x < 5 := by have := hq1; unfold ceC at this; omega
          refine w_newO (fs := [.int (i32 0), .int (i32 0), .int (i32 0), .null, .null, .null, .null, .null, .null]) hx hb hown hK hP.piw hS (ci := 2) rfl (lay_X2 hK) tyX2 tyX2_ok t_63 t_306 t_24 (fun j hj => by rcases (show j = 0 ∨ j = 1 ∨ j = 2 ∨ j = 3 ∨ j = 4 ∨ j = 5 ∨ j = 6 ∨ j = 7 ∨ j = 8 by omega) with rfl | rfl | rfl | rfl | rfl | rfl | rfl | rfl | rfl <;> rfl) (by decide) (Nat.le_of_ble_eq_true rfl) dX3_loom_59 (fun q59 H hqq59 hW hS => ?_)
          have hW : piw g base ad S [(q59, .inr (2, [.int (i32 0), .int (i32 0), .int (i32 0), .null, .null, .null, .null, .null, .null]))] H := hW
          have hP := hW.1
          refine lv_dup hx hb dX3_loom_62 rfl ?_
          refine lv_aload hx hb dX3_loom_63 (lv_at hl 0 rfl) ?_
          refine q_callVN (As := []) (k := 4) hx hb hml hl.1 hown hK hZ hW hS ha2 hk2 rfl rfl (c_X0_heightN l g base ad S ob2 ha2 hk2) t_418 t_419 (q_callB hK 417 22 420 t_417 t_22 t_420 f_yX0_height ⟨by decide, by decide⟩) rfl rfl (Nat.le_of_ble_eq_true rfl) dX3_loom_65 ⟨by decide, by decide⟩ (fun H locs hW hS => ?_)
          have hP := hW.1
          refine lv_iload_n hx hb dX3_loom_68 rfl (lv_at hl 3 rfl) ?_
          obtain ⟨o9, ho9⟩ : ∃ o9 : Nat, 10 + (S 1 0 6).toNat = o9 := ⟨_, rfl⟩
          have hkd9 : kd o9 = 5 := by rw [← ho9]; exact kd_p (by omega)
          have hcc9 : keepc S o9 := fun _ => ⟨by omega, fun j h => by have := hcf j h; omega, fun j h => by have := hpf j h; omega⟩
          refine q_callI (As := [.int (i32 (S ob2 0 1)), .int (i32 (n))]) (rest := [.ref q59]) hx hb hml hl.1 hown hK hZ hW hS (c_X2_init l g base ad S o9 q59 (S ob2 0 1) n hkd9 (hP.rg _ _ _) hrn2 hcc9) rfl t_457 (q_callB hK 456 24 458 t_456 t_24 t_458 f_yX2_init ⟨by decide, by decide⟩) rfl rfl (Nat.le_of_ble_eq_true rfl) dX3_loom_69 ⟨by decide, by decide⟩ (fun r9 ad9 Sn9 H locs h9 hP hS => ?_)
          obtain ⟨rfl, A9, hA9, had9, hSn9⟩ := h9
          have ea : ∀ x r, x ≠ o9 → ad x r = ad9 x r := fun x r h => by rw [had9, adN_n h]
          have eo : q59 = ad9 o9 0 := by rw [had9, adN_o, hA9]
          have eg : F0 m 72 ls (Value.ref q59 :: []) = F0 m 72 ls (Value.ref (ad9 o9 0) :: []) := by rw [eo]
          refine W.eq eg ?_
          have hl : lv_has ls 6 [(4, .ref (ad9 ob2 0)), (0, .ref (ad9 1 0)), (1, .int (i32 (x))), (2, .int (i32 (n))), (3, .int (i32 (b2 (mir))))] := by
            have t9 := hl
            rw [ea ob2 0 (by omega), ea 1 0 (by omega)] at t9
            exact t9
          have qSn9 : ∀ (a1 b1 : Nat) (i1 : Int), Sn9 a1 b1 i1 = if a1 = o9 then (if b1 = 0 then (fun i => if i = -1 then 1 else if i = 1 then (S ob2 0 1) else if i = 2 then n else 0) i1 else 0) else S a1 b1 i1 := fun a1 b1 i1 => by rw [hSn9]; rfl
          have rSn9 : ∀ (a1 b1 : Nat) (i1 : Int), rng (Sn9 a1 b1 i1) := fun a1 b1 i1 => hP.rg a1 b1 i1
          have aSn9_1 : Sn9 1 0 (-1) = 1 := by rw [qSn9, if_neg (by omega)]; exact hwc.h1
          have aSn9_2 : Sn9 2 0 (-1) = 1 := by rw [qSn9, if_neg (by omega)]; exact hwc.h2
          have aSn9_ob2 : Sn9 ob2 0 (-1) = 1 := by rw [qSn9, if_neg (by omega)]; exact ha2
          have aSn9_o9 : Sn9 o9 0 (-1) = 1 := by rw [qSn9]; simp
          have u1 : Sn9 o9 0 1 = S ob2 0 1 := by rw [qSn9]; simp
          have u2 : Sn9 ob2 0 0 = S ob2 0 0 := by rw [qSn9, if_neg (by omega)]
          refine lv_astore (lv' := [(5, .ref (ad9 o9 0)), (4, .ref (ad9 ob2 0)), (0, .ref (ad9 1 0)), (1, .int (i32 (x))), (2, .int (i32 (n))), (3, .int (i32 (b2 (mir))))]) hx hb dX3_loom_72 hl (by decide) rfl (fun ls hl => ?_)
          refine lv_aload hx hb dX3_loom_74 (lv_at hl 0 rfl) ?_
          refine lv_aload hx hb dX3_loom_76 (lv_at hl 1 rfl) ?_
          refine lv_iload_n hx hb dX3_loom_78 rfl (lv_at hl 5 rfl) ?_
          refine lv_aload_n hx hb dX3_loom_79 rfl (lv_at hl 2 rfl) ?_
          refine p_get (k := 1) hx hb hown hK hP aSn9_1 rfl rfl rfl (lay_X3 hK) 6 71 (by decide) t_71 rfl rfl dX3_loom_80 ?_
          refine q_nm (show Sn9 1 0 6 = S 1 0 6 from by rw [qSn9, if_neg (by omega)]) ?_
          refine q_callV (k := 5) hx hb hml hl.1 hown hK hZ hP hS aSn9_o9 hkd9 rfl rfl (c_X2_drawFrom l g base ad9 Sn9 o9 ob2 mir (S 1 0 6) aSn9_o9 hkd9 aSn9_ob2 hk2 (by omega) (by omega) (by omega) (by omega)) t_489 t_490 (q_callB hK 488 24 491 t_488 t_24 t_491 f_yX2_drawFrom ⟨by decide, by decide⟩) rfl rfl (Nat.le_of_ble_eq_true rfl) dX3_loom_83 ⟨by decide, by decide⟩  (q_an (fun H locs hP hS => ?_))
          generalize eS7 : dfF Sn9 o9 ob2 mir (S 1 0 6) (Sn9 o9 0 1) (Sn9 ob2 0 0) 0 (Sn9 ob2 0 0) = S7 at hP
          have rS7 : ∀ (a1 b1 : Nat) (i1 : Int), rng (S7 a1 b1 i1) := fun a1 b1 i1 => hP.rg a1 b1 i1
          have qS7 : ∀ (a1 b1 : Nat) (i1 : Int), S7 a1 b1 i1 = (dfF Sn9 o9 ob2 mir (S 1 0 6) (Sn9 o9 0 1) (Sn9 ob2 0 0) 0 (Sn9 ob2 0 0)) a1 b1 i1 := fun a1 b1 i1 => by rw [← eS7]
          have aS7_1 : S7 1 0 (-1) = 1 := by rw [qS7, dfF_x (by omega)]; exact aSn9_1
          have aS7_2 : S7 2 0 (-1) = 1 := by rw [qS7, dfF_x (by omega)]; exact aSn9_2
          have aS7_ob2 : S7 ob2 0 (-1) = 1 := by rw [qS7, dfF_x (by omega)]; exact aSn9_ob2
          have aS7_o9 : S7 o9 0 (-1) = 1 := by rw [qS7, dfF_o (by decide) (by decide)]; exact aSn9_o9
          refine lv_aload_n hx hb dX3_loom_86 rfl (lv_at hl 2 rfl) ?_
          refine lv_aload hx hb dX3_loom_87 (lv_at hl 0 rfl) ?_
          refine q_callV (k := 1) hx hb hml hl.1 hown hK hZ hP hS aS7_1 rfl rfl rfl (c_X3_keepPiece l g base ad9 S7 o9 aS7_1 aS7_o9 (by rw [qS7, dfF_x (by omega), qSn9, if_neg (by omega)]; exact ho9.symm) (by rw [qS7, dfF_x (by omega), qSn9, if_neg (by omega)]; omega)) t_502 t_6 (q_callB hK 500 15 503 t_500 t_15 t_503 f_yX3_keepPiece ⟨by decide, by decide⟩) rfl rfl (Nat.le_of_ble_eq_true rfl) dX3_loom_89 ⟨by decide, by decide⟩  (q_an (fun H locs hP hS => ?_))
          generalize eS8 : st S7 1 6 (S7 1 0 6) 1 = S8 at hP
          have qS8 : ∀ (a1 b1 : Nat) (i1 : Int), S8 a1 b1 i1 = if a1 = 1 ∧ b1 = 6 ∧ i1 = S7 1 0 6 then 1 else S7 a1 b1 i1 := fun a1 b1 i1 => by rw [← eS8]; exact st_at _ _ _ _ _ _ _ _
          have aS8_1 : S8 1 0 (-1) = 1 := by rw [qS8, if_neg (by omega)]; exact aS7_1
          have aS8_2 : S8 2 0 (-1) = 1 := by rw [qS8, if_neg (by omega)]; exact aS7_2
          have aS8_ob2 : S8 ob2 0 (-1) = 1 := by rw [qS8, if_neg (by omega)]; exact aS7_ob2
          have aS8_o9 : S8 o9 0 (-1) = 1 := by rw [qS8, if_neg (by omega)]; exact aS7_o9
          generalize eS9 : st S8 1 0 6 (S7 1 0 6 + 1) = S9 at hP
          have rS9 : ∀ (a1 b1 : Nat) (i1 : Int), rng (S9 a1 b1 i1) := fun a1 b1 i1 => hP.rg a1 b1 i1
          have qS9 : ∀ (a1 b1 : Nat) (i1 : Int), S9 a1 b1 i1 = if a1 = 1 ∧ b1 = 0 ∧ i1 = 6 then S7 1 0 6 + 1 else S8 a1 b1 i1 := fun a1 b1 i1 => by rw [← eS9]; exact st_at _ _ _ _ _ _ _ _
          have aS9_1 : S9 1 0 (-1) = 1 := by rw [qS9, if_neg (by omega)]; exact aS8_1
          have aS9_2 : S9 2 0 (-1) = 1 := by rw [qS9, if_neg (by omega)]; exact aS8_2
          have aS9_ob2 : S9 ob2 0 (-1) = 1 := by rw [qS9, if_neg (by omega)]; exact aS8_ob2
          have aS9_o9 : S9 o9 0 (-1) = 1 := by rw [qS9, if_neg (by omega)]; exact aS8_o9
          refine q_nm (show (S7 1 0 6 : Int) = S 1 0 6 from by rw [qS7, dfF_x (by omega), qSn9, if_neg (by omega)]) ?_
          subst hQm
          refine vx_ret ?_
          exact q_iret hx hb hr hlocks hP hS ⟨(by subst ho2; exact ⟨by assumption, ⟨by omega, by omega, by omega⟩, by omega, by assumption⟩), A9, rfl, (by rw [had9, ho9]), (by rw [← eS9, ← eS8, show S7 1 0 6 = S 1 0 6 from by rw [qS7, dfF_x (by omega), qSn9, if_neg (by omega)], ← eS7, u1, u2, hSn9, ← ho9, ← ho2]; rfl)⟩ (by decide) (by decide) dX3_loom_92
        · -- (S ob2 0 1) < 1
          subst hQm
          exact q_throw hx hb hfl hml hl.1 hown hK hZ (by decide) t_227 t_21 t_450 (at_S hK) ao_S hP hS dX3_loom_45 dX3_loom_48 dX3_loom_49 dX3_loom_51 dX3_loom_54 hout (by decide) (by decide) (by decide) (by decide) hlocks (by subst ho2; exact Or.inr (Or.inr ⟨rfl, by first | trivial | assumption | omega | exact ⟨by assumption, by omega⟩ | exact ⟨by assumption, by assumption⟩ | exact ⟨by assumption, by omega, by omega⟩ | exact ⟨by assumption, by omega, by omega, by omega, by omega⟩ | exact ⟨by assumption, by assumption, by omega⟩, by first | trivial | assumption | omega | exact ⟨by assumption, by omega⟩ | exact ⟨by assumption, by assumption⟩ | exact ⟨by assumption, by omega, by omega⟩ | exact ⟨by assumption, by omega, by omega, by omega, by omega⟩ | exact ⟨by assumption, by assumption, by omega⟩, by first | omega | (intro y; omega) | (intro y; have := y.1; omega) | (intro y; have := y.2; omega) | (intro y; exact absurd y.1 (by assumption)) | (intro y; exact absurd y.2 (by assumption)) | (intro y; have := y.2.1; omega)| (intro y; exact absurd y.2.1 (by assumption))| (intro y; exact absurd y.2.2 (by assumption)) | (intro y; exact absurd y (by assumption))⟩)) (by decide) (by decide)
      · -- (S ob2 0 0) < n
        subst hQm
        exact q_throw hx hb hfl hml hl.1 hown hK hZ (by decide) t_206 t_20 t_449 (at_A hK) ao_A hP hS dX3_loom_26 dX3_loom_29 dX3_loom_30 dX3_loom_32 dX3_loom_35 hout (by decide) (by decide) (by decide) (by decide) hlocks (by subst ho2; exact Or.inr (Or.inl ⟨rfl, by first | trivial | assumption | omega | exact ⟨by assumption, by omega⟩ | exact ⟨by assumption, by assumption⟩ | exact ⟨by assumption, by omega, by omega⟩ | exact ⟨by assumption, by omega, by omega, by omega, by omega⟩ | exact ⟨by assumption, by assumption, by omega⟩, by first | omega | (intro y; omega) | (intro y; have := y.1; omega) | (intro y; have := y.2; omega) | (intro y; exact absurd y.1 (by assumption)) | (intro y; exact absurd y.2 (by assumption)) | (intro y; have := y.2.1; omega)| (intro y; exact absurd y.2.1 (by assumption))| (intro y; exact absurd y.2.2 (by assumption)) | (intro y; exact absurd y (by assumption))⟩)) (by decide) (by decide)

set_option maxHeartbeats 4000000 in
set_option maxRecDepth 100000 in
theorem c_X3_cut (l : Launch) (g : GT) (base : Nat) (ad : Nat → Nat → Nat) (S : St) (x q : Int) (hfl : l.stackTraces = false) (hwc : wC S) (hrn : rng x) (hrn2 : rng q) (hcf : ∀ j : Nat, S 1 3 j = 1 → (j : Int) < S 1 0 3) (hpf : ∀ j : Nat, S 1 6 j = 1 → (j : Int) < S 1 0 6) : vx_Met l yX3_cut [Cond.code yX3_cut cX3_cut 5 (some FieldType.int)] ({ frames := 7, cells := 11, slots := 805, locals := 112 }) (va_Pc [.ref (ad 1 0), .int (i32 (x)), .int (i32 (q))] (PK g base ad S)) (gQ g base (fun rr9 ad9 S9 => ((peC S x ∧ (1 ≤ q ∧ q < S (10 + x.toNat) 0 0)) ∧ (dnC S (10 + x.toNat) ∧ S 1 0 6 < 20) ∧ (True)) ∧ ∃ A9 : Nat → Nat, rr9 = some (.int (i32 (S 1 0 6))) ∧ ad9 = adN ad (10 + (S 1 0 6).toNat) A9 ∧ S9 = cuS S x q)) (xQ g base ad S (fun E => t3 eB eS "" (peC S x ∧ (1 ≤ q ∧ q < S (10 + x.toNat) 0 0)) (dnC S (10 + x.toNat) ∧ S 1 0 6 < 20) (True) E)) 11 805 (fun q => base ≤ q) := by
  refine mk_mx (own := RX3) (lv0 := [(0, .ref (ad 1 0)), (1, .int (i32 (x))), (2, .int (i32 (q)))]) (by decide) rfl (Nat.le_of_ble_eq_true rfl) rfl ?_
  intro p e s m below meth cz av Qm hx hb hr hml hown hlocks hout hK hZ hP hQm ls hl
  have hS : va_S (fun q => base ≤ q) s.heap s.heap [] := va_S.rf
  have rS : ∀ (a1 b1 : Nat) (i1 : Int), rng (S a1 b1 i1) := fun a1 b1 i1 => hP.rg a1 b1 i1
  refine lv_aload_n hx hb dX3_cut_0 rfl (lv_at hl 0 rfl) ?_
  refine lv_iload_n hx hb dX3_cut_1 rfl (lv_at hl 1 rfl) ?_
  refine q_callVx (k := 1) hx hb hml hl.1 hown hK hZ hP hS hwc.h1 rfl rfl rfl (c_X3_pieceNumbered l g base ad S x hfl hwc.h1 hrn) t_275 t_1 (q_callB hK 273 15 276 t_273 t_15 t_276 f_yX3_pieceNumbered ⟨by decide, by decide⟩) rfl rfl (Nat.le_of_ble_eq_true rfl) dX3_cut_2 ⟨by decide, by decide⟩ (fun E ce q9 H locs hE hq9 hv9 hc9 hP hS => by subst hQm; exact q_out hout hlocks hq9 hv9 hc9 hP hS (by exact Or.inl ⟨hE.1, by intro y; first | exact hE.2 y | exact hE.2 y.1 | exact hE.2 y.2 | exact hE.2 y.2.1 | exact hE.2 y.2.2 | exact hE.2 y.1.1 | exact hE.2 y.1.2⟩) (by decide) (by decide)) (q_anc (fun hq1 H locs hP hS => ?_))
  have hc2 := hwc.pe hq1
  have hk2 := kd_p (x := x) (by have := hq1; unfold peC at this; omega)
  generalize ho2 : 10 + Int.toNat x = ob2 at hc2 hk2 ⊢
  obtain ⟨ha2, hpw2, hph2, hpv2, hsh2, hor2, hro2, hlt2, h122⟩ := hc2
  refine lv_astore_n (lv' := [(3, .ref (ad ob2 0)), (0, .ref (ad 1 0)), (1, .int (i32 (x))), (2, .int (i32 (q)))]) hx hb dX3_cut_5 rfl hl (by decide) rfl (fun ls hl => ?_)
  refine lv_aload_n hx hb dX3_cut_6 rfl (lv_at hl 0 rfl) ?_
  refine lv_iload_n hx hb dX3_cut_7 rfl (lv_at hl 3 rfl) ?_
  refine q_callSx hx hb hml hl.1 hown hK hZ hP hS (c_X3_requireSecondColumn l g base ad S ob2 q hfl ha2 hk2 hrn2) t_665 (q_callB hK 664 15 666 t_664 t_15 t_666 f_yX3_requireSecondColumn ⟨by decide, by decide⟩) rfl rfl (Nat.le_of_ble_eq_true rfl) dX3_cut_8 ⟨by decide, by decide⟩ (fun E ce q9 H locs hE hq9 hv9 hc9 hP hS => by subst hQm; exact q_out hout hlocks hq9 hv9 hc9 hP hS (by subst ho2; exact Or.inl ⟨hE.1, by intro y; first | exact hE.2 y | exact hE.2 y.1 | exact hE.2 y.2 | exact hE.2 y.2.1 | exact hE.2 y.2.2 | exact hE.2 y.1.1 | exact hE.2 y.1.2⟩) (by decide) (by decide)) (q_anc (fun hq2 H locs hP hS => ?_))
  refine lv_aload_n hx hb dX3_cut_11 rfl (lv_at hl 0 rfl) ?_
  refine q_callSx hx hb hml hl.1 hown hK hZ hP hS (c_X3_requireDone l g base ad S ob2 hfl ha2 hk2 (by omega) (by omega)) t_597 (q_callB hK 596 15 598 t_596 t_15 t_598 f_yX3_requireDone ⟨by decide, by decide⟩) rfl rfl (Nat.le_of_ble_eq_true rfl) dX3_cut_12 ⟨by decide, by decide⟩ (fun E ce q9 H locs hE hq9 hv9 hc9 hP hS => by subst hQm; exact q_out hout hlocks hq9 hv9 hc9 hP hS (by subst ho2; exact Or.inr (Or.inl ⟨hE.1, by first | trivial | assumption | omega | exact ⟨by assumption, by omega⟩ | exact ⟨by assumption, by assumption⟩ | exact ⟨by assumption, by omega, by omega⟩ | exact ⟨by assumption, by omega, by omega, by omega, by omega⟩ | exact ⟨by assumption, by assumption, by omega⟩, by intro y; first | exact hE.2 y | exact hE.2 y.1 | exact hE.2 y.2 | exact hE.2 y.2.1 | exact hE.2 y.2.2 | exact hE.2 y.1.1 | exact hE.2 y.1.2⟩)) (by decide) (by decide)) (q_anc (fun hq3 H locs hP hS => ?_))
  refine lv_aload_n hx hb dX3_cut_15 rfl (lv_at hl 1 rfl) ?_
  refine q_callVx (k := 1) hx hb hml hl.1 hown hK hZ hP hS hwc.h1 rfl rfl rfl (c_X3_requireRoomForPiece l g base ad S  hfl hwc.h1) t_453 t_5 (q_callB hK 451 15 454 t_451 t_15 t_454 f_yX3_requireRoomForPiece ⟨by decide, by decide⟩) rfl rfl (Nat.le_of_ble_eq_true rfl) dX3_cut_16 ⟨by decide, by decide⟩ (fun E ce q9 H locs hE hq9 hv9 hc9 hP hS => by subst hQm; exact q_out hout hlocks hq9 hv9 hc9 hP hS (by subst ho2; exact Or.inr (Or.inl ⟨hE.1, by first | trivial | assumption | omega | exact ⟨by assumption, by omega⟩ | exact ⟨by assumption, by assumption⟩ | exact ⟨by assumption, by omega, by omega⟩ | exact ⟨by assumption, by omega, by omega, by omega, by omega⟩ | exact ⟨by assumption, by assumption, by omega⟩, by intro y; first | exact hE.2 y | exact hE.2 y.1 | exact hE.2 y.2 | exact hE.2 y.2.1 | exact hE.2 y.2.2 | exact hE.2 y.1.1 | exact hE.2 y.1.2⟩)) (by decide) (by decide)) (q_anc (fun hq4 H locs hP hS => ?_))
  obtain ⟨hpc1, hpc2⟩ := hwc.pc
  obtain ⟨hcc1, hcc2⟩ := hwc.cc
  have hxb : 0 ≤ x ∧ x < 20 ∧ S 1 6 x = 1 := by have := hq1; unfold peC at this; exact this
  have hxn : x < S 1 0 6 := by have := hpf x.toNat (by rw [Int.toNat_of_nonneg hxb.1]; exact hxb.2.2); omega
  refine w_newO (fs := [.int (i32 0), .int (i32 0), .int (i32 0), .null, .null, .null, .null, .null, .null]) hx hb hown hK hP.piw hS (ci := 2) rfl (lay_X2 hK) tyX2 tyX2_ok t_63 t_306 t_24 (fun j hj => by rcases (show j = 0 ∨ j = 1 ∨ j = 2 ∨ j = 3 ∨ j = 4 ∨ j = 5 ∨ j = 6 ∨ j = 7 ∨ j = 8 by omega) with rfl | rfl | rfl | rfl | rfl | rfl | rfl | rfl | rfl <;> rfl) (by decide) (Nat.le_of_ble_eq_true rfl) dX3_cut_19 (fun q19 H hqq19 hW hS => ?_)
  have hW : piw g base ad S [(q19, .inr (2, [.int (i32 0), .int (i32 0), .int (i32 0), .null, .null, .null, .null, .null, .null]))] H := hW
  have hP := hW.1
  refine lv_dup hx hb dX3_cut_22 rfl ?_
  refine lv_aload_n hx hb dX3_cut_23 rfl (lv_at hl 0 rfl) ?_
  refine q_callVN (As := []) (k := 5) hx hb hml hl.1 hown hK hZ hW hS ha2 hk2 rfl rfl (c_X2_heightN l g base ad S ob2 ha2 hk2) t_283 t_284 (q_callB hK 282 24 285 t_282 t_24 t_285 f_yX2_height ⟨by decide, by decide⟩) rfl rfl (Nat.le_of_ble_eq_true rfl) dX3_cut_24 ⟨by decide, by decide⟩ (fun H locs hW hS => ?_)
  have hP := hW.1
  refine lv_iconst (v := i32 (0)) hx hb dX3_cut_27 rfl ?_
  obtain ⟨o9, ho9⟩ : ∃ o9 : Nat, 10 + (S 1 0 6).toNat = o9 := ⟨_, rfl⟩
  have hkd9 : kd o9 = 5 := by rw [← ho9]; exact kd_p (by omega)
  have hcc9 : keepc S o9 := fun _ => ⟨by omega, fun j h => by have := hcf j h; omega, fun j h => by have := hpf j h; omega⟩
  refine q_callI (As := [.int (i32 (S ob2 0 1)), .int (i32 (0))]) (rest := [.ref q19]) hx hb hml hl.1 hown hK hZ hW hS (c_X2_init l g base ad S o9 q19 (S ob2 0 1) 0 hkd9 (hP.rg _ _ _) ⟨by decide, by decide⟩ hcc9) rfl t_457 (q_callB hK 456 24 458 t_456 t_24 t_458 f_yX2_init ⟨by decide, by decide⟩) rfl rfl (Nat.le_of_ble_eq_true rfl) dX3_cut_28 ⟨by decide, by decide⟩ (fun r9 ad9 Sn9 H locs h9 hP hS => ?_)
  obtain ⟨rfl, A9, hA9, had9, hSn9⟩ := h9
  have ea : ∀ x r, x ≠ o9 → ad x r = ad9 x r := fun x r h => by rw [had9, adN_n h]
  have eo : q19 = ad9 o9 0 := by rw [had9, adN_o, hA9]
  have eg : F0 m 31 ls (Value.ref q19 :: []) = F0 m 31 ls (Value.ref (ad9 o9 0) :: []) := by rw [eo]
  refine W.eq eg ?_
  have hl : lv_has ls 5 [(3, .ref (ad9 ob2 0)), (0, .ref (ad9 1 0)), (1, .int (i32 (x))), (2, .int (i32 (q)))] := by
    have t9 := hl
    rw [ea ob2 0 (by omega), ea 1 0 (by omega)] at t9
    exact t9
  have qSn9 : ∀ (a1 b1 : Nat) (i1 : Int), Sn9 a1 b1 i1 = if a1 = o9 then (if b1 = 0 then (fun i => if i = -1 then 1 else if i = 1 then (S ob2 0 1) else if i = 2 then 0 else 0) i1 else 0) else S a1 b1 i1 := fun a1 b1 i1 => by rw [hSn9]; rfl
  have rSn9 : ∀ (a1 b1 : Nat) (i1 : Int), rng (Sn9 a1 b1 i1) := fun a1 b1 i1 => hP.rg a1 b1 i1
  have aSn9_1 : Sn9 1 0 (-1) = 1 := by rw [qSn9, if_neg (by omega)]; exact hwc.h1
  have aSn9_2 : Sn9 2 0 (-1) = 1 := by rw [qSn9, if_neg (by omega)]; exact hwc.h2
  have aSn9_ob2 : Sn9 ob2 0 (-1) = 1 := by rw [qSn9, if_neg (by omega)]; exact ha2
  have aSn9_o9 : Sn9 o9 0 (-1) = 1 := by rw [qSn9]; simp
  have u1 : Sn9 o9 0 1 = S ob2 0 1 := by rw [qSn9]; simp
  have u2 : Sn9 ob2 0 0 = S ob2 0 0 := by rw [qSn9, if_neg (by omega)]
  have u3 : Sn9 o9 0 0 = 0 := by rw [qSn9]; simp
  refine lv_astore (lv' := [(4, .ref (ad9 o9 0)), (3, .ref (ad9 ob2 0)), (0, .ref (ad9 1 0)), (1, .int (i32 (x))), (2, .int (i32 (q)))]) hx hb dX3_cut_31 hl (by decide) rfl (fun ls hl => ?_)
  refine lv_aload hx hb dX3_cut_33 (lv_at hl 0 rfl) ?_
  refine lv_aload_n hx hb dX3_cut_35 rfl (lv_at hl 1 rfl) ?_
  refine lv_iload_n hx hb dX3_cut_36 rfl (lv_at hl 4 rfl) ?_
  refine q_callV (k := 5) hx hb hml hl.1 hown hK hZ hP hS aSn9_o9 hkd9 rfl rfl (c_X2_append l g base ad9 Sn9 o9 ob2 q aSn9_o9 hkd9 aSn9_ob2 hk2 (by omega) (by omega) (by omega) (by omega) (by omega)) t_614 t_615 (q_callB hK 613 24 616 t_613 t_24 t_616 f_yX2_append ⟨by decide, by decide⟩) rfl rfl (Nat.le_of_ble_eq_true rfl) dX3_cut_37 ⟨by decide, by decide⟩  (q_an (fun H locs hP hS => ?_))
  generalize eS5 : apF Sn9 o9 ob2 q (Sn9 o9 0 0) (Sn9 o9 0 1) (Sn9 ob2 0 0 - q) = S5 at hP
  have rS5 : ∀ (a1 b1 : Nat) (i1 : Int), rng (S5 a1 b1 i1) := fun a1 b1 i1 => hP.rg a1 b1 i1
  have qS5 : ∀ (a1 b1 : Nat) (i1 : Int), S5 a1 b1 i1 = (apF Sn9 o9 ob2 q (Sn9 o9 0 0) (Sn9 o9 0 1) (Sn9 ob2 0 0 - q)) a1 b1 i1 := fun a1 b1 i1 => by rw [← eS5]
  have aS5_1 : S5 1 0 (-1) = 1 := by rw [qS5, apF_x (by omega)]; exact aSn9_1
  have aS5_2 : S5 2 0 (-1) = 1 := by rw [qS5, apF_x (by omega)]; exact aSn9_2
  have aS5_ob2 : S5 ob2 0 (-1) = 1 := by rw [qS5, apF_x (by omega)]; exact aSn9_ob2
  have aS5_o9 : S5 o9 0 (-1) = 1 := by rw [qS5, apF_o (by decide) (by decide)]; exact aSn9_o9
  refine lv_aload_n hx hb dX3_cut_40 rfl (lv_at hl 1 rfl) ?_
  refine lv_iload_n hx hb dX3_cut_41 rfl (lv_at hl 4 rfl) ?_
  refine q_callV (k := 5) hx hb hml hl.1 hown hK hZ hP hS aS5_ob2 hk2 rfl rfl (c_X2_keepAhead l g base ad9 S5 ob2 q aS5_ob2 hk2 hrn2) t_669 t_670 (q_callB hK 668 24 671 t_668 t_24 t_671 f_yX2_keepAhead ⟨by decide, by decide⟩) rfl rfl (Nat.le_of_ble_eq_true rfl) dX3_cut_42 ⟨by decide, by decide⟩  (q_an (fun H locs hP hS => ?_))
  generalize eS6 : st S5 ob2 0 0 q = S6 at hP
  have rS6 : ∀ (a1 b1 : Nat) (i1 : Int), rng (S6 a1 b1 i1) := fun a1 b1 i1 => hP.rg a1 b1 i1
  have qS6 : ∀ (a1 b1 : Nat) (i1 : Int), S6 a1 b1 i1 = if a1 = ob2 ∧ b1 = 0 ∧ i1 = 0 then q else S5 a1 b1 i1 := fun a1 b1 i1 => by rw [← eS6]; exact st_at _ _ _ _ _ _ _ _
  have aS6_1 : S6 1 0 (-1) = 1 := by rw [qS6, if_neg (by omega)]; exact aS5_1
  have aS6_2 : S6 2 0 (-1) = 1 := by rw [qS6, if_neg (by omega)]; exact aS5_2
  have aS6_ob2 : S6 ob2 0 (-1) = 1 := by rw [qS6, if_neg (by omega)]; exact aS5_ob2
  have aS6_o9 : S6 o9 0 (-1) = 1 := by rw [qS6, if_neg (by omega)]; exact aS5_o9
  refine lv_aload_n hx hb dX3_cut_45 rfl (lv_at hl 2 rfl) ?_
  refine lv_aload hx hb dX3_cut_46 (lv_at hl 0 rfl) ?_
  refine q_callV (k := 1) hx hb hml hl.1 hown hK hZ hP hS aS6_1 rfl rfl rfl (c_X3_keepPiece l g base ad9 S6 o9 aS6_1 aS6_o9 (by rw [qS6, if_neg (by omega), qS5, apF_x (by omega), qSn9, if_neg (by omega)]; exact ho9.symm) (by rw [qS6, if_neg (by omega), qS5, apF_x (by omega), qSn9, if_neg (by omega)]; omega)) t_502 t_6 (q_callB hK 500 15 503 t_500 t_15 t_503 f_yX3_keepPiece ⟨by decide, by decide⟩) rfl rfl (Nat.le_of_ble_eq_true rfl) dX3_cut_48 ⟨by decide, by decide⟩  (q_an (fun H locs hP hS => ?_))
  generalize eS7 : st S6 1 6 (S6 1 0 6) 1 = S7 at hP
  have qS7 : ∀ (a1 b1 : Nat) (i1 : Int), S7 a1 b1 i1 = if a1 = 1 ∧ b1 = 6 ∧ i1 = S6 1 0 6 then 1 else S6 a1 b1 i1 := fun a1 b1 i1 => by rw [← eS7]; exact st_at _ _ _ _ _ _ _ _
  have aS7_1 : S7 1 0 (-1) = 1 := by rw [qS7, if_neg (by omega)]; exact aS6_1
  have aS7_2 : S7 2 0 (-1) = 1 := by rw [qS7, if_neg (by omega)]; exact aS6_2
  have aS7_ob2 : S7 ob2 0 (-1) = 1 := by rw [qS7, if_neg (by omega)]; exact aS6_ob2
  have aS7_o9 : S7 o9 0 (-1) = 1 := by rw [qS7, if_neg (by omega)]; exact aS6_o9
  generalize eS8 : st S7 1 0 6 (S6 1 0 6 + 1) = S8 at hP
  have rS8 : ∀ (a1 b1 : Nat) (i1 : Int), rng (S8 a1 b1 i1) := fun a1 b1 i1 => hP.rg a1 b1 i1
  have qS8 : ∀ (a1 b1 : Nat) (i1 : Int), S8 a1 b1 i1 = if a1 = 1 ∧ b1 = 0 ∧ i1 = 6 then S6 1 0 6 + 1 else S7 a1 b1 i1 := fun a1 b1 i1 => by rw [← eS8]; exact st_at _ _ _ _ _ _ _ _
  have aS8_1 : S8 1 0 (-1) = 1 := by rw [qS8, if_neg (by omega)]; exact aS7_1
  have aS8_2 : S8 2 0 (-1) = 1 := by rw [qS8, if_neg (by omega)]; exact aS7_2
  have aS8_ob2 : S8 ob2 0 (-1) = 1 := by rw [qS8, if_neg (by omega)]; exact aS7_ob2
  have aS8_o9 : S8 o9 0 (-1) = 1 := by rw [qS8, if_neg (by omega)]; exact aS7_o9
  refine q_nm (show (S6 1 0 6 : Int) = S 1 0 6 from by rw [qS6, if_neg (by omega), qS5, apF_x (by omega), qSn9, if_neg (by omega)]) ?_
  subst hQm
  refine vx_ret ?_
  exact q_iret hx hb hr hlocks hP hS ⟨(by subst ho2; exact ⟨⟨by assumption, by assumption⟩, ⟨by assumption, by assumption⟩, trivial⟩), A9, rfl, (by rw [had9, ho9]), (by rw [← eS8, ← eS7, show S6 1 0 6 = S 1 0 6 from by rw [qS6, if_neg (by omega), qS5, apF_x (by omega), qSn9, if_neg (by omega)], ← eS6, ← eS5, u1, u2, u3, hSn9, ← ho9, ← ho2]; rfl)⟩ (by decide) (by decide) dX3_cut_51
