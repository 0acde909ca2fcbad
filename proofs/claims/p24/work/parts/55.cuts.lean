/-! ===== cutting and joining, as the law has them ===== -/
theorem ob_k {S S' : St} {o : Nat} (e : S' o = S o) : shC S' o = shC S o ∧ (dnC S' o ↔ dnC S o) ∧ (trC S' o ↔ trC S o) := by
  have hw : wnC S' o = wnC S o := by
    unfold wnC
    rw [s2_ss, s2_ss, e]
  refine ⟨by unfold shC; rw [s2_ss, s2_ss, e], ?_, ?_⟩
  · unfold dnC
    rw [hw, e]
  · unfold trC
    rw [e]
/-- where a piece has come, and the law has counted it -/
theorem LV_n {S S' : St} (h : LV S) (hk : S 1 0 3 ≤ 5) (e3 : ∀ (b : Nat) (i : Int), ¬ (b = 1 ∧ i = 2) → S' 3 b i = S 3 b i) (e31 : S' 3 1 2 = S' 1 0 6) (e1 : S' 1 0 3 = S 1 0 3) (e2 : S' 2 = S 2) (ec : ∀ a : Nat, 4 ≤ a → a < 10 → S' a = S a) : LV S' := by
  obtain ⟨⟨a0, a1, a2⟩, ad, az, ac⟩ := h
  refine ⟨⟨by rw [e3 _ _ (by omega), e1]; exact a0, by rw [e3 _ _ (by omega), e2]; exact a1, e31⟩, fun x x0 x1 => ?_, fun x x0 x1 => ?_, fun j j0 j1 => ?_⟩
  · rw [e1] at x1
    rw [e3 _ _ (by omega), e3 _ _ (by omega), ec _ (by omega) (by omega)]
    exact ad x x0 x1
  · rw [e1] at x0
    rw [e3 _ _ (by omega)]
    exact az x x0 x1
  · rw [e2] at j1
    rw [e3 _ _ (by omega), e2]
    exact ac j j0 j1
theorem mc_b {S : St} {o n : Nat} (h : 0 ≤ S o 0 1) : 0 ≤ mcC S o n ∧ mcC S o n ≤ S o 0 1 := by
  have := sm_b1 (φ := fun r => S o 6 (r * 24 + (S o 0 0 - 1)) = S n 6 (r * 24 + 0)) (S o 0 1).toNat
  unfold mcC
  omega
set_option maxHeartbeats 4000000 in
set_option maxRecDepth 100000 in
theorem c_L_cuts (l : Launch) (g : GT) (base : Nat) (ad : Nat → Nat → Nat) (S : St) (x y : Int) (hfl : l.stackTraces = false) (hI : IV S) (hV : LV S) (hpx : peC S x) (hrn : rng x) (hrn2 : rng y) : Met l yL_cuts [Cond.code yL_cuts cL_cuts 12 (some FieldType.boolean)] ({ frames := 10, cells := 2962, slots := 18511, locals := 192 }) (va_Pc [.ref (ad 1 0), .ref (ad 3 1), .ref (ad 3 3), .int (i32 (x)), .int (i32 (y))] (PK g base ad S)) (gQ g base (lmP ad)) 2962 18511 (fun q => base ≤ q) := by
  refine mk_m (own := RL) (lv0 := [(0, .ref (ad 1 0)), (1, .ref (ad 3 1)), (2, .ref (ad 3 3)), (3, .int (i32 (x))), (4, .int (i32 (y)))]) (by decide) rfl (Nat.le_of_ble_eq_true rfl) rfl ?_
  intro p e s m below meth cz av Qm hx hb hr hml hown hlocks hK hZ hP hQm ls hl
  have hS : va_S (fun q => base ≤ q) s.heap s.heap [] := va_S.rf
  have rS : ∀ (a1 b1 : Nat) (i1 : Int), rng (S a1 b1 i1) := fun a1 b1 i1 => hP.rg a1 b1 i1
  obtain ⟨-, pw8, ph8, -⟩ := (hI.pp hpx).1
  have hp20 := hI.p.1
  have hsb := sh_b (hI.pp hpx)
  obtain ⟨⟨v0, v1, v2⟩, -⟩ := id hV
  obtain ⟨hx0, hx1, -⟩ := id hpx
  have hxN := hI.pl hpx
  refine lv_aload_n hx hb dL_cuts_0 rfl (lv_at hl 0 rfl) ?_
  refine lv_iload_n hx hb dL_cuts_1 rfl (lv_at hl 3 rfl) ?_
  refine lv_iconst (v := i32 (0)) hx hb dL_cuts_2 rfl ?_
  refine q_callH2 (As := [.ref (ad 1 0), .int (i32 (x)), .int (i32 (0))]) (rest := []) hx hb hml hl.1 hown hK hZ hP hS (c_L_pieceIs l g base ad S x ((0 : Int)) hfl hI.wc hrn ⟨by decide, by decide⟩) t_266 t_14 t_268 t_267 f_yL_pieceIs ⟨Nat.le_of_ble_eq_true rfl, Nat.le_of_ble_eq_true rfl⟩ rfl rfl (Nat.le_of_ble_eq_true rfl) dL_cuts_3 (c2 := 2) (s2 := 12) ⟨by first | rfl | (dsimp only; omega), by first | rfl | (dsimp only; omega)⟩ ⟨by show 2 ≤ 2962; omega, by show 12 ≤ 18511; omega⟩ (q_an (fun H locs hP hS => ?_))
  refine q_nm (b := S (10 + x.toNat) 0 0) (((lv_0 hpx (by decide) trivial).trans (pcC_0 rfl))) ?_
  refine lv_istore (lv' := [(5, .int (i32 (S (10 + x.toNat) 0 0))), (0, .ref (ad 1 0)), (1, .ref (ad 3 1)), (2, .ref (ad 3 3)), (3, .int (i32 (x))), (4, .int (i32 (y)))]) hx hb dL_cuts_6 hl (by decide) rfl (fun ls hl => ?_)
  refine lv_iload hx hb dL_cuts_8 (lv_at hl 5 rfl) ?_
  refine lv_bipush (v := i32 (14)) hx hb dL_cuts_10 (by decide) ?_
  refine q_callS2 (As := [.int (i32 (y)), .int (i32 (14))]) (rest := []) hx hb hml hl.1 hown hK hZ hP hS (c_L_low l g base ad S y ((14 : Int)) hrn2 (by omega)) t_122 (q_callB hK 121 14 123 t_121 t_14 t_123 f_yL_low ⟨Nat.le_of_ble_eq_true rfl, Nat.le_of_ble_eq_true rfl⟩) rfl rfl (Nat.le_of_ble_eq_true rfl) dL_cuts_12 (c2 := 2) (s2 := 12) ⟨by first | rfl | (dsimp only; omega), by first | rfl | (dsimp only; omega)⟩ ⟨by show 2 ≤ 2962; omega, by show 12 ≤ 18511; omega⟩ (q_an (fun H locs hP hS => ?_))
  obtain ⟨y1, hy1⟩ : ∃ y99 : Int, loF y ((14 : Int)) = y99 := ⟨_, rfl⟩
  have by1 := lo_b y (show 1 ≤ ((14 : Int)) by omega)
  rw [hy1] at by1
  refine q_nm hy1 ?_
  refine lv_istore (lv' := [(6, .int (i32 (y1))), (5, .int (i32 (S (10 + x.toNat) 0 0))), (0, .ref (ad 1 0)), (1, .ref (ad 3 1)), (2, .ref (ad 3 3)), (3, .int (i32 (x))), (4, .int (i32 (y)))]) hx hb dL_cuts_15 hl (by decide) rfl (fun ls hl => ?_)
  refine lv_aload_n hx hb dL_cuts_17 rfl (lv_at hl 2 rfl) ?_
  refine lv_iload_n hx hb dL_cuts_18 rfl (lv_at hl 5 rfl) ?_
  refine lv_iconst (v := i32 (5)) hx hb dL_cuts_19 rfl ?_
  refine q_callH2 (As := [.ref (ad 1 0), .int (i32 (x)), .int (i32 (5))]) (rest := []) hx hb hml hl.1 hown hK hZ hP hS (c_L_pieceIs l g base ad S x ((5 : Int)) hfl hI.wc hrn ⟨by decide, by decide⟩) t_266 t_14 t_268 t_267 f_yL_pieceIs ⟨Nat.le_of_ble_eq_true rfl, Nat.le_of_ble_eq_true rfl⟩ rfl rfl (Nat.le_of_ble_eq_true rfl) dL_cuts_20 (c2 := 4) (s2 := 24) ⟨by first | rfl | (dsimp only; omega), by first | rfl | (dsimp only; omega)⟩ ⟨by show 4 ≤ 2962; omega, by show 24 ≤ 18511; omega⟩ (q_an (fun H locs hP hS => ?_))
  refine q_nm (b := shC S (10 + x.toNat)) (((lv_0 hpx (by decide) trivial).trans (pcC_5 rfl))) ?_
  refine lv_istore (lv' := [(7, .int (i32 (shC S (10 + x.toNat)))), (6, .int (i32 (y1))), (5, .int (i32 (S (10 + x.toNat) 0 0))), (0, .ref (ad 1 0)), (1, .ref (ad 3 1)), (2, .ref (ad 3 3)), (3, .int (i32 (x))), (4, .int (i32 (y)))]) hx hb dL_cuts_23 hl (by decide) rfl (fun ls hl => ?_)
  refine lv_aload_n hx hb dL_cuts_25 rfl (lv_at hl 3 rfl) ?_
  refine lv_iload_n hx hb dL_cuts_26 rfl (lv_at hl 6 rfl) ?_
  by_cases h_T : trC S (10 + x.toNat)
  · skip
    refine q_callH2 (As := [.ref (ad 1 0), .int (i32 (x))]) (rest := []) hx hb hml hl.1 hown hK hZ hP hS (c_L_isTrue l g base ad S x hfl hI.wc hrn) t_516 t_14 t_518 t_517 f_yL_isTrue ⟨Nat.le_of_ble_eq_true rfl, Nat.le_of_ble_eq_true rfl⟩ rfl rfl (Nat.le_of_ble_eq_true rfl) dL_cuts_27 (c2 := 5) (s2 := 30) ⟨by first | rfl | (dsimp only; omega), by first | rfl | (dsimp only; omega)⟩ ⟨by show 5 ≤ 2962; omega, by show 30 ≤ 18511; omega⟩ (q_an (fun H locs hP hS => ?_))
    refine q_nm (b := 1) ((lv_0 hpx trivial trivial).trans (b2_t h_T)) ?_
    refine lv_istore (lv' := [(8, .int (i32 (1))), (7, .int (i32 (shC S (10 + x.toNat)))), (6, .int (i32 (y1))), (5, .int (i32 (S (10 + x.toNat) 0 0))), (0, .ref (ad 1 0)), (1, .ref (ad 3 1)), (2, .ref (ad 3 3)), (3, .int (i32 (x))), (4, .int (i32 (y)))]) hx hb dL_cuts_30 hl (by decide) rfl (fun ls hl => ?_)
    by_cases h_A : 1 ≤ y1 ∧ y1 < S (10 + x.toNat) 0 0
    · skip
      by_cases h_B : dnC S (10 + x.toNat) ∧ S 1 0 6 < 20
      · skip
        refine lv_aload_n hx hb dL_cuts_32 rfl (lv_at hl 4 rfl) ?_
        refine lv_iload_n hx hb dL_cuts_33 rfl (lv_at hl 7 rfl) ?_
        refine lv_iload hx hb dL_cuts_34 (lv_at hl 2 rfl) ?_
        have w9 := IV_cut hI hpx h_A h_B.1 h_B.2
        refine q_callH2 (As := [.ref (ad 1 0), .int (i32 (x)), .int (i32 (y1))]) (rest := []) hx hb hml hl.1 hown hK hZ hP hS (c_L_cut l g base ad S x y1 hfl hI.wc hrn ⟨by omega, by omega⟩ hI.hcf hI.hpf) t_657 t_14 t_659 t_658 f_yL_cut ⟨Nat.le_of_ble_eq_true rfl, Nat.le_of_ble_eq_true rfl⟩ rfl rfl (Nat.le_of_ble_eq_true rfl) dL_cuts_36 (c2 := 16) (s2 := 835) ⟨by first | rfl | (dsimp only; omega), by first | rfl | (dsimp only; omega)⟩ ⟨by show 16 ≤ 2962; omega, by show 835 ≤ 18511; omega⟩ (fun rr ad' S' H locs hQ hP hS => ?_)
        have hc9 : (peC S x ∧ (1 ≤ y1 ∧ y1 < S (10 + x.toNat) 0 0)) ∧ (dnC S (10 + x.toNat) ∧ S 1 0 6 < 20) ∧ (True) := ⟨⟨hpx, h_A⟩, h_B, trivial⟩
        obtain ⟨⟨hr9, ek9⟩, hQ⟩ := hQ
        have hs9 := (hQ.resolve_left (fun y9 => y9.1 hc9)).2
        subst hr9
        rw [hs9] at hP
        refine q_nm (b := S 1 0 6) ((lv_0 hc9.1 hc9.2.1 hc9.2.2).trans (rfl)) ?_
        obtain ⟨ad2, had2⟩ : ∃ a9 : Nat → Nat → Nat, a9 = ad' := ⟨_, rfl⟩
        rw [← had2] at ek9 hP
        have ek_ad2 : ∀ x q, x < 4 → ad2 x q = ad x q := fun x q h => (ek9 x q h)
        have el_ad2 : ∀ x q, x < 4 → ad2 x q = ad x q := ek9
        have hl : lv_has ls 12 [(8, .int (i32 (1))), (7, .int (i32 (shC S (10 + x.toNat)))), (6, .int (i32 (y1))), (5, .int (i32 (S (10 + x.toNat) 0 0))), (0, .ref (ad2 1 0)), (1, .ref (ad2 3 1)), (2, .ref (ad2 3 3)), (3, .int (i32 (x))), (4, .int (i32 (y)))] := by
          have t9 := hl
          rw [← el_ad2 1 0 (by decide), ← el_ad2 3 1 (by decide), ← el_ad2 3 3 (by decide)] at t9
          exact t9
        skip
        generalize eS3 : cuS S x y1 = S3 at hP
        have rS3 : ∀ (a1 b1 : Nat) (i1 : Int), rng (S3 a1 b1 i1) := fun a1 b1 i1 => hP.rg a1 b1 i1
        have ivS3 : IV S3 := by rw [← eS3]; exact w9.1
        have h3S3 : ∀ (b1 : Nat) (i1 : Int), S3 3 b1 i1 = S 3 b1 i1 := by rw [← eS3]; exact fun b i => w9.2.1.1.1 3 b i (by omega) (by omega) (by omega)
        rw [eS3] at w9
        obtain ⟨-, hcu, ⟨kx, kN, kne⟩, ⟨kd1, kd2⟩, ksh, ktr⟩ := w9
        obtain ⟨⟨fr9, g6, g7⟩, ⟨f1, f2⟩, ⟨g0, g1, g2, ga⟩, -, g8, -⟩ := id hcu
        refine lv_istore (lv' := [(9, .int (i32 (S 1 0 6))), (8, .int (i32 (1))), (7, .int (i32 (shC S (10 + x.toNat)))), (6, .int (i32 (y1))), (5, .int (i32 (S (10 + x.toNat) 0 0))), (0, .ref (ad2 1 0)), (1, .ref (ad2 3 1)), (2, .ref (ad2 3 3)), (3, .int (i32 (x))), (4, .int (i32 (y)))]) hx hb dL_cuts_39 hl (by decide) rfl (fun ls hl => ?_)
        refine lv_iload hx hb dL_cuts_41 (lv_at hl 3 rfl) ?_
        refine q_if_eq (tgt := 53) hx hb ⟨by omega, by omega⟩ dL_cuts_43 (by decide) (fun c_4 => (by exfalso; omega)) (fun c_4 => ?_)
        refine lv_iload hx hb dL_cuts_46 (lv_at hl 3 rfl) ?_
        refine lv_iload hx hb dL_cuts_48 (lv_at hl 4 rfl) ?_
        refine q_icmp_lt (tgt := 66) hx hb ⟨by omega, by omega⟩ (rS _ _ _) dL_cuts_50 (by decide) (fun c_5 => ?_) (fun c_5 => (by exfalso; omega))
        refine lv_aload_n hx hb dL_cuts_66 rfl (lv_at hl 5 rfl) ?_
        refine lv_iload_n hx hb dL_cuts_67 rfl (lv_at hl 8 rfl) ?_
        refine lv_iconst (v := i32 (3)) hx hb dL_cuts_68 rfl ?_
        refine q_callH2 (As := [.ref (ad2 1 0), .int (i32 (x)), .int (i32 (3))]) (rest := []) hx hb hml hl.1 hown hK hZ hP hS (c_L_pieceIs l g base ad2 S3 x ((3 : Int)) hfl ivS3.wc hrn ⟨by decide, by decide⟩) t_266 t_14 t_268 t_267 f_yL_pieceIs ⟨Nat.le_of_ble_eq_true rfl, Nat.le_of_ble_eq_true rfl⟩ rfl rfl (Nat.le_of_ble_eq_true rfl) dL_cuts_69 (c2 := 18) (s2 := 847) ⟨by first | rfl | (dsimp only; omega), by first | rfl | (dsimp only; omega)⟩ ⟨by show 18 ≤ 2962; omega, by show 847 ≤ 18511; omega⟩ (q_an (fun H locs hP hS => ?_))
        refine q_nm (b := 1) (((lv_0 kx (by decide) trivial).trans (pcC_3 rfl)).trans (b2_t kd1)) ?_
        refine q_if_eq (tgt := 83) hx hb ⟨by decide, by decide⟩ dL_cuts_72 (by decide) (fun h => by omega) (fun _ => ?_)
        refine lv_aload_n hx hb dL_cuts_75 rfl (lv_at hl 6 rfl) ?_
        refine lv_iconst (v := i32 (2)) hx hb dL_cuts_76 rfl ?_
        refine p_iald (k := 3) (r := 1) (n := 4) hx hb hK hP ivS3.a.2.2 rfl rfl (by decide) (by decide) (by omega) (by omega) dL_cuts_77 ?_
        refine q_nm (show S3 3 1 2 = S 3 1 2 from by rw [h3S3]) ?_
        refine lv_bipush (v := i32 (20)) hx hb dL_cuts_78 (by decide) ?_
        refine q_icmp_ne (tgt := 96) hx hb (rS _ _ _) ⟨by decide, by decide⟩ dL_cuts_80 (by decide) (fun c_6 => ?_) (fun c_6 => (by exfalso; omega))
        refine lv_aload_n hx hb dL_cuts_96 rfl (lv_at hl 6 rfl) ?_
        refine lv_iconst (v := i32 (2)) hx hb dL_cuts_97 rfl ?_
        refine lv_dup2_11 hx hb dL_cuts_98 rfl rfl ?_
        refine p_iald (k := 3) (r := 1) (n := 4) hx hb hK hP ivS3.a.2.2 rfl rfl (by decide) (by decide) (by omega) (by omega) dL_cuts_99 ?_
        refine q_nm (show S3 3 1 2 = S 3 1 2 from by rw [h3S3]) ?_
        refine lv_iconst (v := i32 (1)) hx hb dL_cuts_100 rfl ?_
        refine q_iadd hx hb dL_cuts_101 ?_
        refine p_iast (k := 3) (r := 1) (n := 4) hx hb hK hP hS ivS3.a.2.2 rfl rfl (by decide) (by decide) (by omega) (by omega) ⟨by omega, by omega⟩ dL_cuts_102 (fun H locs hP hS => ?_)
        generalize eS7 : st S3 3 1 2 ((S 3 1 2) + 1) = S7 at hP
        have qS7 : ∀ (a1 b1 : Nat) (i1 : Int), S7 a1 b1 i1 = if a1 = 3 ∧ b1 = 1 ∧ i1 = 2 then (S 3 1 2) + 1 else S3 a1 b1 i1 := fun a1 b1 i1 => by rw [← eS7]; exact st_at _ _ _ _ _ _ _ _
        have rS7 : ∀ (a1 b1 : Nat) (i1 : Int), rng (S7 a1 b1 i1) := fun a1 b1 i1 => hP.rg a1 b1 i1
        have aS7_1 : S7 1 0 (-1) = 1 := by rw [qS7, if_neg (by omega)]; exact ivS3.a.1
        have aS7_2 : S7 2 0 (-1) = 1 := by rw [qS7, if_neg (by omega)]; exact ivS3.a.2.1
        have aS7_3 : S7 3 0 (-1) = 1 := by rw [qS7, if_neg (by omega)]; exact ivS3.a.2.2
        have ivS7 : IV S7 := by rw [← eS7]; exact IV_3 ivS3 (by decide)
        have en : ∀ a : Nat, a ≠ 3 → S7 a = S3 a := fun a h => fe (fun b i => by rw [qS7, if_neg (by omega)])
        have kx2 : peC S7 x := pe_k kx (by rw [en 1 (by decide)])
        have kN2 : peC S7 (S 1 0 6) := pe_k kN (by rw [en 1 (by decide)])
        obtain ⟨oa1, oa2, oa3⟩ := ob_k (en (10 + x.toNat) (by omega))
        obtain ⟨na1, na2, na3⟩ := ob_k (en (10 + Int.toNat (S 1 0 6)) (by omega))
        obtain ⟨sa, hsa⟩ : ∃ sa : Int, shC S3 (10 + x.toNat) = sa := ⟨_, rfl⟩
        obtain ⟨sb, hsb9⟩ : ∃ sb : Int, shC S3 (10 + Int.toNat (S 1 0 6)) = sb := ⟨_, rfl⟩
        have sab := sh_b (ivS3.pp kx)
        have sbb := sh_b (ivS3.pp kN)
        rw [hsa] at oa1 ksh sab
        rw [hsb9] at na1 ksh sbb
        have lv9 : LV S7 := LV_n hV hI.k.1.2 (fun b i h => by rw [qS7, if_neg (by omega), fr9 _ _ _ (by omega) (by omega) (by omega)]) (by rw [qS7, if_pos ⟨rfl, rfl, rfl⟩, en 1 (by decide), g6, v2]) (by rw [en 1 (by decide), fr9 _ _ _ (by omega) (by omega) (by omega)]) (by rw [en 2 (by decide)]; exact fe (fun b i => fr9 _ _ _ (by omega) (by omega) (by omega))) (fun a h1 h2 => by rw [en a (by omega)]; exact fe (fun b i => fr9 _ _ _ (by omega) (by omega) (by omega)))
        refine lv_iload hx hb dL_cuts_103 (lv_at hl 0 rfl) ?_
        refine lv_aload_n hx hb dL_cuts_105 rfl (lv_at hl 6 rfl) ?_
        refine lv_iconst (v := i32 (2)) hx hb dL_cuts_106 rfl ?_
        refine p_iald (k := 3) (r := 1) (n := 4) hx hb hK hP aS7_3 rfl rfl (by decide) (by decide) (by omega) (by omega) dL_cuts_107 ?_
        refine q_nm (show S7 3 1 2 = (S 3 1 2) + 1 from by rw [qS7, if_pos ⟨rfl, rfl, rfl⟩]) ?_
        refine lv_iconst (v := i32 (1)) hx hb dL_cuts_108 rfl ?_
        refine q_isub hx hb dL_cuts_109 ?_
        refine q_icmp_ne (tgt := 217) hx hb (rS _ _ _) ⟨by omega, by omega⟩ dL_cuts_110 (by decide) (fun c_8 => (by exfalso; omega)) (fun c_8 => ?_)
        refine lv_aload_n hx hb dL_cuts_113 rfl (lv_at hl 5 rfl) ?_
        refine lv_iload_n hx hb dL_cuts_114 rfl (lv_at hl 8 rfl) ?_
        refine lv_iconst (v := i32 (0)) hx hb dL_cuts_115 rfl ?_
        refine q_callH2 (As := [.ref (ad2 1 0), .int (i32 (x)), .int (i32 (0))]) (rest := []) hx hb hml hl.1 hown hK hZ hP hS (c_L_pieceIs l g base ad2 S7 x ((0 : Int)) hfl ivS7.wc hrn ⟨by decide, by decide⟩) t_266 t_14 t_268 t_267 f_yL_pieceIs ⟨Nat.le_of_ble_eq_true rfl, Nat.le_of_ble_eq_true rfl⟩ rfl rfl (Nat.le_of_ble_eq_true rfl) dL_cuts_116 (c2 := 20) (s2 := 859) ⟨by first | rfl | (dsimp only; omega), by first | rfl | (dsimp only; omega)⟩ ⟨by show 20 ≤ 2962; omega, by show 859 ≤ 18511; omega⟩ (q_an (fun H locs hP hS => ?_))
        refine q_nm (b := y1) (((lv_0 kx2 (by decide) trivial).trans (pcC_0 rfl)).trans (by rw [en _ (by omega), f1])) ?_
        refine lv_iload hx hb dL_cuts_119 (lv_at hl 3 rfl) ?_
        refine q_icmp_ne (tgt := 217) hx hb ⟨by omega, by omega⟩ ⟨by omega, by omega⟩ dL_cuts_121 (by decide) (fun c_9 => (by exfalso; omega)) (fun c_9 => ?_)
        refine lv_aload_n hx hb dL_cuts_124 rfl (lv_at hl 5 rfl) ?_
        refine lv_iload hx hb dL_cuts_125 (lv_at hl 0 rfl) ?_
        refine lv_iconst (v := i32 (0)) hx hb dL_cuts_127 rfl ?_
        refine q_callH2 (As := [.ref (ad2 1 0), .int (i32 (S 1 0 6)), .int (i32 (0))]) (rest := []) hx hb hml hl.1 hown hK hZ hP hS (c_L_pieceIs l g base ad2 S7 (S 1 0 6) ((0 : Int)) hfl ivS7.wc (rS _ _ _) ⟨by decide, by decide⟩) t_266 t_14 t_268 t_267 f_yL_pieceIs ⟨Nat.le_of_ble_eq_true rfl, Nat.le_of_ble_eq_true rfl⟩ rfl rfl (Nat.le_of_ble_eq_true rfl) dL_cuts_128 (c2 := 22) (s2 := 871) ⟨by first | rfl | (dsimp only; omega), by first | rfl | (dsimp only; omega)⟩ ⟨by show 22 ≤ 2962; omega, by show 871 ≤ 18511; omega⟩ (q_an (fun H locs hP hS => ?_))
        refine q_nm (b := S (10 + x.toNat) 0 0 - y1) (((lv_0 kN2 (by decide) trivial).trans (pcC_0 rfl)).trans (by rw [en _ (by omega), g0])) ?_
        refine lv_iload hx hb dL_cuts_131 (lv_at hl 4 rfl) ?_
        refine lv_iload hx hb dL_cuts_133 (lv_at hl 3 rfl) ?_
        refine q_isub hx hb dL_cuts_135 ?_
        refine q_icmp_ne (tgt := 217) hx hb ⟨by omega, by omega⟩ ⟨by omega, by omega⟩ dL_cuts_136 (by decide) (fun c_10 => (by exfalso; omega)) (fun c_10 => ?_)
        refine lv_aload_n hx hb dL_cuts_139 rfl (lv_at hl 5 rfl) ?_
        refine lv_iload_n hx hb dL_cuts_140 rfl (lv_at hl 8 rfl) ?_
        refine lv_iconst (v := i32 (5)) hx hb dL_cuts_141 rfl ?_
        refine q_callH2 (As := [.ref (ad2 1 0), .int (i32 (x)), .int (i32 (5))]) (rest := []) hx hb hml hl.1 hown hK hZ hP hS (c_L_pieceIs l g base ad2 S7 x ((5 : Int)) hfl ivS7.wc hrn ⟨by decide, by decide⟩) t_266 t_14 t_268 t_267 f_yL_pieceIs ⟨Nat.le_of_ble_eq_true rfl, Nat.le_of_ble_eq_true rfl⟩ rfl rfl (Nat.le_of_ble_eq_true rfl) dL_cuts_142 (c2 := 24) (s2 := 883) ⟨by first | rfl | (dsimp only; omega), by first | rfl | (dsimp only; omega)⟩ ⟨by show 24 ≤ 2962; omega, by show 883 ≤ 18511; omega⟩ (q_an (fun H locs hP hS => ?_))
        refine q_nm (b := sa) (((lv_0 kx2 (by decide) trivial).trans (pcC_5 rfl)).trans oa1) ?_
        refine lv_aload_n hx hb dL_cuts_145 rfl (lv_at hl 5 rfl) ?_
        refine lv_iload hx hb dL_cuts_146 (lv_at hl 0 rfl) ?_
        refine lv_iconst (v := i32 (5)) hx hb dL_cuts_148 rfl ?_
        refine q_callH2 (As := [.ref (ad2 1 0), .int (i32 (S 1 0 6)), .int (i32 (5))]) (rest := [.int (i32 (sa))]) hx hb hml hl.1 hown hK hZ hP hS (c_L_pieceIs l g base ad2 S7 (S 1 0 6) ((5 : Int)) hfl ivS7.wc (rS _ _ _) ⟨by decide, by decide⟩) t_266 t_14 t_268 t_267 f_yL_pieceIs ⟨Nat.le_of_ble_eq_true rfl, Nat.le_of_ble_eq_true rfl⟩ rfl rfl (Nat.le_of_ble_eq_true rfl) dL_cuts_149 (c2 := 26) (s2 := 895) ⟨by first | rfl | (dsimp only; omega), by first | rfl | (dsimp only; omega)⟩ ⟨by show 26 ≤ 2962; omega, by show 895 ≤ 18511; omega⟩ (q_an (fun H locs hP hS => ?_))
        refine q_nm (b := sb) (((lv_0 kN2 (by decide) trivial).trans (pcC_5 rfl)).trans na1) ?_
        refine q_iadd hx hb dL_cuts_152 ?_
        refine lv_iload hx hb dL_cuts_153 (lv_at hl 2 rfl) ?_
        refine q_icmp_ne (tgt := 217) hx hb ⟨by omega, by omega⟩ ⟨by omega, by omega⟩ dL_cuts_155 (by decide) (fun c_11 => (by exfalso; omega)) (fun c_11 => ?_)
        refine lv_iload hx hb dL_cuts_158 (lv_at hl 1 rfl) ?_
        refine q_if_eq (tgt := 182) hx hb ⟨by decide, by decide⟩ dL_cuts_160 (by decide) (fun h => by omega) (fun _ => ?_)
        refine lv_aload_n hx hb dL_cuts_163 rfl (lv_at hl 5 rfl) ?_
        refine lv_iload_n hx hb dL_cuts_164 rfl (lv_at hl 8 rfl) ?_
        refine q_callH2 (As := [.ref (ad2 1 0), .int (i32 (x))]) (rest := []) hx hb hml hl.1 hown hK hZ hP hS (c_L_isTrue l g base ad2 S7 x hfl ivS7.wc hrn) t_516 t_14 t_518 t_517 f_yL_isTrue ⟨Nat.le_of_ble_eq_true rfl, Nat.le_of_ble_eq_true rfl⟩ rfl rfl (Nat.le_of_ble_eq_true rfl) dL_cuts_165 (c2 := 27) (s2 := 901) ⟨by first | rfl | (dsimp only; omega), by first | rfl | (dsimp only; omega)⟩ ⟨by show 27 ≤ 2962; omega, by show 901 ≤ 18511; omega⟩ (q_an (fun H locs hP hS => ?_))
        refine q_nm (b := 1) ((lv_0 kx2 trivial trivial).trans (b2_t (oa3.mpr (ktr h_T).1))) ?_
        refine lv_iconst (v := i32 (1)) hx hb dL_cuts_168 rfl ?_
        refine q_icmp_ne (tgt := 217) hx hb ⟨by decide, by decide⟩ ⟨by decide, by decide⟩ dL_cuts_169 (by decide) (fun c_12 => (by exfalso; omega)) (fun c_12 => ?_)
        refine lv_aload_n hx hb dL_cuts_172 rfl (lv_at hl 5 rfl) ?_
        refine lv_iload hx hb dL_cuts_173 (lv_at hl 0 rfl) ?_
        refine q_callH2 (As := [.ref (ad2 1 0), .int (i32 (S 1 0 6))]) (rest := []) hx hb hml hl.1 hown hK hZ hP hS (c_L_isTrue l g base ad2 S7 (S 1 0 6) hfl ivS7.wc (rS _ _ _)) t_516 t_14 t_518 t_517 f_yL_isTrue ⟨Nat.le_of_ble_eq_true rfl, Nat.le_of_ble_eq_true rfl⟩ rfl rfl (Nat.le_of_ble_eq_true rfl) dL_cuts_175 (c2 := 28) (s2 := 907) ⟨by first | rfl | (dsimp only; omega), by first | rfl | (dsimp only; omega)⟩ ⟨by show 28 ≤ 2962; omega, by show 907 ≤ 18511; omega⟩ (q_an (fun H locs hP hS => ?_))
        refine q_nm (b := 1) ((lv_0 kN2 trivial trivial).trans (b2_t (na3.mpr (ktr h_T).2))) ?_
        refine lv_iconst (v := i32 (1)) hx hb dL_cuts_178 rfl ?_
        refine q_icmp_ne (tgt := 217) hx hb ⟨by decide, by decide⟩ ⟨by decide, by decide⟩ dL_cuts_179 (by decide) (fun h => by first | exact absurd c_12 h | exact absurd h c_12 | omega) (fun _ => ?_)
        refine lv_aload_n hx hb dL_cuts_182 rfl (lv_at hl 5 rfl) ?_
        refine lv_iload hx hb dL_cuts_183 (lv_at hl 0 rfl) ?_
        refine lv_iconst (v := i32 (0)) hx hb dL_cuts_185 rfl ?_
        refine q_callH2 (As := [.ref (ad2 1 0), .int (i32 (S 1 0 6)), .int (i32 (0))]) (rest := []) hx hb hml hl.1 hown hK hZ hP hS (c_L_weave l g base ad2 S7 (S 1 0 6) ((0 : Int)) hfl ivS7.wc (rS _ _ _) ⟨by decide, by decide⟩) t_534 t_14 t_536 t_535 f_yL_weave ⟨Nat.le_of_ble_eq_true rfl, Nat.le_of_ble_eq_true rfl⟩ rfl rfl (Nat.le_of_ble_eq_true rfl) dL_cuts_186 (c2 := 30) (s2 := 919) ⟨by first | rfl | (dsimp only; omega), by first | rfl | (dsimp only; omega)⟩ ⟨by show 30 ≤ 2962; omega, by show 919 ≤ 18511; omega⟩ (fun rr ad' S' H locs hQ hP hS => ?_)
        obtain ⟨⟨hr9, ek9⟩, hQ⟩ := hQ
        have hc9_1 : ¬ (peC S7 (S 1 0 6) ∧ (0 ≤ ((0 : Int)) ∧ ((0 : Int)) < S7 (10 + (S 1 0 6).toNat) 0 2)) := fun y => absurd y.2.2 (by rw [en _ (by omega), g2]; decide)
        have hs9 := (hQ.resolve_right (fun y9 => hc9_1 y9.1.1)).2
        subst hr9
        rw [ek9] at hP
        rw [hs9] at hP
        refine q_nm (lv_1 hc9_1) ?_
        refine q_ldc (z := -1000001) hx hb hown hK t_248 rfl dL_cuts_189 ?_
        refine q_icmp_ne (tgt := 217) hx hb ⟨by decide, by decide⟩ ⟨by decide, by decide⟩ dL_cuts_191 (by decide) (fun c_13 => (by exfalso; omega)) (fun c_13 => ?_)
        refine lv_aload_n hx hb dL_cuts_194 rfl (lv_at hl 5 rfl) ?_
        refine lv_aload_n hx hb dL_cuts_195 rfl (lv_at hl 7 rfl) ?_
        refine lv_iload_n hx hb dL_cuts_196 rfl (lv_at hl 8 rfl) ?_
        refine q_callS2 (As := [.ref (ad2 1 0), .ref (ad2 3 3), .int (i32 (x))]) (rest := []) hx hb hml hl.1 hown hK hZ hP hS (c_L_isPiece l g base ad2 S7 x hfl ivS7 kx2 lv9.2.2.2 hrn) t_329 (q_callB hK 328 14 330 t_328 t_14 t_330 f_yL_isPiece ⟨Nat.le_of_ble_eq_true rfl, Nat.le_of_ble_eq_true rfl⟩) rfl rfl (Nat.le_of_ble_eq_true rfl) dL_cuts_197 (c2 := 1490) (s2 := 9679) ⟨by first | rfl | (dsimp only; omega), by first | rfl | (dsimp only; omega)⟩ ⟨by show 1490 ≤ 2962; omega, by show 9679 ≤ 18511; omega⟩ (q_an (fun H locs hP hS => ?_))
        refine q_if_eq (tgt := 217) hx hb ⟨by decide, by decide⟩ dL_cuts_200 (by decide) (fun h => by omega) (fun _ => ?_)
        refine lv_aload_n hx hb dL_cuts_203 rfl (lv_at hl 5 rfl) ?_
        refine lv_aload_n hx hb dL_cuts_204 rfl (lv_at hl 7 rfl) ?_
        refine lv_iload hx hb dL_cuts_205 (lv_at hl 0 rfl) ?_
        refine q_callS2 (As := [.ref (ad2 1 0), .ref (ad2 3 3), .int (i32 (S 1 0 6))]) (rest := []) hx hb hml hl.1 hown hK hZ hP hS (c_L_isPiece l g base ad2 S7 (S 1 0 6) hfl ivS7 kN2 lv9.2.2.2 (rS _ _ _)) t_329 (q_callB hK 328 14 330 t_328 t_14 t_330 f_yL_isPiece ⟨Nat.le_of_ble_eq_true rfl, Nat.le_of_ble_eq_true rfl⟩) rfl rfl (Nat.le_of_ble_eq_true rfl) dL_cuts_207 (c2 := 2950) (s2 := 18439) ⟨by first | rfl | (dsimp only; omega), by first | rfl | (dsimp only; omega)⟩ ⟨by show 2950 ≤ 2962; omega, by show 18439 ≤ 18511; omega⟩ (q_an (fun H locs hP hS => ?_))
        refine q_if_eq (tgt := 217) hx hb ⟨by decide, by decide⟩ dL_cuts_210 (by decide) (fun h => by omega) (fun _ => ?_)
        refine lv_iconst (v := i32 (1)) hx hb dL_cuts_213 rfl ?_
        refine lv_goto (tgt := 218) hx hb dL_cuts_214 (by decide) ?_
        refine lv_istore (lv' := [(10, .int (i32 (1))), (9, .int (i32 (S 1 0 6))), (8, .int (i32 (1))), (7, .int (i32 (shC S (10 + x.toNat)))), (6, .int (i32 (y1))), (5, .int (i32 (S (10 + x.toNat) 0 0))), (0, .ref (ad2 1 0)), (1, .ref (ad2 3 1)), (2, .ref (ad2 3 3)), (3, .int (i32 (x))), (4, .int (i32 (y)))]) hx hb dL_cuts_218 hl (by decide) rfl (fun ls hl => ?_)
        refine lv_iload hx hb dL_cuts_220 (lv_at hl 0 rfl) ?_
        refine q_if_eq (tgt := 236) hx hb ⟨by decide, by decide⟩ dL_cuts_222 (by decide) (fun h => by omega) (fun _ => ?_)
        refine lv_iload hx hb dL_cuts_225 (lv_at hl 10 rfl) ?_
        refine lv_iconst (v := i32 (5)) hx hb dL_cuts_227 rfl ?_
        refine lv_ishr hx hb dL_cuts_228 ?_
        obtain ⟨z14, rz14, hz14⟩ := i32_of (i32 (y) >>> (i32 (5) &&& 31))
        rw [hz14]
        refine lv_iconst (v := i32 (2)) hx hb dL_cuts_229 rfl ?_
        refine q_callS2 (As := [.int (i32 (z14)), .int (i32 (2))]) (rest := []) hx hb hml hl.1 hown hK hZ hP hS (c_L_low l g base ad2 S7 z14 ((2 : Int)) rz14 (by omega)) t_122 (q_callB hK 121 14 123 t_121 t_14 t_123 f_yL_low ⟨Nat.le_of_ble_eq_true rfl, Nat.le_of_ble_eq_true rfl⟩) rfl rfl (Nat.le_of_ble_eq_true rfl) dL_cuts_230 (c2 := 2950) (s2 := 18439) ⟨by first | rfl | (dsimp only; omega), by first | rfl | (dsimp only; omega)⟩ ⟨by show 2950 ≤ 2962; omega, by show 18439 ≤ 18511; omega⟩ (q_an (fun H locs hP hS => ?_))
        obtain ⟨y15, hy15⟩ : ∃ y99 : Int, loF z14 ((2 : Int)) = y99 := ⟨_, rfl⟩
        have by15 := lo_b z14 (show 1 ≤ ((2 : Int)) by omega)
        rw [hy15] at by15
        refine q_nm hy15 ?_
        refine q_if_ne (tgt := 239) hx hb ⟨by omega, by omega⟩ dL_cuts_233 (by decide) (fun c_16 => ?_) (fun c_16 => ?_)
        · -- y15 ≠ 0
          refine lv_aload_n hx hb dL_cuts_239 rfl (lv_at hl 6 rfl) ?_
          refine lv_iload_n hx hb dL_cuts_240 rfl (lv_at hl 9 rfl) ?_
          refine lv_iload hx hb dL_cuts_241 (lv_at hl 1 rfl) ?_
          have w8 := IV_join ivS7 kx2 kN2 kne (oa2.mpr kd1) (na2.mpr kd2) (by rw [en _ (by omega), en _ (by omega), f2 _ _ (by omega), g1]) (by rw [en _ (by omega), en _ (by omega), f1, g0]; omega)
          have hjt : S7 (10 + x.toNat) 8 (S7 (10 + x.toNat) 0 0 - 1) + 1 = S7 (10 + Int.toNat (S 1 0 6)) 8 0 := by rw [en _ (by omega), en _ (by omega), f1, f2 8 _ (by omega), g8 0 (by omega) (by omega), show y1 + 0 = y1 from by omega]; exact h_T _ (by omega) (by omega)
          refine q_callH2 (As := [.ref (ad2 1 0), .int (i32 (x)), .int (i32 (S 1 0 6))]) (rest := []) hx hb hml hl.1 hown hK hZ hP hS (c_L_join l g base ad2 S7 x (S 1 0 6) hfl ivS7.wc hrn (rS _ _ _)) t_604 t_14 t_606 t_605 f_yL_join ⟨Nat.le_of_ble_eq_true rfl, Nat.le_of_ble_eq_true rfl⟩ rfl rfl (Nat.le_of_ble_eq_true rfl) dL_cuts_243 (c2 := 2955) (s2 := 18469) ⟨by first | rfl | (dsimp only; omega), by first | rfl | (dsimp only; omega)⟩ ⟨by show 2955 ≤ 2962; omega, by show 18469 ≤ 18511; omega⟩ (fun rr ad' S' H locs hQ hP hS => ?_)
          have hc9 : (peC S7 x ∧ peC S7 (S 1 0 6)) ∧ (x ≠ (S 1 0 6)) ∧ (dnC S7 (10 + x.toNat) ∧ dnC S7 (10 + (S 1 0 6).toNat) ∧ S7 (10 + x.toNat) 0 1 = S7 (10 + (S 1 0 6).toNat) 0 1 ∧ S7 (10 + x.toNat) 0 0 + S7 (10 + (S 1 0 6).toNat) 0 0 ≤ 24) := ⟨⟨kx2, kN2⟩, kne, ⟨oa2.mpr kd1, na2.mpr kd2, by rw [en _ (by omega), en _ (by omega), f2 _ _ (by omega), g1], by rw [en _ (by omega), en _ (by omega), f1, g0]; omega⟩⟩
          obtain ⟨⟨hr9, ek9⟩, hQ⟩ := hQ
          have hs9 := (hQ.resolve_left (fun y9 => y9.1 hc9)).2
          subst hr9
          rw [ek9] at hP
          rw [hs9] at hP
          refine q_nm (b := 1) ((lv_0 hc9.1 hc9.2.1 hc9.2.2).trans (b2_t (w8.2.2.2.2.1.mpr hjt))) ?_
          generalize eS17 : jnS S7 (10 + x.toNat) (10 + (S 1 0 6).toNat) (S 1 0 6) = S17 at hP
          have rS17 : ∀ (a1 b1 : Nat) (i1 : Int), rng (S17 a1 b1 i1) := fun a1 b1 i1 => hP.rg a1 b1 i1
          have ivS17 : IV S17 := by rw [← eS17]; exact w8.1
          have h3S17 : ∀ (b1 : Nat) (i1 : Int), S17 3 b1 i1 = S7 3 b1 i1 := by rw [← eS17]; exact fun b i => w8.2.1.1.1 3 b i (by omega) (by omega)
          rw [eS17] at w8
          have ht3 : trC S17 (10 + x.toNat) := w8.2.2.2.2.2.mpr ⟨oa3.mpr (ktr h_T).1, na3.mpr (ktr h_T).2, hjt⟩
          obtain ⟨-, ⟨⟨fr8, -⟩, ⟨j0, -, -⟩, -⟩, ⟨kx3, kz3⟩, jsh, -, -⟩ := w8
          have lv8 : LV S17 := LV_k lv9 (by rw [en 1 (by decide), fr9 _ _ _ (by omega) (by omega) (by omega)]; exact hI.k.1.2) (fun b i => fr8 _ _ _ (by omega) (by omega)) (fr8 _ _ _ (by omega) (by omega)) (fr8 _ _ _ (by omega) (by omega)) (fr8 _ _ _ (by omega) (by omega)) (fun j => fr8 _ _ _ (by omega) (by omega)) (fun a h1 h2 => ⟨fr8 _ _ _ (by omega) (by omega), fr8 _ _ _ (by omega) (by omega)⟩)
          refine lv_istore (lv' := [(11, .int (i32 (1))), (10, .int (i32 (1))), (9, .int (i32 (S 1 0 6))), (8, .int (i32 (1))), (7, .int (i32 (shC S (10 + x.toNat)))), (6, .int (i32 (y1))), (5, .int (i32 (S (10 + x.toNat) 0 0))), (0, .ref (ad2 1 0)), (1, .ref (ad2 3 1)), (2, .ref (ad2 3 3)), (3, .int (i32 (x))), (4, .int (i32 (y)))]) hx hb dL_cuts_246 hl (by decide) rfl (fun ls hl => ?_)
          refine lv_iload hx hb dL_cuts_248 (lv_at hl 3 rfl) ?_
          refine q_if_eq (tgt := 259) hx hb ⟨by decide, by decide⟩ dL_cuts_250 (by decide) (fun h => by omega) (fun _ => ?_)
          refine lv_iload hx hb dL_cuts_253 (lv_at hl 0 rfl) ?_
          refine lv_iconst (v := i32 (1)) hx hb dL_cuts_255 rfl ?_
          refine q_icmp_ne (tgt := 307) hx hb ⟨by decide, by decide⟩ ⟨by decide, by decide⟩ dL_cuts_256 (by decide) (fun h => by first | exact absurd c_12 h | exact absurd h c_12 | omega) (fun _ => ?_)
          refine lv_aload_n hx hb dL_cuts_259 rfl (lv_at hl 7 rfl) ?_
          refine lv_iload_n hx hb dL_cuts_260 rfl (lv_at hl 10 rfl) ?_
          refine q_callH2 (As := [.ref (ad2 1 0), .int (i32 (x))]) (rest := []) hx hb hml hl.1 hown hK hZ hP hS (c_L_isTrue l g base ad2 S17 x hfl ivS17.wc hrn) t_516 t_14 t_518 t_517 f_yL_isTrue ⟨Nat.le_of_ble_eq_true rfl, Nat.le_of_ble_eq_true rfl⟩ rfl rfl (Nat.le_of_ble_eq_true rfl) dL_cuts_261 (c2 := 2956) (s2 := 18475) ⟨by first | rfl | (dsimp only; omega), by first | rfl | (dsimp only; omega)⟩ ⟨by show 2956 ≤ 2962; omega, by show 18475 ≤ 18511; omega⟩ (q_an (fun H locs hP hS => ?_))
          refine q_nm (b := 1) ((lv_0 kx3 trivial trivial).trans (b2_t ht3)) ?_
          refine lv_iload hx hb dL_cuts_264 (lv_at hl 3 rfl) ?_
          refine q_icmp_lt (tgt := 307) hx hb ⟨by decide, by decide⟩ ⟨by decide, by decide⟩ dL_cuts_266 (by decide) (fun c_18 => (by exfalso; omega)) (fun c_18 => ?_)
          refine lv_aload_n hx hb dL_cuts_269 rfl (lv_at hl 7 rfl) ?_
          refine lv_iload_n hx hb dL_cuts_270 rfl (lv_at hl 10 rfl) ?_
          refine lv_iconst (v := i32 (0)) hx hb dL_cuts_271 rfl ?_
          refine q_callH2 (As := [.ref (ad2 1 0), .int (i32 (x)), .int (i32 (0))]) (rest := []) hx hb hml hl.1 hown hK hZ hP hS (c_L_pieceIs l g base ad2 S17 x ((0 : Int)) hfl ivS17.wc hrn ⟨by decide, by decide⟩) t_266 t_14 t_268 t_267 f_yL_pieceIs ⟨Nat.le_of_ble_eq_true rfl, Nat.le_of_ble_eq_true rfl⟩ rfl rfl (Nat.le_of_ble_eq_true rfl) dL_cuts_272 (c2 := 2958) (s2 := 18487) ⟨by first | rfl | (dsimp only; omega), by first | rfl | (dsimp only; omega)⟩ ⟨by show 2958 ≤ 2962; omega, by show 18487 ≤ 18511; omega⟩ (q_an (fun H locs hP hS => ?_))
          refine q_nm (b := S (10 + x.toNat) 0 0) (((lv_0 kx3 (by decide) trivial).trans (pcC_0 rfl)).trans (by rw [j0, en _ (by omega), en _ (by omega), f1, g0]; omega)) ?_
          refine lv_iload hx hb dL_cuts_275 (lv_at hl 6 rfl) ?_
          refine q_icmp_ne (tgt := 307) hx hb (rS _ _ _) (rS _ _ _) dL_cuts_277 (by decide) (fun c_19 => (by exfalso; omega)) (fun c_19 => ?_)
          refine lv_aload_n hx hb dL_cuts_280 rfl (lv_at hl 7 rfl) ?_
          refine lv_iload hx hb dL_cuts_281 (lv_at hl 2 rfl) ?_
          refine lv_iconst (v := i32 (0)) hx hb dL_cuts_283 rfl ?_
          refine q_callH2 (As := [.ref (ad2 1 0), .int (i32 (S 1 0 6)), .int (i32 (0))]) (rest := []) hx hb hml hl.1 hown hK hZ hP hS (c_L_pieceIs l g base ad2 S17 (S 1 0 6) ((0 : Int)) hfl ivS17.wc (rS _ _ _) ⟨by decide, by decide⟩) t_266 t_14 t_268 t_267 f_yL_pieceIs ⟨Nat.le_of_ble_eq_true rfl, Nat.le_of_ble_eq_true rfl⟩ rfl rfl (Nat.le_of_ble_eq_true rfl) dL_cuts_284 (c2 := 2960) (s2 := 18499) ⟨by first | rfl | (dsimp only; omega), by first | rfl | (dsimp only; omega)⟩ ⟨by show 2960 ≤ 2962; omega, by show 18499 ≤ 18511; omega⟩ (q_an (fun H locs hP hS => ?_))
          refine q_nm (b := -1000001) (lv_1 kz3) ?_
          refine q_ldc (z := -1000001) hx hb hown hK t_248 rfl dL_cuts_287 ?_
          refine q_icmp_ne (tgt := 307) hx hb ⟨by decide, by decide⟩ ⟨by decide, by decide⟩ dL_cuts_289 (by decide) (fun h => by first | exact absurd c_13 h | exact absurd h c_13 | omega) (fun _ => ?_)
          refine lv_aload_n hx hb dL_cuts_292 rfl (lv_at hl 7 rfl) ?_
          refine lv_iload_n hx hb dL_cuts_293 rfl (lv_at hl 10 rfl) ?_
          refine lv_iconst (v := i32 (5)) hx hb dL_cuts_294 rfl ?_
          refine q_callH2 (As := [.ref (ad2 1 0), .int (i32 (x)), .int (i32 (5))]) (rest := []) hx hb hml hl.1 hown hK hZ hP hS (c_L_pieceIs l g base ad2 S17 x ((5 : Int)) hfl ivS17.wc hrn ⟨by decide, by decide⟩) t_266 t_14 t_268 t_267 f_yL_pieceIs ⟨Nat.le_of_ble_eq_true rfl, Nat.le_of_ble_eq_true rfl⟩ rfl rfl (Nat.le_of_ble_eq_true rfl) dL_cuts_295 (c2 := 2962) (s2 := 18511) ⟨by first | rfl | (dsimp only; omega), by first | rfl | (dsimp only; omega)⟩ ⟨by show 2962 ≤ 2962; omega, by show 18511 ≤ 18511; omega⟩ (q_an (fun H locs hP hS => ?_))
          refine q_nm (b := sa + sb) (((lv_0 kx3 (by decide) trivial).trans (pcC_5 rfl)).trans (by rw [jsh, oa1, na1])) ?_
          refine lv_iload hx hb dL_cuts_298 (lv_at hl 4 rfl) ?_
          refine q_icmp_ne (tgt := 307) hx hb ⟨by omega, by omega⟩ ⟨by omega, by omega⟩ dL_cuts_300 (by decide) (fun h => by first | exact absurd c_11 h | exact absurd h c_11 | omega) (fun _ => ?_)
          refine lv_iconst (v := i32 (1)) hx hb dL_cuts_303 rfl ?_
          refine lv_goto (tgt := 308) hx hb dL_cuts_304 (by decide) ?_
          subst hQm
          exact q_zret hx hb hr hlocks hP hS (v := 1) (by decide) (by exact ⟨⟨rfl, ek_ad2⟩, ivS17, lv8⟩) (by show 2962 ≤ 2962; omega) (by show 18511 ≤ 18511; omega) dL_cuts_308
        · -- y15 = 0
          refine lv_iload hx hb dL_cuts_236 (lv_at hl 0 rfl) ?_
          subst hQm
          exact q_zret hx hb hr hlocks hP hS (v := 1) (by decide) (by exact ⟨⟨rfl, ek_ad2⟩, ivS7, lv9⟩) (by show 2950 ≤ 2962; omega) (by show 18439 ≤ 18511; omega) dL_cuts_238
      · skip
        by_cases h_D : dnC S (10 + x.toNat)
        · skip
          refine lv_aload_n hx hb dL_cuts_32 rfl (lv_at hl 4 rfl) ?_
          refine lv_iload_n hx hb dL_cuts_33 rfl (lv_at hl 7 rfl) ?_
          refine lv_iload hx hb dL_cuts_34 (lv_at hl 2 rfl) ?_
          refine q_callH2 (As := [.ref (ad 1 0), .int (i32 (x)), .int (i32 (y1))]) (rest := []) hx hb hml hl.1 hown hK hZ hP hS (c_L_cut l g base ad S x y1 hfl hI.wc hrn ⟨by omega, by omega⟩ hI.hcf hI.hpf) t_657 t_14 t_659 t_658 f_yL_cut ⟨Nat.le_of_ble_eq_true rfl, Nat.le_of_ble_eq_true rfl⟩ rfl rfl (Nat.le_of_ble_eq_true rfl) dL_cuts_36 (c2 := 16) (s2 := 835) ⟨by first | rfl | (dsimp only; omega), by first | rfl | (dsimp only; omega)⟩ ⟨by show 16 ≤ 2962; omega, by show 835 ≤ 18511; omega⟩ (fun rr ad' S' H locs hQ hP hS => ?_)
          obtain ⟨⟨hr9, ek9⟩, hQ⟩ := hQ
          have hc9_1 : peC S x ∧ (1 ≤ y1 ∧ y1 < S (10 + x.toNat) 0 0) := ⟨hpx, h_A⟩
          have hc9_2 : ¬ (dnC S (10 + x.toNat) ∧ S 1 0 6 < 20) := h_B
          have hs9 := (hQ.resolve_right (fun y9 => hc9_2 y9.1.2.1)).2
          subst hr9
          rw [hs9] at hP
          obtain ⟨ad20, had20⟩ : ∃ a9 : Nat → Nat → Nat, a9 = ad' := ⟨_, rfl⟩
          rw [← had20] at ek9 hP
          have ek_ad20 : ∀ x q, x < 4 → ad20 x q = ad x q := fun x q h => (ek9 x q h)
          have el_ad20 : ∀ x q, x < 4 → ad20 x q = ad x q := ek9
          have hl : lv_has ls 12 [(8, .int (i32 (1))), (7, .int (i32 (shC S (10 + x.toNat)))), (6, .int (i32 (y1))), (5, .int (i32 (S (10 + x.toNat) 0 0))), (0, .ref (ad20 1 0)), (1, .ref (ad20 3 1)), (2, .ref (ad20 3 3)), (3, .int (i32 (x))), (4, .int (i32 (y)))] := by
            have t9 := hl
            rw [← el_ad20 1 0 (by decide), ← el_ad20 3 1 (by decide), ← el_ad20 3 3 (by decide)] at t9
            exact t9
          skip
          refine q_nm (lv_2 hc9_1 hc9_2) ?_
          refine lv_istore (lv' := [(9, .int (i32 (-1000003))), (8, .int (i32 (1))), (7, .int (i32 (shC S (10 + x.toNat)))), (6, .int (i32 (y1))), (5, .int (i32 (S (10 + x.toNat) 0 0))), (0, .ref (ad20 1 0)), (1, .ref (ad20 3 1)), (2, .ref (ad20 3 3)), (3, .int (i32 (x))), (4, .int (i32 (y)))]) hx hb dL_cuts_39 hl (by decide) rfl (fun ls hl => ?_)
          refine lv_iload hx hb dL_cuts_41 (lv_at hl 3 rfl) ?_
          refine q_if_eq (tgt := 53) hx hb ⟨by omega, by omega⟩ dL_cuts_43 (by decide) (fun c_21 => (by exfalso; omega)) (fun c_21 => ?_)
          refine lv_iload hx hb dL_cuts_46 (lv_at hl 3 rfl) ?_
          refine lv_iload hx hb dL_cuts_48 (lv_at hl 4 rfl) ?_
          refine q_icmp_lt (tgt := 66) hx hb ⟨by omega, by omega⟩ (rS _ _ _) dL_cuts_50 (by decide) (fun c_22 => ?_) (fun c_22 => (by exfalso; omega))
          refine lv_aload_n hx hb dL_cuts_66 rfl (lv_at hl 5 rfl) ?_
          refine lv_iload_n hx hb dL_cuts_67 rfl (lv_at hl 8 rfl) ?_
          refine lv_iconst (v := i32 (3)) hx hb dL_cuts_68 rfl ?_
          refine q_callH2 (As := [.ref (ad20 1 0), .int (i32 (x)), .int (i32 (3))]) (rest := []) hx hb hml hl.1 hown hK hZ hP hS (c_L_pieceIs l g base ad20 S x ((3 : Int)) hfl hI.wc hrn ⟨by decide, by decide⟩) t_266 t_14 t_268 t_267 f_yL_pieceIs ⟨Nat.le_of_ble_eq_true rfl, Nat.le_of_ble_eq_true rfl⟩ rfl rfl (Nat.le_of_ble_eq_true rfl) dL_cuts_69 (c2 := 18) (s2 := 847) ⟨by first | rfl | (dsimp only; omega), by first | rfl | (dsimp only; omega)⟩ ⟨by show 18 ≤ 2962; omega, by show 847 ≤ 18511; omega⟩ (q_an (fun H locs hP hS => ?_))
          refine q_nm (b := 1) (((lv_0 hpx (by decide) trivial).trans (pcC_3 rfl)).trans (b2_t h_D)) ?_
          refine q_if_eq (tgt := 83) hx hb ⟨by decide, by decide⟩ dL_cuts_72 (by decide) (fun h => by omega) (fun _ => ?_)
          refine lv_aload_n hx hb dL_cuts_75 rfl (lv_at hl 6 rfl) ?_
          refine lv_iconst (v := i32 (2)) hx hb dL_cuts_76 rfl ?_
          refine p_iald (k := 3) (r := 1) (n := 4) hx hb hK hP hI.a.2.2 rfl rfl (by decide) (by decide) (by omega) (by omega) dL_cuts_77 ?_
          refine lv_bipush (v := i32 (20)) hx hb dL_cuts_78 (by decide) ?_
          refine q_icmp_ne (tgt := 96) hx hb (rS _ _ _) ⟨by decide, by decide⟩ dL_cuts_80 (by decide) (fun c_23 => (by exfalso; exact h_B ⟨h_D, by omega⟩)) (fun c_23 => ?_)
          refine lv_iload hx hb dL_cuts_83 (lv_at hl 0 rfl) ?_
          refine q_ldc (z := -1000003) hx hb hown hK t_250 rfl dL_cuts_85 ?_
          refine q_icmp_ne (tgt := 94) hx hb ⟨by decide, by decide⟩ ⟨by decide, by decide⟩ dL_cuts_87 (by decide) (fun c_24 => (by exfalso; omega)) (fun c_24 => ?_)
          refine lv_iconst (v := i32 (1)) hx hb dL_cuts_90 rfl ?_
          refine lv_goto (tgt := 95) hx hb dL_cuts_91 (by decide) ?_
          subst hQm
          exact q_zret hx hb hr hlocks hP hS (v := 1) (by decide) (by exact ⟨⟨rfl, ek_ad20⟩, hI, hV⟩) (by show 18 ≤ 2962; omega) (by show 847 ≤ 18511; omega) dL_cuts_95
        · skip
          refine lv_aload_n hx hb dL_cuts_32 rfl (lv_at hl 4 rfl) ?_
          refine lv_iload_n hx hb dL_cuts_33 rfl (lv_at hl 7 rfl) ?_
          refine lv_iload hx hb dL_cuts_34 (lv_at hl 2 rfl) ?_
          refine q_callH2 (As := [.ref (ad 1 0), .int (i32 (x)), .int (i32 (y1))]) (rest := []) hx hb hml hl.1 hown hK hZ hP hS (c_L_cut l g base ad S x y1 hfl hI.wc hrn ⟨by omega, by omega⟩ hI.hcf hI.hpf) t_657 t_14 t_659 t_658 f_yL_cut ⟨Nat.le_of_ble_eq_true rfl, Nat.le_of_ble_eq_true rfl⟩ rfl rfl (Nat.le_of_ble_eq_true rfl) dL_cuts_36 (c2 := 16) (s2 := 835) ⟨by first | rfl | (dsimp only; omega), by first | rfl | (dsimp only; omega)⟩ ⟨by show 16 ≤ 2962; omega, by show 835 ≤ 18511; omega⟩ (fun rr ad' S' H locs hQ hP hS => ?_)
          obtain ⟨⟨hr9, ek9⟩, hQ⟩ := hQ
          have hc9_1 : peC S x ∧ (1 ≤ y1 ∧ y1 < S (10 + x.toNat) 0 0) := ⟨hpx, h_A⟩
          have hc9_2 : ¬ (dnC S (10 + x.toNat) ∧ S 1 0 6 < 20) := h_B
          have hs9 := (hQ.resolve_right (fun y9 => hc9_2 y9.1.2.1)).2
          subst hr9
          rw [hs9] at hP
          obtain ⟨ad25, had25⟩ : ∃ a9 : Nat → Nat → Nat, a9 = ad' := ⟨_, rfl⟩
          rw [← had25] at ek9 hP
          have ek_ad25 : ∀ x q, x < 4 → ad25 x q = ad x q := fun x q h => (ek9 x q h)
          have el_ad25 : ∀ x q, x < 4 → ad25 x q = ad x q := ek9
          have hl : lv_has ls 12 [(8, .int (i32 (1))), (7, .int (i32 (shC S (10 + x.toNat)))), (6, .int (i32 (y1))), (5, .int (i32 (S (10 + x.toNat) 0 0))), (0, .ref (ad25 1 0)), (1, .ref (ad25 3 1)), (2, .ref (ad25 3 3)), (3, .int (i32 (x))), (4, .int (i32 (y)))] := by
            have t9 := hl
            rw [← el_ad25 1 0 (by decide), ← el_ad25 3 1 (by decide), ← el_ad25 3 3 (by decide)] at t9
            exact t9
          skip
          refine q_nm (lv_2 hc9_1 hc9_2) ?_
          refine lv_istore (lv' := [(9, .int (i32 (-1000003))), (8, .int (i32 (1))), (7, .int (i32 (shC S (10 + x.toNat)))), (6, .int (i32 (y1))), (5, .int (i32 (S (10 + x.toNat) 0 0))), (0, .ref (ad25 1 0)), (1, .ref (ad25 3 1)), (2, .ref (ad25 3 3)), (3, .int (i32 (x))), (4, .int (i32 (y)))]) hx hb dL_cuts_39 hl (by decide) rfl (fun ls hl => ?_)
          refine lv_iload hx hb dL_cuts_41 (lv_at hl 3 rfl) ?_
          refine q_if_eq (tgt := 53) hx hb ⟨by omega, by omega⟩ dL_cuts_43 (by decide) (fun c_26 => (by exfalso; omega)) (fun c_26 => ?_)
          refine lv_iload hx hb dL_cuts_46 (lv_at hl 3 rfl) ?_
          refine lv_iload hx hb dL_cuts_48 (lv_at hl 4 rfl) ?_
          refine q_icmp_lt (tgt := 66) hx hb ⟨by omega, by omega⟩ (rS _ _ _) dL_cuts_50 (by decide) (fun c_27 => ?_) (fun c_27 => (by exfalso; omega))
          refine lv_aload_n hx hb dL_cuts_66 rfl (lv_at hl 5 rfl) ?_
          refine lv_iload_n hx hb dL_cuts_67 rfl (lv_at hl 8 rfl) ?_
          refine lv_iconst (v := i32 (3)) hx hb dL_cuts_68 rfl ?_
          refine q_callH2 (As := [.ref (ad25 1 0), .int (i32 (x)), .int (i32 (3))]) (rest := []) hx hb hml hl.1 hown hK hZ hP hS (c_L_pieceIs l g base ad25 S x ((3 : Int)) hfl hI.wc hrn ⟨by decide, by decide⟩) t_266 t_14 t_268 t_267 f_yL_pieceIs ⟨Nat.le_of_ble_eq_true rfl, Nat.le_of_ble_eq_true rfl⟩ rfl rfl (Nat.le_of_ble_eq_true rfl) dL_cuts_69 (c2 := 18) (s2 := 847) ⟨by first | rfl | (dsimp only; omega), by first | rfl | (dsimp only; omega)⟩ ⟨by show 18 ≤ 2962; omega, by show 847 ≤ 18511; omega⟩ (q_an (fun H locs hP hS => ?_))
          refine q_nm (b := 0) (((lv_0 hpx (by decide) trivial).trans (pcC_3 rfl)).trans (b2_f h_D)) ?_
          refine q_if_eq (tgt := 83) hx hb ⟨by decide, by decide⟩ dL_cuts_72 (by decide) (fun _ => ?_) (fun h => by omega)
          refine lv_iload hx hb dL_cuts_83 (lv_at hl 0 rfl) ?_
          refine q_ldc (z := -1000003) hx hb hown hK t_250 rfl dL_cuts_85 ?_
          refine q_icmp_ne (tgt := 94) hx hb ⟨by decide, by decide⟩ ⟨by decide, by decide⟩ dL_cuts_87 (by decide) (fun c_28 => (by exfalso; omega)) (fun c_28 => ?_)
          refine lv_iconst (v := i32 (1)) hx hb dL_cuts_90 rfl ?_
          refine lv_goto (tgt := 95) hx hb dL_cuts_91 (by decide) ?_
          subst hQm
          exact q_zret hx hb hr hlocks hP hS (v := 1) (by decide) (by exact ⟨⟨rfl, ek_ad25⟩, hI, hV⟩) (by show 18 ≤ 2962; omega) (by show 847 ≤ 18511; omega) dL_cuts_95
    · skip
      refine lv_aload_n hx hb dL_cuts_32 rfl (lv_at hl 4 rfl) ?_
      refine lv_iload_n hx hb dL_cuts_33 rfl (lv_at hl 7 rfl) ?_
      refine lv_iload hx hb dL_cuts_34 (lv_at hl 2 rfl) ?_
      refine q_callH2 (As := [.ref (ad 1 0), .int (i32 (x)), .int (i32 (y1))]) (rest := []) hx hb hml hl.1 hown hK hZ hP hS (c_L_cut l g base ad S x y1 hfl hI.wc hrn ⟨by omega, by omega⟩ hI.hcf hI.hpf) t_657 t_14 t_659 t_658 f_yL_cut ⟨Nat.le_of_ble_eq_true rfl, Nat.le_of_ble_eq_true rfl⟩ rfl rfl (Nat.le_of_ble_eq_true rfl) dL_cuts_36 (c2 := 16) (s2 := 835) ⟨by first | rfl | (dsimp only; omega), by first | rfl | (dsimp only; omega)⟩ ⟨by show 16 ≤ 2962; omega, by show 835 ≤ 18511; omega⟩ (fun rr ad' S' H locs hQ hP hS => ?_)
      obtain ⟨⟨hr9, ek9⟩, hQ⟩ := hQ
      have hc9_1 : ¬ (peC S x ∧ (1 ≤ y1 ∧ y1 < S (10 + x.toNat) 0 0)) := fun y => h_A y.2
      have hs9 := (hQ.resolve_right (fun y9 => hc9_1 y9.1.1)).2
      subst hr9
      rw [hs9] at hP
      obtain ⟨ad29, had29⟩ : ∃ a9 : Nat → Nat → Nat, a9 = ad' := ⟨_, rfl⟩
      rw [← had29] at ek9 hP
      have ek_ad29 : ∀ x q, x < 4 → ad29 x q = ad x q := fun x q h => (ek9 x q h)
      have el_ad29 : ∀ x q, x < 4 → ad29 x q = ad x q := ek9
      have hl : lv_has ls 12 [(8, .int (i32 (1))), (7, .int (i32 (shC S (10 + x.toNat)))), (6, .int (i32 (y1))), (5, .int (i32 (S (10 + x.toNat) 0 0))), (0, .ref (ad29 1 0)), (1, .ref (ad29 3 1)), (2, .ref (ad29 3 3)), (3, .int (i32 (x))), (4, .int (i32 (y)))] := by
        have t9 := hl
        rw [← el_ad29 1 0 (by decide), ← el_ad29 3 1 (by decide), ← el_ad29 3 3 (by decide)] at t9
        exact t9
      skip
      refine q_nm (lv_1 hc9_1) ?_
      refine lv_istore (lv' := [(9, .int (i32 (-1000001))), (8, .int (i32 (1))), (7, .int (i32 (shC S (10 + x.toNat)))), (6, .int (i32 (y1))), (5, .int (i32 (S (10 + x.toNat) 0 0))), (0, .ref (ad29 1 0)), (1, .ref (ad29 3 1)), (2, .ref (ad29 3 3)), (3, .int (i32 (x))), (4, .int (i32 (y)))]) hx hb dL_cuts_39 hl (by decide) rfl (fun ls hl => ?_)
      refine lv_iload hx hb dL_cuts_41 (lv_at hl 3 rfl) ?_
      refine q_if_eq (tgt := 53) hx hb ⟨by omega, by omega⟩ dL_cuts_43 (by decide) (fun c_30 => ?_) (fun c_30 => ?_)
      · -- y1 = 0
        refine lv_iload hx hb dL_cuts_53 (lv_at hl 0 rfl) ?_
        refine q_ldc (z := -1000001) hx hb hown hK t_248 rfl dL_cuts_55 ?_
        refine q_icmp_ne (tgt := 64) hx hb ⟨by decide, by decide⟩ ⟨by decide, by decide⟩ dL_cuts_57 (by decide) (fun c_31 => (by exfalso; omega)) (fun c_31 => ?_)
        refine lv_iconst (v := i32 (1)) hx hb dL_cuts_60 rfl ?_
        refine lv_goto (tgt := 65) hx hb dL_cuts_61 (by decide) ?_
        subst hQm
        exact q_zret hx hb hr hlocks hP hS (v := 1) (by decide) (by exact ⟨⟨rfl, ek_ad29⟩, hI, hV⟩) (by show 16 ≤ 2962; omega) (by show 835 ≤ 18511; omega) dL_cuts_65
      · -- y1 ≠ 0
        refine lv_iload hx hb dL_cuts_46 (lv_at hl 3 rfl) ?_
        refine lv_iload hx hb dL_cuts_48 (lv_at hl 4 rfl) ?_
        refine q_icmp_lt (tgt := 66) hx hb ⟨by omega, by omega⟩ (rS _ _ _) dL_cuts_50 (by decide) (fun c_32 => (by exfalso; omega)) (fun c_32 => ?_)
        refine lv_iload hx hb dL_cuts_53 (lv_at hl 0 rfl) ?_
        refine q_ldc (z := -1000001) hx hb hown hK t_248 rfl dL_cuts_55 ?_
        refine q_icmp_ne (tgt := 64) hx hb ⟨by decide, by decide⟩ ⟨by decide, by decide⟩ dL_cuts_57 (by decide) (fun c_33 => (by exfalso; omega)) (fun c_33 => ?_)
        refine lv_iconst (v := i32 (1)) hx hb dL_cuts_60 rfl ?_
        refine lv_goto (tgt := 65) hx hb dL_cuts_61 (by decide) ?_
        subst hQm
        exact q_zret hx hb hr hlocks hP hS (v := 1) (by decide) (by exact ⟨⟨rfl, ek_ad29⟩, hI, hV⟩) (by show 16 ≤ 2962; omega) (by show 835 ≤ 18511; omega) dL_cuts_65
  · skip
    refine q_callH2 (As := [.ref (ad 1 0), .int (i32 (x))]) (rest := []) hx hb hml hl.1 hown hK hZ hP hS (c_L_isTrue l g base ad S x hfl hI.wc hrn) t_516 t_14 t_518 t_517 f_yL_isTrue ⟨Nat.le_of_ble_eq_true rfl, Nat.le_of_ble_eq_true rfl⟩ rfl rfl (Nat.le_of_ble_eq_true rfl) dL_cuts_27 (c2 := 5) (s2 := 30) ⟨by first | rfl | (dsimp only; omega), by first | rfl | (dsimp only; omega)⟩ ⟨by show 5 ≤ 2962; omega, by show 30 ≤ 18511; omega⟩ (q_an (fun H locs hP hS => ?_))
    refine q_nm (b := 0) ((lv_0 hpx trivial trivial).trans (b2_f h_T)) ?_
    refine lv_istore (lv' := [(8, .int (i32 (0))), (7, .int (i32 (shC S (10 + x.toNat)))), (6, .int (i32 (y1))), (5, .int (i32 (S (10 + x.toNat) 0 0))), (0, .ref (ad 1 0)), (1, .ref (ad 3 1)), (2, .ref (ad 3 3)), (3, .int (i32 (x))), (4, .int (i32 (y)))]) hx hb dL_cuts_30 hl (by decide) rfl (fun ls hl => ?_)
    by_cases h_A : 1 ≤ y1 ∧ y1 < S (10 + x.toNat) 0 0
    · skip
      by_cases h_B : dnC S (10 + x.toNat) ∧ S 1 0 6 < 20
      · skip
        refine lv_aload_n hx hb dL_cuts_32 rfl (lv_at hl 4 rfl) ?_
        refine lv_iload_n hx hb dL_cuts_33 rfl (lv_at hl 7 rfl) ?_
        refine lv_iload hx hb dL_cuts_34 (lv_at hl 2 rfl) ?_
        have w9 := IV_cut hI hpx h_A h_B.1 h_B.2
        refine q_callH2 (As := [.ref (ad 1 0), .int (i32 (x)), .int (i32 (y1))]) (rest := []) hx hb hml hl.1 hown hK hZ hP hS (c_L_cut l g base ad S x y1 hfl hI.wc hrn ⟨by omega, by omega⟩ hI.hcf hI.hpf) t_657 t_14 t_659 t_658 f_yL_cut ⟨Nat.le_of_ble_eq_true rfl, Nat.le_of_ble_eq_true rfl⟩ rfl rfl (Nat.le_of_ble_eq_true rfl) dL_cuts_36 (c2 := 16) (s2 := 835) ⟨by first | rfl | (dsimp only; omega), by first | rfl | (dsimp only; omega)⟩ ⟨by show 16 ≤ 2962; omega, by show 835 ≤ 18511; omega⟩ (fun rr ad' S' H locs hQ hP hS => ?_)
        have hc9 : (peC S x ∧ (1 ≤ y1 ∧ y1 < S (10 + x.toNat) 0 0)) ∧ (dnC S (10 + x.toNat) ∧ S 1 0 6 < 20) ∧ (True) := ⟨⟨hpx, h_A⟩, h_B, trivial⟩
        obtain ⟨⟨hr9, ek9⟩, hQ⟩ := hQ
        have hs9 := (hQ.resolve_left (fun y9 => y9.1 hc9)).2
        subst hr9
        rw [hs9] at hP
        refine q_nm (b := S 1 0 6) ((lv_0 hc9.1 hc9.2.1 hc9.2.2).trans (rfl)) ?_
        obtain ⟨ad34, had34⟩ : ∃ a9 : Nat → Nat → Nat, a9 = ad' := ⟨_, rfl⟩
        rw [← had34] at ek9 hP
        have ek_ad34 : ∀ x q, x < 4 → ad34 x q = ad x q := fun x q h => (ek9 x q h)
        have el_ad34 : ∀ x q, x < 4 → ad34 x q = ad x q := ek9
        have hl : lv_has ls 12 [(8, .int (i32 (0))), (7, .int (i32 (shC S (10 + x.toNat)))), (6, .int (i32 (y1))), (5, .int (i32 (S (10 + x.toNat) 0 0))), (0, .ref (ad34 1 0)), (1, .ref (ad34 3 1)), (2, .ref (ad34 3 3)), (3, .int (i32 (x))), (4, .int (i32 (y)))] := by
          have t9 := hl
          rw [← el_ad34 1 0 (by decide), ← el_ad34 3 1 (by decide), ← el_ad34 3 3 (by decide)] at t9
          exact t9
        skip
        generalize eS35 : cuS S x y1 = S35 at hP
        have rS35 : ∀ (a1 b1 : Nat) (i1 : Int), rng (S35 a1 b1 i1) := fun a1 b1 i1 => hP.rg a1 b1 i1
        have ivS35 : IV S35 := by rw [← eS35]; exact w9.1
        have h3S35 : ∀ (b1 : Nat) (i1 : Int), S35 3 b1 i1 = S 3 b1 i1 := by rw [← eS35]; exact fun b i => w9.2.1.1.1 3 b i (by omega) (by omega) (by omega)
        rw [eS35] at w9
        obtain ⟨-, hcu, ⟨kx, kN, kne⟩, ⟨kd1, kd2⟩, ksh, ktr⟩ := w9
        obtain ⟨⟨fr9, g6, g7⟩, ⟨f1, f2⟩, ⟨g0, g1, g2, ga⟩, -, g8, -⟩ := id hcu
        refine lv_istore (lv' := [(9, .int (i32 (S 1 0 6))), (8, .int (i32 (0))), (7, .int (i32 (shC S (10 + x.toNat)))), (6, .int (i32 (y1))), (5, .int (i32 (S (10 + x.toNat) 0 0))), (0, .ref (ad34 1 0)), (1, .ref (ad34 3 1)), (2, .ref (ad34 3 3)), (3, .int (i32 (x))), (4, .int (i32 (y)))]) hx hb dL_cuts_39 hl (by decide) rfl (fun ls hl => ?_)
        refine lv_iload hx hb dL_cuts_41 (lv_at hl 3 rfl) ?_
        refine q_if_eq (tgt := 53) hx hb ⟨by omega, by omega⟩ dL_cuts_43 (by decide) (fun c_36 => (by exfalso; omega)) (fun c_36 => ?_)
        refine lv_iload hx hb dL_cuts_46 (lv_at hl 3 rfl) ?_
        refine lv_iload hx hb dL_cuts_48 (lv_at hl 4 rfl) ?_
        refine q_icmp_lt (tgt := 66) hx hb ⟨by omega, by omega⟩ (rS _ _ _) dL_cuts_50 (by decide) (fun c_37 => ?_) (fun c_37 => (by exfalso; omega))
        refine lv_aload_n hx hb dL_cuts_66 rfl (lv_at hl 5 rfl) ?_
        refine lv_iload_n hx hb dL_cuts_67 rfl (lv_at hl 8 rfl) ?_
        refine lv_iconst (v := i32 (3)) hx hb dL_cuts_68 rfl ?_
        refine q_callH2 (As := [.ref (ad34 1 0), .int (i32 (x)), .int (i32 (3))]) (rest := []) hx hb hml hl.1 hown hK hZ hP hS (c_L_pieceIs l g base ad34 S35 x ((3 : Int)) hfl ivS35.wc hrn ⟨by decide, by decide⟩) t_266 t_14 t_268 t_267 f_yL_pieceIs ⟨Nat.le_of_ble_eq_true rfl, Nat.le_of_ble_eq_true rfl⟩ rfl rfl (Nat.le_of_ble_eq_true rfl) dL_cuts_69 (c2 := 18) (s2 := 847) ⟨by first | rfl | (dsimp only; omega), by first | rfl | (dsimp only; omega)⟩ ⟨by show 18 ≤ 2962; omega, by show 847 ≤ 18511; omega⟩ (q_an (fun H locs hP hS => ?_))
        refine q_nm (b := 1) (((lv_0 kx (by decide) trivial).trans (pcC_3 rfl)).trans (b2_t kd1)) ?_
        refine q_if_eq (tgt := 83) hx hb ⟨by decide, by decide⟩ dL_cuts_72 (by decide) (fun h => by omega) (fun _ => ?_)
        refine lv_aload_n hx hb dL_cuts_75 rfl (lv_at hl 6 rfl) ?_
        refine lv_iconst (v := i32 (2)) hx hb dL_cuts_76 rfl ?_
        refine p_iald (k := 3) (r := 1) (n := 4) hx hb hK hP ivS35.a.2.2 rfl rfl (by decide) (by decide) (by omega) (by omega) dL_cuts_77 ?_
        refine q_nm (show S35 3 1 2 = S 3 1 2 from by rw [h3S35]) ?_
        refine lv_bipush (v := i32 (20)) hx hb dL_cuts_78 (by decide) ?_
        refine q_icmp_ne (tgt := 96) hx hb (rS _ _ _) ⟨by decide, by decide⟩ dL_cuts_80 (by decide) (fun c_38 => ?_) (fun c_38 => (by exfalso; omega))
        refine lv_aload_n hx hb dL_cuts_96 rfl (lv_at hl 6 rfl) ?_
        refine lv_iconst (v := i32 (2)) hx hb dL_cuts_97 rfl ?_
        refine lv_dup2_11 hx hb dL_cuts_98 rfl rfl ?_
        refine p_iald (k := 3) (r := 1) (n := 4) hx hb hK hP ivS35.a.2.2 rfl rfl (by decide) (by decide) (by omega) (by omega) dL_cuts_99 ?_
        refine q_nm (show S35 3 1 2 = S 3 1 2 from by rw [h3S35]) ?_
        refine lv_iconst (v := i32 (1)) hx hb dL_cuts_100 rfl ?_
        refine q_iadd hx hb dL_cuts_101 ?_
        refine p_iast (k := 3) (r := 1) (n := 4) hx hb hK hP hS ivS35.a.2.2 rfl rfl (by decide) (by decide) (by omega) (by omega) ⟨by omega, by omega⟩ dL_cuts_102 (fun H locs hP hS => ?_)
        generalize eS39 : st S35 3 1 2 ((S 3 1 2) + 1) = S39 at hP
        have qS39 : ∀ (a1 b1 : Nat) (i1 : Int), S39 a1 b1 i1 = if a1 = 3 ∧ b1 = 1 ∧ i1 = 2 then (S 3 1 2) + 1 else S35 a1 b1 i1 := fun a1 b1 i1 => by rw [← eS39]; exact st_at _ _ _ _ _ _ _ _
        have rS39 : ∀ (a1 b1 : Nat) (i1 : Int), rng (S39 a1 b1 i1) := fun a1 b1 i1 => hP.rg a1 b1 i1
        have aS39_1 : S39 1 0 (-1) = 1 := by rw [qS39, if_neg (by omega)]; exact ivS35.a.1
        have aS39_2 : S39 2 0 (-1) = 1 := by rw [qS39, if_neg (by omega)]; exact ivS35.a.2.1
        have aS39_3 : S39 3 0 (-1) = 1 := by rw [qS39, if_neg (by omega)]; exact ivS35.a.2.2
        have ivS39 : IV S39 := by rw [← eS39]; exact IV_3 ivS35 (by decide)
        have en : ∀ a : Nat, a ≠ 3 → S39 a = S35 a := fun a h => fe (fun b i => by rw [qS39, if_neg (by omega)])
        have kx2 : peC S39 x := pe_k kx (by rw [en 1 (by decide)])
        have kN2 : peC S39 (S 1 0 6) := pe_k kN (by rw [en 1 (by decide)])
        obtain ⟨oa1, oa2, oa3⟩ := ob_k (en (10 + x.toNat) (by omega))
        obtain ⟨na1, na2, na3⟩ := ob_k (en (10 + Int.toNat (S 1 0 6)) (by omega))
        obtain ⟨sa, hsa⟩ : ∃ sa : Int, shC S35 (10 + x.toNat) = sa := ⟨_, rfl⟩
        obtain ⟨sb, hsb9⟩ : ∃ sb : Int, shC S35 (10 + Int.toNat (S 1 0 6)) = sb := ⟨_, rfl⟩
        have sab := sh_b (ivS35.pp kx)
        have sbb := sh_b (ivS35.pp kN)
        rw [hsa] at oa1 ksh sab
        rw [hsb9] at na1 ksh sbb
        have lv9 : LV S39 := LV_n hV hI.k.1.2 (fun b i h => by rw [qS39, if_neg (by omega), fr9 _ _ _ (by omega) (by omega) (by omega)]) (by rw [qS39, if_pos ⟨rfl, rfl, rfl⟩, en 1 (by decide), g6, v2]) (by rw [en 1 (by decide), fr9 _ _ _ (by omega) (by omega) (by omega)]) (by rw [en 2 (by decide)]; exact fe (fun b i => fr9 _ _ _ (by omega) (by omega) (by omega))) (fun a h1 h2 => by rw [en a (by omega)]; exact fe (fun b i => fr9 _ _ _ (by omega) (by omega) (by omega)))
        refine lv_iload hx hb dL_cuts_103 (lv_at hl 0 rfl) ?_
        refine lv_aload_n hx hb dL_cuts_105 rfl (lv_at hl 6 rfl) ?_
        refine lv_iconst (v := i32 (2)) hx hb dL_cuts_106 rfl ?_
        refine p_iald (k := 3) (r := 1) (n := 4) hx hb hK hP aS39_3 rfl rfl (by decide) (by decide) (by omega) (by omega) dL_cuts_107 ?_
        refine q_nm (show S39 3 1 2 = (S 3 1 2) + 1 from by rw [qS39, if_pos ⟨rfl, rfl, rfl⟩]) ?_
        refine lv_iconst (v := i32 (1)) hx hb dL_cuts_108 rfl ?_
        refine q_isub hx hb dL_cuts_109 ?_
        refine q_icmp_ne (tgt := 217) hx hb (rS _ _ _) ⟨by omega, by omega⟩ dL_cuts_110 (by decide) (fun c_40 => (by exfalso; omega)) (fun c_40 => ?_)
        refine lv_aload_n hx hb dL_cuts_113 rfl (lv_at hl 5 rfl) ?_
        refine lv_iload_n hx hb dL_cuts_114 rfl (lv_at hl 8 rfl) ?_
        refine lv_iconst (v := i32 (0)) hx hb dL_cuts_115 rfl ?_
        refine q_callH2 (As := [.ref (ad34 1 0), .int (i32 (x)), .int (i32 (0))]) (rest := []) hx hb hml hl.1 hown hK hZ hP hS (c_L_pieceIs l g base ad34 S39 x ((0 : Int)) hfl ivS39.wc hrn ⟨by decide, by decide⟩) t_266 t_14 t_268 t_267 f_yL_pieceIs ⟨Nat.le_of_ble_eq_true rfl, Nat.le_of_ble_eq_true rfl⟩ rfl rfl (Nat.le_of_ble_eq_true rfl) dL_cuts_116 (c2 := 20) (s2 := 859) ⟨by first | rfl | (dsimp only; omega), by first | rfl | (dsimp only; omega)⟩ ⟨by show 20 ≤ 2962; omega, by show 859 ≤ 18511; omega⟩ (q_an (fun H locs hP hS => ?_))
        refine q_nm (b := y1) (((lv_0 kx2 (by decide) trivial).trans (pcC_0 rfl)).trans (by rw [en _ (by omega), f1])) ?_
        refine lv_iload hx hb dL_cuts_119 (lv_at hl 3 rfl) ?_
        refine q_icmp_ne (tgt := 217) hx hb ⟨by omega, by omega⟩ ⟨by omega, by omega⟩ dL_cuts_121 (by decide) (fun c_41 => (by exfalso; omega)) (fun c_41 => ?_)
        refine lv_aload_n hx hb dL_cuts_124 rfl (lv_at hl 5 rfl) ?_
        refine lv_iload hx hb dL_cuts_125 (lv_at hl 0 rfl) ?_
        refine lv_iconst (v := i32 (0)) hx hb dL_cuts_127 rfl ?_
        refine q_callH2 (As := [.ref (ad34 1 0), .int (i32 (S 1 0 6)), .int (i32 (0))]) (rest := []) hx hb hml hl.1 hown hK hZ hP hS (c_L_pieceIs l g base ad34 S39 (S 1 0 6) ((0 : Int)) hfl ivS39.wc (rS _ _ _) ⟨by decide, by decide⟩) t_266 t_14 t_268 t_267 f_yL_pieceIs ⟨Nat.le_of_ble_eq_true rfl, Nat.le_of_ble_eq_true rfl⟩ rfl rfl (Nat.le_of_ble_eq_true rfl) dL_cuts_128 (c2 := 22) (s2 := 871) ⟨by first | rfl | (dsimp only; omega), by first | rfl | (dsimp only; omega)⟩ ⟨by show 22 ≤ 2962; omega, by show 871 ≤ 18511; omega⟩ (q_an (fun H locs hP hS => ?_))
        refine q_nm (b := S (10 + x.toNat) 0 0 - y1) (((lv_0 kN2 (by decide) trivial).trans (pcC_0 rfl)).trans (by rw [en _ (by omega), g0])) ?_
        refine lv_iload hx hb dL_cuts_131 (lv_at hl 4 rfl) ?_
        refine lv_iload hx hb dL_cuts_133 (lv_at hl 3 rfl) ?_
        refine q_isub hx hb dL_cuts_135 ?_
        refine q_icmp_ne (tgt := 217) hx hb ⟨by omega, by omega⟩ ⟨by omega, by omega⟩ dL_cuts_136 (by decide) (fun c_42 => (by exfalso; omega)) (fun c_42 => ?_)
        refine lv_aload_n hx hb dL_cuts_139 rfl (lv_at hl 5 rfl) ?_
        refine lv_iload_n hx hb dL_cuts_140 rfl (lv_at hl 8 rfl) ?_
        refine lv_iconst (v := i32 (5)) hx hb dL_cuts_141 rfl ?_
        refine q_callH2 (As := [.ref (ad34 1 0), .int (i32 (x)), .int (i32 (5))]) (rest := []) hx hb hml hl.1 hown hK hZ hP hS (c_L_pieceIs l g base ad34 S39 x ((5 : Int)) hfl ivS39.wc hrn ⟨by decide, by decide⟩) t_266 t_14 t_268 t_267 f_yL_pieceIs ⟨Nat.le_of_ble_eq_true rfl, Nat.le_of_ble_eq_true rfl⟩ rfl rfl (Nat.le_of_ble_eq_true rfl) dL_cuts_142 (c2 := 24) (s2 := 883) ⟨by first | rfl | (dsimp only; omega), by first | rfl | (dsimp only; omega)⟩ ⟨by show 24 ≤ 2962; omega, by show 883 ≤ 18511; omega⟩ (q_an (fun H locs hP hS => ?_))
        refine q_nm (b := sa) (((lv_0 kx2 (by decide) trivial).trans (pcC_5 rfl)).trans oa1) ?_
        refine lv_aload_n hx hb dL_cuts_145 rfl (lv_at hl 5 rfl) ?_
        refine lv_iload hx hb dL_cuts_146 (lv_at hl 0 rfl) ?_
        refine lv_iconst (v := i32 (5)) hx hb dL_cuts_148 rfl ?_
        refine q_callH2 (As := [.ref (ad34 1 0), .int (i32 (S 1 0 6)), .int (i32 (5))]) (rest := [.int (i32 (sa))]) hx hb hml hl.1 hown hK hZ hP hS (c_L_pieceIs l g base ad34 S39 (S 1 0 6) ((5 : Int)) hfl ivS39.wc (rS _ _ _) ⟨by decide, by decide⟩) t_266 t_14 t_268 t_267 f_yL_pieceIs ⟨Nat.le_of_ble_eq_true rfl, Nat.le_of_ble_eq_true rfl⟩ rfl rfl (Nat.le_of_ble_eq_true rfl) dL_cuts_149 (c2 := 26) (s2 := 895) ⟨by first | rfl | (dsimp only; omega), by first | rfl | (dsimp only; omega)⟩ ⟨by show 26 ≤ 2962; omega, by show 895 ≤ 18511; omega⟩ (q_an (fun H locs hP hS => ?_))
        refine q_nm (b := sb) (((lv_0 kN2 (by decide) trivial).trans (pcC_5 rfl)).trans na1) ?_
        refine q_iadd hx hb dL_cuts_152 ?_
        refine lv_iload hx hb dL_cuts_153 (lv_at hl 2 rfl) ?_
        refine q_icmp_ne (tgt := 217) hx hb ⟨by omega, by omega⟩ ⟨by omega, by omega⟩ dL_cuts_155 (by decide) (fun c_43 => (by exfalso; omega)) (fun c_43 => ?_)
        refine lv_iload hx hb dL_cuts_158 (lv_at hl 1 rfl) ?_
        refine q_if_eq (tgt := 182) hx hb ⟨by decide, by decide⟩ dL_cuts_160 (by decide) (fun _ => ?_) (fun h => by omega)
        refine lv_aload_n hx hb dL_cuts_182 rfl (lv_at hl 5 rfl) ?_
        refine lv_iload hx hb dL_cuts_183 (lv_at hl 0 rfl) ?_
        refine lv_iconst (v := i32 (0)) hx hb dL_cuts_185 rfl ?_
        refine q_callH2 (As := [.ref (ad34 1 0), .int (i32 (S 1 0 6)), .int (i32 (0))]) (rest := []) hx hb hml hl.1 hown hK hZ hP hS (c_L_weave l g base ad34 S39 (S 1 0 6) ((0 : Int)) hfl ivS39.wc (rS _ _ _) ⟨by decide, by decide⟩) t_534 t_14 t_536 t_535 f_yL_weave ⟨Nat.le_of_ble_eq_true rfl, Nat.le_of_ble_eq_true rfl⟩ rfl rfl (Nat.le_of_ble_eq_true rfl) dL_cuts_186 (c2 := 28) (s2 := 907) ⟨by first | rfl | (dsimp only; omega), by first | rfl | (dsimp only; omega)⟩ ⟨by show 28 ≤ 2962; omega, by show 907 ≤ 18511; omega⟩ (fun rr ad' S' H locs hQ hP hS => ?_)
        obtain ⟨⟨hr9, ek9⟩, hQ⟩ := hQ
        have hc9_1 : ¬ (peC S39 (S 1 0 6) ∧ (0 ≤ ((0 : Int)) ∧ ((0 : Int)) < S39 (10 + (S 1 0 6).toNat) 0 2)) := fun y => absurd y.2.2 (by rw [en _ (by omega), g2]; decide)
        have hs9 := (hQ.resolve_right (fun y9 => hc9_1 y9.1.1)).2
        subst hr9
        rw [ek9] at hP
        rw [hs9] at hP
        refine q_nm (lv_1 hc9_1) ?_
        refine q_ldc (z := -1000001) hx hb hown hK t_248 rfl dL_cuts_189 ?_
        refine q_icmp_ne (tgt := 217) hx hb ⟨by decide, by decide⟩ ⟨by decide, by decide⟩ dL_cuts_191 (by decide) (fun c_44 => (by exfalso; omega)) (fun c_44 => ?_)
        refine lv_aload_n hx hb dL_cuts_194 rfl (lv_at hl 5 rfl) ?_
        refine lv_aload_n hx hb dL_cuts_195 rfl (lv_at hl 7 rfl) ?_
        refine lv_iload_n hx hb dL_cuts_196 rfl (lv_at hl 8 rfl) ?_
        refine q_callS2 (As := [.ref (ad34 1 0), .ref (ad34 3 3), .int (i32 (x))]) (rest := []) hx hb hml hl.1 hown hK hZ hP hS (c_L_isPiece l g base ad34 S39 x hfl ivS39 kx2 lv9.2.2.2 hrn) t_329 (q_callB hK 328 14 330 t_328 t_14 t_330 f_yL_isPiece ⟨Nat.le_of_ble_eq_true rfl, Nat.le_of_ble_eq_true rfl⟩) rfl rfl (Nat.le_of_ble_eq_true rfl) dL_cuts_197 (c2 := 1488) (s2 := 9667) ⟨by first | rfl | (dsimp only; omega), by first | rfl | (dsimp only; omega)⟩ ⟨by show 1488 ≤ 2962; omega, by show 9667 ≤ 18511; omega⟩ (q_an (fun H locs hP hS => ?_))
        refine q_if_eq (tgt := 217) hx hb ⟨by decide, by decide⟩ dL_cuts_200 (by decide) (fun h => by omega) (fun _ => ?_)
        refine lv_aload_n hx hb dL_cuts_203 rfl (lv_at hl 5 rfl) ?_
        refine lv_aload_n hx hb dL_cuts_204 rfl (lv_at hl 7 rfl) ?_
        refine lv_iload hx hb dL_cuts_205 (lv_at hl 0 rfl) ?_
        refine q_callS2 (As := [.ref (ad34 1 0), .ref (ad34 3 3), .int (i32 (S 1 0 6))]) (rest := []) hx hb hml hl.1 hown hK hZ hP hS (c_L_isPiece l g base ad34 S39 (S 1 0 6) hfl ivS39 kN2 lv9.2.2.2 (rS _ _ _)) t_329 (q_callB hK 328 14 330 t_328 t_14 t_330 f_yL_isPiece ⟨Nat.le_of_ble_eq_true rfl, Nat.le_of_ble_eq_true rfl⟩) rfl rfl (Nat.le_of_ble_eq_true rfl) dL_cuts_207 (c2 := 2948) (s2 := 18427) ⟨by first | rfl | (dsimp only; omega), by first | rfl | (dsimp only; omega)⟩ ⟨by show 2948 ≤ 2962; omega, by show 18427 ≤ 18511; omega⟩ (q_an (fun H locs hP hS => ?_))
        refine q_if_eq (tgt := 217) hx hb ⟨by decide, by decide⟩ dL_cuts_210 (by decide) (fun h => by omega) (fun _ => ?_)
        refine lv_iconst (v := i32 (1)) hx hb dL_cuts_213 rfl ?_
        refine lv_goto (tgt := 218) hx hb dL_cuts_214 (by decide) ?_
        refine lv_istore (lv' := [(10, .int (i32 (1))), (9, .int (i32 (S 1 0 6))), (8, .int (i32 (0))), (7, .int (i32 (shC S (10 + x.toNat)))), (6, .int (i32 (y1))), (5, .int (i32 (S (10 + x.toNat) 0 0))), (0, .ref (ad34 1 0)), (1, .ref (ad34 3 1)), (2, .ref (ad34 3 3)), (3, .int (i32 (x))), (4, .int (i32 (y)))]) hx hb dL_cuts_218 hl (by decide) rfl (fun ls hl => ?_)
        refine lv_iload hx hb dL_cuts_220 (lv_at hl 0 rfl) ?_
        refine q_if_eq (tgt := 236) hx hb ⟨by decide, by decide⟩ dL_cuts_222 (by decide) (fun h => by omega) (fun _ => ?_)
        refine lv_iload hx hb dL_cuts_225 (lv_at hl 10 rfl) ?_
        refine lv_iconst (v := i32 (5)) hx hb dL_cuts_227 rfl ?_
        refine lv_ishr hx hb dL_cuts_228 ?_
        obtain ⟨z45, rz45, hz45⟩ := i32_of (i32 (y) >>> (i32 (5) &&& 31))
        rw [hz45]
        refine lv_iconst (v := i32 (2)) hx hb dL_cuts_229 rfl ?_
        refine q_callS2 (As := [.int (i32 (z45)), .int (i32 (2))]) (rest := []) hx hb hml hl.1 hown hK hZ hP hS (c_L_low l g base ad34 S39 z45 ((2 : Int)) rz45 (by omega)) t_122 (q_callB hK 121 14 123 t_121 t_14 t_123 f_yL_low ⟨Nat.le_of_ble_eq_true rfl, Nat.le_of_ble_eq_true rfl⟩) rfl rfl (Nat.le_of_ble_eq_true rfl) dL_cuts_230 (c2 := 2948) (s2 := 18427) ⟨by first | rfl | (dsimp only; omega), by first | rfl | (dsimp only; omega)⟩ ⟨by show 2948 ≤ 2962; omega, by show 18427 ≤ 18511; omega⟩ (q_an (fun H locs hP hS => ?_))
        obtain ⟨y46, hy46⟩ : ∃ y99 : Int, loF z45 ((2 : Int)) = y99 := ⟨_, rfl⟩
        have by46 := lo_b z45 (show 1 ≤ ((2 : Int)) by omega)
        rw [hy46] at by46
        refine q_nm hy46 ?_
        refine q_if_ne (tgt := 239) hx hb ⟨by omega, by omega⟩ dL_cuts_233 (by decide) (fun c_47 => ?_) (fun c_47 => ?_)
        · -- y46 ≠ 0
          refine lv_aload_n hx hb dL_cuts_239 rfl (lv_at hl 6 rfl) ?_
          refine lv_iload_n hx hb dL_cuts_240 rfl (lv_at hl 9 rfl) ?_
          refine lv_iload hx hb dL_cuts_241 (lv_at hl 1 rfl) ?_
          have w8 := IV_join ivS39 kx2 kN2 kne (oa2.mpr kd1) (na2.mpr kd2) (by rw [en _ (by omega), en _ (by omega), f2 _ _ (by omega), g1]) (by rw [en _ (by omega), en _ (by omega), f1, g0]; omega)
          obtain ⟨jv, hjv⟩ : ∃ jv : Int, b2 (jnS S39 (10 + x.toNat) (10 + Int.toNat (S 1 0 6)) (S 1 0 6) (10 + x.toNat) 8 (S39 (10 + x.toNat) 0 0 - 1) + 1 = jnS S39 (10 + x.toNat) (10 + Int.toNat (S 1 0 6)) (S 1 0 6) (10 + x.toNat) 8 (S39 (10 + x.toNat) 0 0)) = jv := ⟨_, rfl⟩
          have jvb : 0 ≤ jv ∧ jv ≤ 1 := by rw [← hjv]; exact b2_b _
          refine q_callH2 (As := [.ref (ad34 1 0), .int (i32 (x)), .int (i32 (S 1 0 6))]) (rest := []) hx hb hml hl.1 hown hK hZ hP hS (c_L_join l g base ad34 S39 x (S 1 0 6) hfl ivS39.wc hrn (rS _ _ _)) t_604 t_14 t_606 t_605 f_yL_join ⟨Nat.le_of_ble_eq_true rfl, Nat.le_of_ble_eq_true rfl⟩ rfl rfl (Nat.le_of_ble_eq_true rfl) dL_cuts_243 (c2 := 2953) (s2 := 18457) ⟨by first | rfl | (dsimp only; omega), by first | rfl | (dsimp only; omega)⟩ ⟨by show 2953 ≤ 2962; omega, by show 18457 ≤ 18511; omega⟩ (fun rr ad' S' H locs hQ hP hS => ?_)
          have hc9 : (peC S39 x ∧ peC S39 (S 1 0 6)) ∧ (x ≠ (S 1 0 6)) ∧ (dnC S39 (10 + x.toNat) ∧ dnC S39 (10 + (S 1 0 6).toNat) ∧ S39 (10 + x.toNat) 0 1 = S39 (10 + (S 1 0 6).toNat) 0 1 ∧ S39 (10 + x.toNat) 0 0 + S39 (10 + (S 1 0 6).toNat) 0 0 ≤ 24) := ⟨⟨kx2, kN2⟩, kne, ⟨oa2.mpr kd1, na2.mpr kd2, by rw [en _ (by omega), en _ (by omega), f2 _ _ (by omega), g1], by rw [en _ (by omega), en _ (by omega), f1, g0]; omega⟩⟩
          obtain ⟨⟨hr9, ek9⟩, hQ⟩ := hQ
          have hs9 := (hQ.resolve_left (fun y9 => y9.1 hc9)).2
          subst hr9
          rw [ek9] at hP
          rw [hs9] at hP
          refine q_nm (b := jv) ((lv_0 hc9.1 hc9.2.1 hc9.2.2).trans (hjv)) ?_
          generalize eS48 : jnS S39 (10 + x.toNat) (10 + (S 1 0 6).toNat) (S 1 0 6) = S48 at hP
          have rS48 : ∀ (a1 b1 : Nat) (i1 : Int), rng (S48 a1 b1 i1) := fun a1 b1 i1 => hP.rg a1 b1 i1
          have ivS48 : IV S48 := by rw [← eS48]; exact w8.1
          have h3S48 : ∀ (b1 : Nat) (i1 : Int), S48 3 b1 i1 = S39 3 b1 i1 := by rw [← eS48]; exact fun b i => w8.2.1.1.1 3 b i (by omega) (by omega)
          rw [eS48] at w8
          obtain ⟨-, ⟨⟨fr8, -⟩, ⟨j0, -, -⟩, -⟩, ⟨kx3, kz3⟩, jsh, -, -⟩ := w8
          have lv8 : LV S48 := LV_k lv9 (by rw [en 1 (by decide), fr9 _ _ _ (by omega) (by omega) (by omega)]; exact hI.k.1.2) (fun b i => fr8 _ _ _ (by omega) (by omega)) (fr8 _ _ _ (by omega) (by omega)) (fr8 _ _ _ (by omega) (by omega)) (fr8 _ _ _ (by omega) (by omega)) (fun j => fr8 _ _ _ (by omega) (by omega)) (fun a h1 h2 => ⟨fr8 _ _ _ (by omega) (by omega), fr8 _ _ _ (by omega) (by omega)⟩)
          refine lv_istore (lv' := [(11, .int (i32 (jv))), (10, .int (i32 (1))), (9, .int (i32 (S 1 0 6))), (8, .int (i32 (0))), (7, .int (i32 (shC S (10 + x.toNat)))), (6, .int (i32 (y1))), (5, .int (i32 (S (10 + x.toNat) 0 0))), (0, .ref (ad34 1 0)), (1, .ref (ad34 3 1)), (2, .ref (ad34 3 3)), (3, .int (i32 (x))), (4, .int (i32 (y)))]) hx hb dL_cuts_246 hl (by decide) rfl (fun ls hl => ?_)
          refine lv_iload hx hb dL_cuts_248 (lv_at hl 3 rfl) ?_
          refine q_if_eq (tgt := 259) hx hb ⟨by decide, by decide⟩ dL_cuts_250 (by decide) (fun _ => ?_) (fun h => by omega)
          refine lv_aload_n hx hb dL_cuts_259 rfl (lv_at hl 7 rfl) ?_
          refine lv_iload_n hx hb dL_cuts_260 rfl (lv_at hl 10 rfl) ?_
          obtain ⟨tv, htv⟩ : ∃ tv : Int, b2 (trC S48 (10 + x.toNat)) = tv := ⟨_, rfl⟩
          have tvb : 0 ≤ tv ∧ tv ≤ 1 := by rw [← htv]; exact b2_b _
          refine q_callH2 (As := [.ref (ad34 1 0), .int (i32 (x))]) (rest := []) hx hb hml hl.1 hown hK hZ hP hS (c_L_isTrue l g base ad34 S48 x hfl ivS48.wc hrn) t_516 t_14 t_518 t_517 f_yL_isTrue ⟨Nat.le_of_ble_eq_true rfl, Nat.le_of_ble_eq_true rfl⟩ rfl rfl (Nat.le_of_ble_eq_true rfl) dL_cuts_261 (c2 := 2954) (s2 := 18463) ⟨by first | rfl | (dsimp only; omega), by first | rfl | (dsimp only; omega)⟩ ⟨by show 2954 ≤ 2962; omega, by show 18463 ≤ 18511; omega⟩ (q_an (fun H locs hP hS => ?_))
          refine q_nm (b := tv) ((lv_0 kx3 trivial trivial).trans (htv)) ?_
          refine lv_iload hx hb dL_cuts_264 (lv_at hl 3 rfl) ?_
          refine q_icmp_lt (tgt := 307) hx hb ⟨by omega, by omega⟩ ⟨by decide, by decide⟩ dL_cuts_266 (by decide) (fun c_49 => (by exfalso; omega)) (fun c_49 => ?_)
          refine lv_aload_n hx hb dL_cuts_269 rfl (lv_at hl 7 rfl) ?_
          refine lv_iload_n hx hb dL_cuts_270 rfl (lv_at hl 10 rfl) ?_
          refine lv_iconst (v := i32 (0)) hx hb dL_cuts_271 rfl ?_
          refine q_callH2 (As := [.ref (ad34 1 0), .int (i32 (x)), .int (i32 (0))]) (rest := []) hx hb hml hl.1 hown hK hZ hP hS (c_L_pieceIs l g base ad34 S48 x ((0 : Int)) hfl ivS48.wc hrn ⟨by decide, by decide⟩) t_266 t_14 t_268 t_267 f_yL_pieceIs ⟨Nat.le_of_ble_eq_true rfl, Nat.le_of_ble_eq_true rfl⟩ rfl rfl (Nat.le_of_ble_eq_true rfl) dL_cuts_272 (c2 := 2956) (s2 := 18475) ⟨by first | rfl | (dsimp only; omega), by first | rfl | (dsimp only; omega)⟩ ⟨by show 2956 ≤ 2962; omega, by show 18475 ≤ 18511; omega⟩ (q_an (fun H locs hP hS => ?_))
          refine q_nm (b := S (10 + x.toNat) 0 0) (((lv_0 kx3 (by decide) trivial).trans (pcC_0 rfl)).trans (by rw [j0, en _ (by omega), en _ (by omega), f1, g0]; omega)) ?_
          refine lv_iload hx hb dL_cuts_275 (lv_at hl 6 rfl) ?_
          refine q_icmp_ne (tgt := 307) hx hb (rS _ _ _) (rS _ _ _) dL_cuts_277 (by decide) (fun c_50 => (by exfalso; omega)) (fun c_50 => ?_)
          refine lv_aload_n hx hb dL_cuts_280 rfl (lv_at hl 7 rfl) ?_
          refine lv_iload hx hb dL_cuts_281 (lv_at hl 2 rfl) ?_
          refine lv_iconst (v := i32 (0)) hx hb dL_cuts_283 rfl ?_
          refine q_callH2 (As := [.ref (ad34 1 0), .int (i32 (S 1 0 6)), .int (i32 (0))]) (rest := []) hx hb hml hl.1 hown hK hZ hP hS (c_L_pieceIs l g base ad34 S48 (S 1 0 6) ((0 : Int)) hfl ivS48.wc (rS _ _ _) ⟨by decide, by decide⟩) t_266 t_14 t_268 t_267 f_yL_pieceIs ⟨Nat.le_of_ble_eq_true rfl, Nat.le_of_ble_eq_true rfl⟩ rfl rfl (Nat.le_of_ble_eq_true rfl) dL_cuts_284 (c2 := 2958) (s2 := 18487) ⟨by first | rfl | (dsimp only; omega), by first | rfl | (dsimp only; omega)⟩ ⟨by show 2958 ≤ 2962; omega, by show 18487 ≤ 18511; omega⟩ (q_an (fun H locs hP hS => ?_))
          refine q_nm (b := -1000001) (lv_1 kz3) ?_
          refine q_ldc (z := -1000001) hx hb hown hK t_248 rfl dL_cuts_287 ?_
          refine q_icmp_ne (tgt := 307) hx hb ⟨by decide, by decide⟩ ⟨by decide, by decide⟩ dL_cuts_289 (by decide) (fun h => by first | exact absurd c_44 h | exact absurd h c_44 | omega) (fun _ => ?_)
          refine lv_aload_n hx hb dL_cuts_292 rfl (lv_at hl 7 rfl) ?_
          refine lv_iload_n hx hb dL_cuts_293 rfl (lv_at hl 10 rfl) ?_
          refine lv_iconst (v := i32 (5)) hx hb dL_cuts_294 rfl ?_
          refine q_callH2 (As := [.ref (ad34 1 0), .int (i32 (x)), .int (i32 (5))]) (rest := []) hx hb hml hl.1 hown hK hZ hP hS (c_L_pieceIs l g base ad34 S48 x ((5 : Int)) hfl ivS48.wc hrn ⟨by decide, by decide⟩) t_266 t_14 t_268 t_267 f_yL_pieceIs ⟨Nat.le_of_ble_eq_true rfl, Nat.le_of_ble_eq_true rfl⟩ rfl rfl (Nat.le_of_ble_eq_true rfl) dL_cuts_295 (c2 := 2960) (s2 := 18499) ⟨by first | rfl | (dsimp only; omega), by first | rfl | (dsimp only; omega)⟩ ⟨by show 2960 ≤ 2962; omega, by show 18499 ≤ 18511; omega⟩ (q_an (fun H locs hP hS => ?_))
          refine q_nm (b := sa + sb) (((lv_0 kx3 (by decide) trivial).trans (pcC_5 rfl)).trans (by rw [jsh, oa1, na1])) ?_
          refine lv_iload hx hb dL_cuts_298 (lv_at hl 4 rfl) ?_
          refine q_icmp_ne (tgt := 307) hx hb ⟨by omega, by omega⟩ ⟨by omega, by omega⟩ dL_cuts_300 (by decide) (fun h => by first | exact absurd c_43 h | exact absurd h c_43 | omega) (fun _ => ?_)
          refine lv_iconst (v := i32 (1)) hx hb dL_cuts_303 rfl ?_
          refine lv_goto (tgt := 308) hx hb dL_cuts_304 (by decide) ?_
          subst hQm
          exact q_zret hx hb hr hlocks hP hS (v := 1) (by decide) (by exact ⟨⟨rfl, ek_ad34⟩, ivS48, lv8⟩) (by show 2960 ≤ 2962; omega) (by show 18499 ≤ 18511; omega) dL_cuts_308
        · -- y46 = 0
          refine lv_iload hx hb dL_cuts_236 (lv_at hl 0 rfl) ?_
          subst hQm
          exact q_zret hx hb hr hlocks hP hS (v := 1) (by decide) (by exact ⟨⟨rfl, ek_ad34⟩, ivS39, lv9⟩) (by show 2948 ≤ 2962; omega) (by show 18427 ≤ 18511; omega) dL_cuts_238
      · skip
        by_cases h_D : dnC S (10 + x.toNat)
        · skip
          refine lv_aload_n hx hb dL_cuts_32 rfl (lv_at hl 4 rfl) ?_
          refine lv_iload_n hx hb dL_cuts_33 rfl (lv_at hl 7 rfl) ?_
          refine lv_iload hx hb dL_cuts_34 (lv_at hl 2 rfl) ?_
          refine q_callH2 (As := [.ref (ad 1 0), .int (i32 (x)), .int (i32 (y1))]) (rest := []) hx hb hml hl.1 hown hK hZ hP hS (c_L_cut l g base ad S x y1 hfl hI.wc hrn ⟨by omega, by omega⟩ hI.hcf hI.hpf) t_657 t_14 t_659 t_658 f_yL_cut ⟨Nat.le_of_ble_eq_true rfl, Nat.le_of_ble_eq_true rfl⟩ rfl rfl (Nat.le_of_ble_eq_true rfl) dL_cuts_36 (c2 := 16) (s2 := 835) ⟨by first | rfl | (dsimp only; omega), by first | rfl | (dsimp only; omega)⟩ ⟨by show 16 ≤ 2962; omega, by show 835 ≤ 18511; omega⟩ (fun rr ad' S' H locs hQ hP hS => ?_)
          obtain ⟨⟨hr9, ek9⟩, hQ⟩ := hQ
          have hc9_1 : peC S x ∧ (1 ≤ y1 ∧ y1 < S (10 + x.toNat) 0 0) := ⟨hpx, h_A⟩
          have hc9_2 : ¬ (dnC S (10 + x.toNat) ∧ S 1 0 6 < 20) := h_B
          have hs9 := (hQ.resolve_right (fun y9 => hc9_2 y9.1.2.1)).2
          subst hr9
          rw [hs9] at hP
          obtain ⟨ad51, had51⟩ : ∃ a9 : Nat → Nat → Nat, a9 = ad' := ⟨_, rfl⟩
          rw [← had51] at ek9 hP
          have ek_ad51 : ∀ x q, x < 4 → ad51 x q = ad x q := fun x q h => (ek9 x q h)
          have el_ad51 : ∀ x q, x < 4 → ad51 x q = ad x q := ek9
          have hl : lv_has ls 12 [(8, .int (i32 (0))), (7, .int (i32 (shC S (10 + x.toNat)))), (6, .int (i32 (y1))), (5, .int (i32 (S (10 + x.toNat) 0 0))), (0, .ref (ad51 1 0)), (1, .ref (ad51 3 1)), (2, .ref (ad51 3 3)), (3, .int (i32 (x))), (4, .int (i32 (y)))] := by
            have t9 := hl
            rw [← el_ad51 1 0 (by decide), ← el_ad51 3 1 (by decide), ← el_ad51 3 3 (by decide)] at t9
            exact t9
          skip
          refine q_nm (lv_2 hc9_1 hc9_2) ?_
          refine lv_istore (lv' := [(9, .int (i32 (-1000003))), (8, .int (i32 (0))), (7, .int (i32 (shC S (10 + x.toNat)))), (6, .int (i32 (y1))), (5, .int (i32 (S (10 + x.toNat) 0 0))), (0, .ref (ad51 1 0)), (1, .ref (ad51 3 1)), (2, .ref (ad51 3 3)), (3, .int (i32 (x))), (4, .int (i32 (y)))]) hx hb dL_cuts_39 hl (by decide) rfl (fun ls hl => ?_)
          refine lv_iload hx hb dL_cuts_41 (lv_at hl 3 rfl) ?_
          refine q_if_eq (tgt := 53) hx hb ⟨by omega, by omega⟩ dL_cuts_43 (by decide) (fun c_52 => (by exfalso; omega)) (fun c_52 => ?_)
          refine lv_iload hx hb dL_cuts_46 (lv_at hl 3 rfl) ?_
          refine lv_iload hx hb dL_cuts_48 (lv_at hl 4 rfl) ?_
          refine q_icmp_lt (tgt := 66) hx hb ⟨by omega, by omega⟩ (rS _ _ _) dL_cuts_50 (by decide) (fun c_53 => ?_) (fun c_53 => (by exfalso; omega))
          refine lv_aload_n hx hb dL_cuts_66 rfl (lv_at hl 5 rfl) ?_
          refine lv_iload_n hx hb dL_cuts_67 rfl (lv_at hl 8 rfl) ?_
          refine lv_iconst (v := i32 (3)) hx hb dL_cuts_68 rfl ?_
          refine q_callH2 (As := [.ref (ad51 1 0), .int (i32 (x)), .int (i32 (3))]) (rest := []) hx hb hml hl.1 hown hK hZ hP hS (c_L_pieceIs l g base ad51 S x ((3 : Int)) hfl hI.wc hrn ⟨by decide, by decide⟩) t_266 t_14 t_268 t_267 f_yL_pieceIs ⟨Nat.le_of_ble_eq_true rfl, Nat.le_of_ble_eq_true rfl⟩ rfl rfl (Nat.le_of_ble_eq_true rfl) dL_cuts_69 (c2 := 18) (s2 := 847) ⟨by first | rfl | (dsimp only; omega), by first | rfl | (dsimp only; omega)⟩ ⟨by show 18 ≤ 2962; omega, by show 847 ≤ 18511; omega⟩ (q_an (fun H locs hP hS => ?_))
          refine q_nm (b := 1) (((lv_0 hpx (by decide) trivial).trans (pcC_3 rfl)).trans (b2_t h_D)) ?_
          refine q_if_eq (tgt := 83) hx hb ⟨by decide, by decide⟩ dL_cuts_72 (by decide) (fun h => by omega) (fun _ => ?_)
          refine lv_aload_n hx hb dL_cuts_75 rfl (lv_at hl 6 rfl) ?_
          refine lv_iconst (v := i32 (2)) hx hb dL_cuts_76 rfl ?_
          refine p_iald (k := 3) (r := 1) (n := 4) hx hb hK hP hI.a.2.2 rfl rfl (by decide) (by decide) (by omega) (by omega) dL_cuts_77 ?_
          refine lv_bipush (v := i32 (20)) hx hb dL_cuts_78 (by decide) ?_
          refine q_icmp_ne (tgt := 96) hx hb (rS _ _ _) ⟨by decide, by decide⟩ dL_cuts_80 (by decide) (fun c_54 => (by exfalso; exact h_B ⟨h_D, by omega⟩)) (fun c_54 => ?_)
          refine lv_iload hx hb dL_cuts_83 (lv_at hl 0 rfl) ?_
          refine q_ldc (z := -1000003) hx hb hown hK t_250 rfl dL_cuts_85 ?_
          refine q_icmp_ne (tgt := 94) hx hb ⟨by decide, by decide⟩ ⟨by decide, by decide⟩ dL_cuts_87 (by decide) (fun c_55 => (by exfalso; omega)) (fun c_55 => ?_)
          refine lv_iconst (v := i32 (1)) hx hb dL_cuts_90 rfl ?_
          refine lv_goto (tgt := 95) hx hb dL_cuts_91 (by decide) ?_
          subst hQm
          exact q_zret hx hb hr hlocks hP hS (v := 1) (by decide) (by exact ⟨⟨rfl, ek_ad51⟩, hI, hV⟩) (by show 18 ≤ 2962; omega) (by show 847 ≤ 18511; omega) dL_cuts_95
        · skip
          refine lv_aload_n hx hb dL_cuts_32 rfl (lv_at hl 4 rfl) ?_
          refine lv_iload_n hx hb dL_cuts_33 rfl (lv_at hl 7 rfl) ?_
          refine lv_iload hx hb dL_cuts_34 (lv_at hl 2 rfl) ?_
          refine q_callH2 (As := [.ref (ad 1 0), .int (i32 (x)), .int (i32 (y1))]) (rest := []) hx hb hml hl.1 hown hK hZ hP hS (c_L_cut l g base ad S x y1 hfl hI.wc hrn ⟨by omega, by omega⟩ hI.hcf hI.hpf) t_657 t_14 t_659 t_658 f_yL_cut ⟨Nat.le_of_ble_eq_true rfl, Nat.le_of_ble_eq_true rfl⟩ rfl rfl (Nat.le_of_ble_eq_true rfl) dL_cuts_36 (c2 := 16) (s2 := 835) ⟨by first | rfl | (dsimp only; omega), by first | rfl | (dsimp only; omega)⟩ ⟨by show 16 ≤ 2962; omega, by show 835 ≤ 18511; omega⟩ (fun rr ad' S' H locs hQ hP hS => ?_)
          obtain ⟨⟨hr9, ek9⟩, hQ⟩ := hQ
          have hc9_1 : peC S x ∧ (1 ≤ y1 ∧ y1 < S (10 + x.toNat) 0 0) := ⟨hpx, h_A⟩
          have hc9_2 : ¬ (dnC S (10 + x.toNat) ∧ S 1 0 6 < 20) := h_B
          have hs9 := (hQ.resolve_right (fun y9 => hc9_2 y9.1.2.1)).2
          subst hr9
          rw [hs9] at hP
          obtain ⟨ad56, had56⟩ : ∃ a9 : Nat → Nat → Nat, a9 = ad' := ⟨_, rfl⟩
          rw [← had56] at ek9 hP
          have ek_ad56 : ∀ x q, x < 4 → ad56 x q = ad x q := fun x q h => (ek9 x q h)
          have el_ad56 : ∀ x q, x < 4 → ad56 x q = ad x q := ek9
          have hl : lv_has ls 12 [(8, .int (i32 (0))), (7, .int (i32 (shC S (10 + x.toNat)))), (6, .int (i32 (y1))), (5, .int (i32 (S (10 + x.toNat) 0 0))), (0, .ref (ad56 1 0)), (1, .ref (ad56 3 1)), (2, .ref (ad56 3 3)), (3, .int (i32 (x))), (4, .int (i32 (y)))] := by
            have t9 := hl
            rw [← el_ad56 1 0 (by decide), ← el_ad56 3 1 (by decide), ← el_ad56 3 3 (by decide)] at t9
            exact t9
          skip
          refine q_nm (lv_2 hc9_1 hc9_2) ?_
          refine lv_istore (lv' := [(9, .int (i32 (-1000003))), (8, .int (i32 (0))), (7, .int (i32 (shC S (10 + x.toNat)))), (6, .int (i32 (y1))), (5, .int (i32 (S (10 + x.toNat) 0 0))), (0, .ref (ad56 1 0)), (1, .ref (ad56 3 1)), (2, .ref (ad56 3 3)), (3, .int (i32 (x))), (4, .int (i32 (y)))]) hx hb dL_cuts_39 hl (by decide) rfl (fun ls hl => ?_)
          refine lv_iload hx hb dL_cuts_41 (lv_at hl 3 rfl) ?_
          refine q_if_eq (tgt := 53) hx hb ⟨by omega, by omega⟩ dL_cuts_43 (by decide) (fun c_57 => (by exfalso; omega)) (fun c_57 => ?_)
          refine lv_iload hx hb dL_cuts_46 (lv_at hl 3 rfl) ?_
          refine lv_iload hx hb dL_cuts_48 (lv_at hl 4 rfl) ?_
          refine q_icmp_lt (tgt := 66) hx hb ⟨by omega, by omega⟩ (rS _ _ _) dL_cuts_50 (by decide) (fun c_58 => ?_) (fun c_58 => (by exfalso; omega))
          refine lv_aload_n hx hb dL_cuts_66 rfl (lv_at hl 5 rfl) ?_
          refine lv_iload_n hx hb dL_cuts_67 rfl (lv_at hl 8 rfl) ?_
          refine lv_iconst (v := i32 (3)) hx hb dL_cuts_68 rfl ?_
          refine q_callH2 (As := [.ref (ad56 1 0), .int (i32 (x)), .int (i32 (3))]) (rest := []) hx hb hml hl.1 hown hK hZ hP hS (c_L_pieceIs l g base ad56 S x ((3 : Int)) hfl hI.wc hrn ⟨by decide, by decide⟩) t_266 t_14 t_268 t_267 f_yL_pieceIs ⟨Nat.le_of_ble_eq_true rfl, Nat.le_of_ble_eq_true rfl⟩ rfl rfl (Nat.le_of_ble_eq_true rfl) dL_cuts_69 (c2 := 18) (s2 := 847) ⟨by first | rfl | (dsimp only; omega), by first | rfl | (dsimp only; omega)⟩ ⟨by show 18 ≤ 2962; omega, by show 847 ≤ 18511; omega⟩ (q_an (fun H locs hP hS => ?_))
          refine q_nm (b := 0) (((lv_0 hpx (by decide) trivial).trans (pcC_3 rfl)).trans (b2_f h_D)) ?_
          refine q_if_eq (tgt := 83) hx hb ⟨by decide, by decide⟩ dL_cuts_72 (by decide) (fun _ => ?_) (fun h => by omega)
          refine lv_iload hx hb dL_cuts_83 (lv_at hl 0 rfl) ?_
          refine q_ldc (z := -1000003) hx hb hown hK t_250 rfl dL_cuts_85 ?_
          refine q_icmp_ne (tgt := 94) hx hb ⟨by decide, by decide⟩ ⟨by decide, by decide⟩ dL_cuts_87 (by decide) (fun c_59 => (by exfalso; omega)) (fun c_59 => ?_)
          refine lv_iconst (v := i32 (1)) hx hb dL_cuts_90 rfl ?_
          refine lv_goto (tgt := 95) hx hb dL_cuts_91 (by decide) ?_
          subst hQm
          exact q_zret hx hb hr hlocks hP hS (v := 1) (by decide) (by exact ⟨⟨rfl, ek_ad56⟩, hI, hV⟩) (by show 18 ≤ 2962; omega) (by show 847 ≤ 18511; omega) dL_cuts_95
    · skip
      refine lv_aload_n hx hb dL_cuts_32 rfl (lv_at hl 4 rfl) ?_
      refine lv_iload_n hx hb dL_cuts_33 rfl (lv_at hl 7 rfl) ?_
      refine lv_iload hx hb dL_cuts_34 (lv_at hl 2 rfl) ?_
      refine q_callH2 (As := [.ref (ad 1 0), .int (i32 (x)), .int (i32 (y1))]) (rest := []) hx hb hml hl.1 hown hK hZ hP hS (c_L_cut l g base ad S x y1 hfl hI.wc hrn ⟨by omega, by omega⟩ hI.hcf hI.hpf) t_657 t_14 t_659 t_658 f_yL_cut ⟨Nat.le_of_ble_eq_true rfl, Nat.le_of_ble_eq_true rfl⟩ rfl rfl (Nat.le_of_ble_eq_true rfl) dL_cuts_36 (c2 := 16) (s2 := 835) ⟨by first | rfl | (dsimp only; omega), by first | rfl | (dsimp only; omega)⟩ ⟨by show 16 ≤ 2962; omega, by show 835 ≤ 18511; omega⟩ (fun rr ad' S' H locs hQ hP hS => ?_)
      obtain ⟨⟨hr9, ek9⟩, hQ⟩ := hQ
      have hc9_1 : ¬ (peC S x ∧ (1 ≤ y1 ∧ y1 < S (10 + x.toNat) 0 0)) := fun y => h_A y.2
      have hs9 := (hQ.resolve_right (fun y9 => hc9_1 y9.1.1)).2
      subst hr9
      rw [hs9] at hP
      obtain ⟨ad60, had60⟩ : ∃ a9 : Nat → Nat → Nat, a9 = ad' := ⟨_, rfl⟩
      rw [← had60] at ek9 hP
      have ek_ad60 : ∀ x q, x < 4 → ad60 x q = ad x q := fun x q h => (ek9 x q h)
      have el_ad60 : ∀ x q, x < 4 → ad60 x q = ad x q := ek9
      have hl : lv_has ls 12 [(8, .int (i32 (0))), (7, .int (i32 (shC S (10 + x.toNat)))), (6, .int (i32 (y1))), (5, .int (i32 (S (10 + x.toNat) 0 0))), (0, .ref (ad60 1 0)), (1, .ref (ad60 3 1)), (2, .ref (ad60 3 3)), (3, .int (i32 (x))), (4, .int (i32 (y)))] := by
        have t9 := hl
        rw [← el_ad60 1 0 (by decide), ← el_ad60 3 1 (by decide), ← el_ad60 3 3 (by decide)] at t9
        exact t9
      skip
      refine q_nm (lv_1 hc9_1) ?_
      refine lv_istore (lv' := [(9, .int (i32 (-1000001))), (8, .int (i32 (0))), (7, .int (i32 (shC S (10 + x.toNat)))), (6, .int (i32 (y1))), (5, .int (i32 (S (10 + x.toNat) 0 0))), (0, .ref (ad60 1 0)), (1, .ref (ad60 3 1)), (2, .ref (ad60 3 3)), (3, .int (i32 (x))), (4, .int (i32 (y)))]) hx hb dL_cuts_39 hl (by decide) rfl (fun ls hl => ?_)
      refine lv_iload hx hb dL_cuts_41 (lv_at hl 3 rfl) ?_
      refine q_if_eq (tgt := 53) hx hb ⟨by omega, by omega⟩ dL_cuts_43 (by decide) (fun c_61 => ?_) (fun c_61 => ?_)
      · -- y1 = 0
        refine lv_iload hx hb dL_cuts_53 (lv_at hl 0 rfl) ?_
        refine q_ldc (z := -1000001) hx hb hown hK t_248 rfl dL_cuts_55 ?_
        refine q_icmp_ne (tgt := 64) hx hb ⟨by decide, by decide⟩ ⟨by decide, by decide⟩ dL_cuts_57 (by decide) (fun c_62 => (by exfalso; omega)) (fun c_62 => ?_)
        refine lv_iconst (v := i32 (1)) hx hb dL_cuts_60 rfl ?_
        refine lv_goto (tgt := 65) hx hb dL_cuts_61 (by decide) ?_
        subst hQm
        exact q_zret hx hb hr hlocks hP hS (v := 1) (by decide) (by exact ⟨⟨rfl, ek_ad60⟩, hI, hV⟩) (by show 16 ≤ 2962; omega) (by show 835 ≤ 18511; omega) dL_cuts_65
      · -- y1 ≠ 0
        refine lv_iload hx hb dL_cuts_46 (lv_at hl 3 rfl) ?_
        refine lv_iload hx hb dL_cuts_48 (lv_at hl 4 rfl) ?_
        refine q_icmp_lt (tgt := 66) hx hb ⟨by omega, by omega⟩ (rS _ _ _) dL_cuts_50 (by decide) (fun c_63 => (by exfalso; omega)) (fun c_63 => ?_)
        refine lv_iload hx hb dL_cuts_53 (lv_at hl 0 rfl) ?_
        refine q_ldc (z := -1000001) hx hb hown hK t_248 rfl dL_cuts_55 ?_
        refine q_icmp_ne (tgt := 64) hx hb ⟨by decide, by decide⟩ ⟨by decide, by decide⟩ dL_cuts_57 (by decide) (fun c_64 => (by exfalso; omega)) (fun c_64 => ?_)
        refine lv_iconst (v := i32 (1)) hx hb dL_cuts_60 rfl ?_
        refine lv_goto (tgt := 65) hx hb dL_cuts_61 (by decide) ?_
        subst hQm
        exact q_zret hx hb hr hlocks hP hS (v := 1) (by decide) (by exact ⟨⟨rfl, ek_ad60⟩, hI, hV⟩) (by show 16 ≤ 2962; omega) (by show 835 ≤ 18511; omega) dL_cuts_65

set_option maxHeartbeats 4000000 in
set_option maxRecDepth 100000 in
theorem c_L_joins (l : Launch) (g : GT) (base : Nat) (ad : Nat → Nat → Nat) (S : St) (x z : Int) (hfl : l.stackTraces = false) (hI : IV S) (hV : LV S) (hrn : rng x) (hrn2 : rng z) : Met l yL_joins [Cond.code yL_joins cL_joins 12 (some FieldType.boolean)] ({ frames := 10, cells := 1498, slots := 8988, locals := 192 }) (va_Pc [.ref (ad 1 0), .ref (ad 3 3), .int (i32 (x)), .int (i32 (z))] (PK g base ad S)) (gQ g base (lmP ad)) 1498 8988 (fun q => base ≤ q) := by
  refine mk_m (own := RL) (lv0 := [(0, .ref (ad 1 0)), (1, .ref (ad 3 3)), (2, .int (i32 (x))), (3, .int (i32 (z)))]) (by decide) rfl (Nat.le_of_ble_eq_true rfl) rfl ?_
  intro p e s m below meth cz av Qm hx hb hr hml hown hlocks hK hZ hP hQm ls hl
  have hS : va_S (fun q => base ≤ q) s.heap s.heap [] := va_S.rf
  have rS : ∀ (a1 b1 : Nat) (i1 : Int), rng (S a1 b1 i1) := fun a1 b1 i1 => hP.rg a1 b1 i1
  by_cases h_A : peC S x ∧ peC S z
  · skip
    by_cases h_B : x ≠ z
    · skip
      by_cases h_D : dnC S (10 + x.toNat)
      · skip
        by_cases h_E : dnC S (10 + z.toNat)
        · skip
          by_cases h_H : S (10 + x.toNat) 0 1 = S (10 + z.toNat) 0 1
          · skip
            by_cases h_W : S (10 + x.toNat) 0 0 + S (10 + z.toNat) 0 0 ≤ 24
            · skip
              by_cases h_T : trC S (10 + x.toNat)
              · skip
                by_cases h_U : trC S (10 + z.toNat)
                · skip
                  by_cases h_J : S (10 + x.toNat) 8 (S (10 + x.toNat) 0 0 - 1) + 1 = S (10 + z.toNat) 8 0
                  · skip
                    obtain ⟨-, pw8, ph8, -⟩ := (hI.pp h_A.1).1
                    obtain ⟨-, pw9, ph9, -⟩ := (hI.pp h_A.2).1
                    have hsb8 := sh_b (hI.pp h_A.1)
                    have hsb9 := sh_b (hI.pp h_A.2)
                    have hmc := mc_b (S := S) (o := 10 + x.toNat) (n := 10 + z.toNat) (by omega)
                    refine lv_aload_n hx hb dL_joins_0 rfl (lv_at hl 0 rfl) ?_
                    refine lv_iload_n hx hb dL_joins_1 rfl (lv_at hl 2 rfl) ?_
                    refine lv_iload_n hx hb dL_joins_2 rfl (lv_at hl 3 rfl) ?_
                    refine q_callH2 (As := [.ref (ad 1 0), .int (i32 (x)), .int (i32 (z))]) (rest := []) hx hb hml hl.1 hown hK hZ hP hS (c_L_match l g base ad S x z hfl hI.wc hrn hrn2) t_585 t_14 t_587 t_586 f_yL_match ⟨Nat.le_of_ble_eq_true rfl, Nat.le_of_ble_eq_true rfl⟩ rfl rfl (Nat.le_of_ble_eq_true rfl) dL_joins_3 (c2 := 4) (s2 := 24) ⟨by first | rfl | (dsimp only; omega), by first | rfl | (dsimp only; omega)⟩ ⟨by show 4 ≤ 1498; omega, by show 24 ≤ 8988; omega⟩ (q_an (fun H locs hP hS => ?_))
                    refine q_nm (b := mcC S (10 + x.toNat) (10 + z.toNat)) ((lv_0 h_A h_B ⟨h_D, h_E⟩).trans (cif_t h_H)) ?_
                    refine lv_istore (lv' := [(4, .int (i32 (mcC S (10 + x.toNat) (10 + z.toNat)))), (0, .ref (ad 1 0)), (1, .ref (ad 3 3)), (2, .int (i32 (x))), (3, .int (i32 (z)))]) hx hb dL_joins_6 hl (by decide) rfl (fun ls hl => ?_)
                    refine lv_aload_n hx hb dL_joins_8 rfl (lv_at hl 1 rfl) ?_
                    refine lv_iload_n hx hb dL_joins_9 rfl (lv_at hl 3 rfl) ?_
                    refine q_callS2 (As := [.ref (ad 1 0), .int (i32 (x))]) (rest := []) hx hb hml hl.1 hown hK hZ hP hS (c_L_isThere l g base ad S x hfl hI hrn) t_264 (q_callB hK 263 14 265 t_263 t_14 t_265 f_yL_isThere ⟨Nat.le_of_ble_eq_true rfl, Nat.le_of_ble_eq_true rfl⟩) rfl rfl (Nat.le_of_ble_eq_true rfl) dL_joins_10 (c2 := 6) (s2 := 36) ⟨by first | rfl | (dsimp only; omega), by first | rfl | (dsimp only; omega)⟩ ⟨by show 6 ≤ 1498; omega, by show 36 ≤ 8988; omega⟩ (q_an (fun H locs hP hS => ?_))
                    refine q_if_eqb (tgt := 24) hx hb dL_joins_13 (by decide) (fun c_1 => (by exfalso; exact c_1 h_A.1)) (fun c_1 => ?_)
                    refine lv_aload_n hx hb dL_joins_16 rfl (lv_at hl 1 rfl) ?_
                    refine lv_iload_n hx hb dL_joins_17 rfl (lv_at hl 4 rfl) ?_
                    refine q_callS2 (As := [.ref (ad 1 0), .int (i32 (z))]) (rest := []) hx hb hml hl.1 hown hK hZ hP hS (c_L_isThere l g base ad S z hfl hI hrn2) t_264 (q_callB hK 263 14 265 t_263 t_14 t_265 f_yL_isThere ⟨Nat.le_of_ble_eq_true rfl, Nat.le_of_ble_eq_true rfl⟩) rfl rfl (Nat.le_of_ble_eq_true rfl) dL_joins_18 (c2 := 8) (s2 := 48) ⟨by first | rfl | (dsimp only; omega), by first | rfl | (dsimp only; omega)⟩ ⟨by show 8 ≤ 1498; omega, by show 48 ≤ 8988; omega⟩ (q_an (fun H locs hP hS => ?_))
                    refine q_if_neb (tgt := 48) hx hb dL_joins_21 (by decide) (fun c_2 => ?_) (fun c_2 => (by exfalso; exact c_2 h_A.2))
                    refine lv_iload_n hx hb dL_joins_48 rfl (lv_at hl 3 rfl) ?_
                    refine lv_iload_n hx hb dL_joins_49 rfl (lv_at hl 4 rfl) ?_
                    refine q_icmp_ne (tgt := 77) hx hb hrn hrn2 dL_joins_50 (by decide) (fun _ => ?_) (fun h => by first | exact absurd h_B h | exact absurd h h_B | omega)
                    refine lv_aload_n hx hb dL_joins_77 rfl (lv_at hl 1 rfl) ?_
                    refine lv_iload_n hx hb dL_joins_78 rfl (lv_at hl 3 rfl) ?_
                    refine lv_iconst (v := i32 (0)) hx hb dL_joins_79 rfl ?_
                    refine q_callH2 (As := [.ref (ad 1 0), .int (i32 (x)), .int (i32 (0))]) (rest := []) hx hb hml hl.1 hown hK hZ hP hS (c_L_pieceIs l g base ad S x ((0 : Int)) hfl hI.wc hrn ⟨by decide, by decide⟩) t_266 t_14 t_268 t_267 f_yL_pieceIs ⟨Nat.le_of_ble_eq_true rfl, Nat.le_of_ble_eq_true rfl⟩ rfl rfl (Nat.le_of_ble_eq_true rfl) dL_joins_80 (c2 := 10) (s2 := 60) ⟨by first | rfl | (dsimp only; omega), by first | rfl | (dsimp only; omega)⟩ ⟨by show 10 ≤ 1498; omega, by show 60 ≤ 8988; omega⟩ (q_an (fun H locs hP hS => ?_))
                    refine q_nm (b := S (10 + x.toNat) 0 0) (((lv_0 h_A.1 (by decide) trivial).trans (pcC_0 rfl))) ?_
                    refine lv_aload_n hx hb dL_joins_83 rfl (lv_at hl 1 rfl) ?_
                    refine lv_iload_n hx hb dL_joins_84 rfl (lv_at hl 4 rfl) ?_
                    refine lv_iconst (v := i32 (0)) hx hb dL_joins_85 rfl ?_
                    refine q_callH2 (As := [.ref (ad 1 0), .int (i32 (z)), .int (i32 (0))]) (rest := [.int (i32 (S (10 + x.toNat) 0 0))]) hx hb hml hl.1 hown hK hZ hP hS (c_L_pieceIs l g base ad S z ((0 : Int)) hfl hI.wc hrn2 ⟨by decide, by decide⟩) t_266 t_14 t_268 t_267 f_yL_pieceIs ⟨Nat.le_of_ble_eq_true rfl, Nat.le_of_ble_eq_true rfl⟩ rfl rfl (Nat.le_of_ble_eq_true rfl) dL_joins_86 (c2 := 12) (s2 := 72) ⟨by first | rfl | (dsimp only; omega), by first | rfl | (dsimp only; omega)⟩ ⟨by show 12 ≤ 1498; omega, by show 72 ≤ 8988; omega⟩ (q_an (fun H locs hP hS => ?_))
                    refine q_nm (b := S (10 + z.toNat) 0 0) (((lv_0 h_A.2 (by decide) trivial).trans (pcC_0 rfl))) ?_
                    refine q_iadd hx hb dL_joins_89 ?_
                    refine lv_istore (lv' := [(5, .int (i32 ((S (10 + x.toNat) 0 0) + (S (10 + z.toNat) 0 0)))), (4, .int (i32 (mcC S (10 + x.toNat) (10 + z.toNat)))), (0, .ref (ad 1 0)), (1, .ref (ad 3 3)), (2, .int (i32 (x))), (3, .int (i32 (z)))]) hx hb dL_joins_90 hl (by decide) rfl (fun ls hl => ?_)
                    refine lv_aload_n hx hb dL_joins_92 rfl (lv_at hl 2 rfl) ?_
                    refine lv_iload_n hx hb dL_joins_93 rfl (lv_at hl 4 rfl) ?_
                    refine lv_iconst (v := i32 (5)) hx hb dL_joins_94 rfl ?_
                    refine q_callH2 (As := [.ref (ad 1 0), .int (i32 (x)), .int (i32 (5))]) (rest := []) hx hb hml hl.1 hown hK hZ hP hS (c_L_pieceIs l g base ad S x ((5 : Int)) hfl hI.wc hrn ⟨by decide, by decide⟩) t_266 t_14 t_268 t_267 f_yL_pieceIs ⟨Nat.le_of_ble_eq_true rfl, Nat.le_of_ble_eq_true rfl⟩ rfl rfl (Nat.le_of_ble_eq_true rfl) dL_joins_95 (c2 := 14) (s2 := 84) ⟨by first | rfl | (dsimp only; omega), by first | rfl | (dsimp only; omega)⟩ ⟨by show 14 ≤ 1498; omega, by show 84 ≤ 8988; omega⟩ (q_an (fun H locs hP hS => ?_))
                    refine q_nm (b := shC S (10 + x.toNat)) (((lv_0 h_A.1 (by decide) trivial).trans (pcC_5 rfl))) ?_
                    refine lv_aload_n hx hb dL_joins_98 rfl (lv_at hl 2 rfl) ?_
                    refine lv_iload_n hx hb dL_joins_99 rfl (lv_at hl 5 rfl) ?_
                    refine lv_iconst (v := i32 (5)) hx hb dL_joins_100 rfl ?_
                    refine q_callH2 (As := [.ref (ad 1 0), .int (i32 (z)), .int (i32 (5))]) (rest := [.int (i32 (shC S (10 + x.toNat)))]) hx hb hml hl.1 hown hK hZ hP hS (c_L_pieceIs l g base ad S z ((5 : Int)) hfl hI.wc hrn2 ⟨by decide, by decide⟩) t_266 t_14 t_268 t_267 f_yL_pieceIs ⟨Nat.le_of_ble_eq_true rfl, Nat.le_of_ble_eq_true rfl⟩ rfl rfl (Nat.le_of_ble_eq_true rfl) dL_joins_101 (c2 := 16) (s2 := 96) ⟨by first | rfl | (dsimp only; omega), by first | rfl | (dsimp only; omega)⟩ ⟨by show 16 ≤ 1498; omega, by show 96 ≤ 8988; omega⟩ (q_an (fun H locs hP hS => ?_))
                    refine q_nm (b := shC S (10 + z.toNat)) (((lv_0 h_A.2 (by decide) trivial).trans (pcC_5 rfl))) ?_
                    refine q_iadd hx hb dL_joins_104 ?_
                    refine lv_istore (lv' := [(6, .int (i32 ((shC S (10 + x.toNat)) + (shC S (10 + z.toNat))))), (5, .int (i32 ((S (10 + x.toNat) 0 0) + (S (10 + z.toNat) 0 0)))), (4, .int (i32 (mcC S (10 + x.toNat) (10 + z.toNat)))), (0, .ref (ad 1 0)), (1, .ref (ad 3 3)), (2, .int (i32 (x))), (3, .int (i32 (z)))]) hx hb dL_joins_105 hl (by decide) rfl (fun ls hl => ?_)
                    refine lv_aload_n hx hb dL_joins_107 rfl (lv_at hl 3 rfl) ?_
                    refine lv_iload_n hx hb dL_joins_108 rfl (lv_at hl 5 rfl) ?_
                    refine lv_iconst (v := i32 (1)) hx hb dL_joins_109 rfl ?_
                    refine q_callH2 (As := [.ref (ad 1 0), .int (i32 (x)), .int (i32 (1))]) (rest := []) hx hb hml hl.1 hown hK hZ hP hS (c_L_pieceIs l g base ad S x ((1 : Int)) hfl hI.wc hrn ⟨by decide, by decide⟩) t_266 t_14 t_268 t_267 f_yL_pieceIs ⟨Nat.le_of_ble_eq_true rfl, Nat.le_of_ble_eq_true rfl⟩ rfl rfl (Nat.le_of_ble_eq_true rfl) dL_joins_110 (c2 := 18) (s2 := 108) ⟨by first | rfl | (dsimp only; omega), by first | rfl | (dsimp only; omega)⟩ ⟨by show 18 ≤ 1498; omega, by show 108 ≤ 8988; omega⟩ (q_an (fun H locs hP hS => ?_))
                    refine q_nm (b := S (10 + x.toNat) 0 1) (((lv_0 h_A.1 (by decide) trivial).trans (pcC_1 rfl))) ?_
                    refine lv_istore (lv' := [(7, .int (i32 (S (10 + x.toNat) 0 1))), (6, .int (i32 ((shC S (10 + x.toNat)) + (shC S (10 + z.toNat))))), (5, .int (i32 ((S (10 + x.toNat) 0 0) + (S (10 + z.toNat) 0 0)))), (4, .int (i32 (mcC S (10 + x.toNat) (10 + z.toNat)))), (0, .ref (ad 1 0)), (1, .ref (ad 3 3)), (2, .int (i32 (x))), (3, .int (i32 (z)))]) hx hb dL_joins_113 hl (by decide) rfl (fun ls hl => ?_)
                    refine lv_iload hx hb dL_joins_115 (lv_at hl 0 rfl) ?_
                    refine lv_aload_n hx hb dL_joins_117 rfl (lv_at hl 4 rfl) ?_
                    refine lv_iload_n hx hb dL_joins_118 rfl (lv_at hl 7 rfl) ?_
                    refine lv_iconst (v := i32 (1)) hx hb dL_joins_119 rfl ?_
                    refine q_callH2 (As := [.ref (ad 1 0), .int (i32 (z)), .int (i32 (1))]) (rest := [.int (i32 (S (10 + x.toNat) 0 1))]) hx hb hml hl.1 hown hK hZ hP hS (c_L_pieceIs l g base ad S z ((1 : Int)) hfl hI.wc hrn2 ⟨by decide, by decide⟩) t_266 t_14 t_268 t_267 f_yL_pieceIs ⟨Nat.le_of_ble_eq_true rfl, Nat.le_of_ble_eq_true rfl⟩ rfl rfl (Nat.le_of_ble_eq_true rfl) dL_joins_120 (c2 := 20) (s2 := 120) ⟨by first | rfl | (dsimp only; omega), by first | rfl | (dsimp only; omega)⟩ ⟨by show 20 ≤ 1498; omega, by show 120 ≤ 8988; omega⟩ (q_an (fun H locs hP hS => ?_))
                    refine q_nm (b := S (10 + z.toNat) 0 1) (((lv_0 h_A.2 (by decide) trivial).trans (pcC_1 rfl))) ?_
                    refine q_icmp_ne (tgt := 130) hx hb (rS _ _ _) (rS _ _ _) dL_joins_123 (by decide) (fun c_3 => (by exfalso; omega)) (fun c_3 => ?_)
                    refine lv_iconst (v := i32 (1)) hx hb dL_joins_126 rfl ?_
                    refine lv_goto (tgt := 131) hx hb dL_joins_127 (by decide) ?_
                    refine lv_istore (lv' := [(8, .int (i32 (1))), (7, .int (i32 (S (10 + x.toNat) 0 1))), (6, .int (i32 ((shC S (10 + x.toNat)) + (shC S (10 + z.toNat))))), (5, .int (i32 ((S (10 + x.toNat) 0 0) + (S (10 + z.toNat) 0 0)))), (4, .int (i32 (mcC S (10 + x.toNat) (10 + z.toNat)))), (0, .ref (ad 1 0)), (1, .ref (ad 3 3)), (2, .int (i32 (x))), (3, .int (i32 (z)))]) hx hb dL_joins_131 hl (by decide) rfl (fun ls hl => ?_)
                    refine lv_aload_n hx hb dL_joins_133 rfl (lv_at hl 5 rfl) ?_
                    refine lv_iload_n hx hb dL_joins_134 rfl (lv_at hl 7 rfl) ?_
                    refine lv_iconst (v := i32 (3)) hx hb dL_joins_135 rfl ?_
                    refine q_callH2 (As := [.ref (ad 1 0), .int (i32 (x)), .int (i32 (3))]) (rest := []) hx hb hml hl.1 hown hK hZ hP hS (c_L_pieceIs l g base ad S x ((3 : Int)) hfl hI.wc hrn ⟨by decide, by decide⟩) t_266 t_14 t_268 t_267 f_yL_pieceIs ⟨Nat.le_of_ble_eq_true rfl, Nat.le_of_ble_eq_true rfl⟩ rfl rfl (Nat.le_of_ble_eq_true rfl) dL_joins_136 (c2 := 22) (s2 := 132) ⟨by first | rfl | (dsimp only; omega), by first | rfl | (dsimp only; omega)⟩ ⟨by show 22 ≤ 1498; omega, by show 132 ≤ 8988; omega⟩ (q_an (fun H locs hP hS => ?_))
                    refine q_nm (b := 1) (((lv_0 h_A.1 (by decide) trivial).trans (pcC_3 rfl)).trans (b2_t h_D)) ?_
                    refine lv_aload_n hx hb dL_joins_139 rfl (lv_at hl 5 rfl) ?_
                    refine lv_iload_n hx hb dL_joins_140 rfl (lv_at hl 8 rfl) ?_
                    refine lv_iconst (v := i32 (3)) hx hb dL_joins_141 rfl ?_
                    refine q_callH2 (As := [.ref (ad 1 0), .int (i32 (z)), .int (i32 (3))]) (rest := [.int (i32 (1))]) hx hb hml hl.1 hown hK hZ hP hS (c_L_pieceIs l g base ad S z ((3 : Int)) hfl hI.wc hrn2 ⟨by decide, by decide⟩) t_266 t_14 t_268 t_267 f_yL_pieceIs ⟨Nat.le_of_ble_eq_true rfl, Nat.le_of_ble_eq_true rfl⟩ rfl rfl (Nat.le_of_ble_eq_true rfl) dL_joins_142 (c2 := 24) (s2 := 144) ⟨by first | rfl | (dsimp only; omega), by first | rfl | (dsimp only; omega)⟩ ⟨by show 24 ≤ 1498; omega, by show 144 ≤ 8988; omega⟩ (q_an (fun H locs hP hS => ?_))
                    refine q_nm (b := 1) (((lv_0 h_A.2 (by decide) trivial).trans (pcC_3 rfl)).trans (b2_t h_E)) ?_
                    refine q_iadd hx hb dL_joins_145 ?_
                    refine q_nm (show (1 + 1 : Int) = 2 from by decide) ?_
                    refine lv_iconst (v := i32 (2)) hx hb dL_joins_146 rfl ?_
                    refine q_icmp_ne (tgt := 154) hx hb ⟨by decide, by decide⟩ ⟨by decide, by decide⟩ dL_joins_147 (by decide) (fun c_4 => (by exfalso; omega)) (fun c_4 => ?_)
                    refine lv_iconst (v := i32 (1)) hx hb dL_joins_150 rfl ?_
                    refine lv_goto (tgt := 155) hx hb dL_joins_151 (by decide) ?_
                    refine lv_istore (lv' := [(9, .int (i32 (1))), (8, .int (i32 (1))), (7, .int (i32 (S (10 + x.toNat) 0 1))), (6, .int (i32 ((shC S (10 + x.toNat)) + (shC S (10 + z.toNat))))), (5, .int (i32 ((S (10 + x.toNat) 0 0) + (S (10 + z.toNat) 0 0)))), (4, .int (i32 (mcC S (10 + x.toNat) (10 + z.toNat)))), (0, .ref (ad 1 0)), (1, .ref (ad 3 3)), (2, .int (i32 (x))), (3, .int (i32 (z)))]) hx hb dL_joins_155 hl (by decide) rfl (fun ls hl => ?_)
                    refine lv_aload_n hx hb dL_joins_157 rfl (lv_at hl 6 rfl) ?_
                    refine lv_iload_n hx hb dL_joins_158 rfl (lv_at hl 8 rfl) ?_
                    refine q_callH2 (As := [.ref (ad 1 0), .int (i32 (x))]) (rest := []) hx hb hml hl.1 hown hK hZ hP hS (c_L_isTrue l g base ad S x hfl hI.wc hrn) t_516 t_14 t_518 t_517 f_yL_isTrue ⟨Nat.le_of_ble_eq_true rfl, Nat.le_of_ble_eq_true rfl⟩ rfl rfl (Nat.le_of_ble_eq_true rfl) dL_joins_159 (c2 := 25) (s2 := 150) ⟨by first | rfl | (dsimp only; omega), by first | rfl | (dsimp only; omega)⟩ ⟨by show 25 ≤ 1498; omega, by show 150 ≤ 8988; omega⟩ (q_an (fun H locs hP hS => ?_))
                    refine q_nm (b := 1) ((lv_0 h_A.1 trivial trivial).trans (b2_t h_T)) ?_
                    refine lv_aload_n hx hb dL_joins_162 rfl (lv_at hl 6 rfl) ?_
                    refine lv_iload_n hx hb dL_joins_163 rfl (lv_at hl 9 rfl) ?_
                    refine q_callH2 (As := [.ref (ad 1 0), .int (i32 (z))]) (rest := [.int (i32 (1))]) hx hb hml hl.1 hown hK hZ hP hS (c_L_isTrue l g base ad S z hfl hI.wc hrn2) t_516 t_14 t_518 t_517 f_yL_isTrue ⟨Nat.le_of_ble_eq_true rfl, Nat.le_of_ble_eq_true rfl⟩ rfl rfl (Nat.le_of_ble_eq_true rfl) dL_joins_164 (c2 := 26) (s2 := 156) ⟨by first | rfl | (dsimp only; omega), by first | rfl | (dsimp only; omega)⟩ ⟨by show 26 ≤ 1498; omega, by show 156 ≤ 8988; omega⟩ (q_an (fun H locs hP hS => ?_))
                    refine q_nm (b := 1) ((lv_0 h_A.2 trivial trivial).trans (b2_t h_U)) ?_
                    refine q_iadd hx hb dL_joins_167 ?_
                    refine q_nm (show (1 + 1 : Int) = 2 from by decide) ?_
                    refine lv_istore (lv' := [(10, .int (i32 (2))), (9, .int (i32 (1))), (8, .int (i32 (1))), (7, .int (i32 (S (10 + x.toNat) 0 1))), (6, .int (i32 ((shC S (10 + x.toNat)) + (shC S (10 + z.toNat))))), (5, .int (i32 ((S (10 + x.toNat) 0 0) + (S (10 + z.toNat) 0 0)))), (4, .int (i32 (mcC S (10 + x.toNat) (10 + z.toNat)))), (0, .ref (ad 1 0)), (1, .ref (ad 3 3)), (2, .int (i32 (x))), (3, .int (i32 (z)))]) hx hb dL_joins_168 hl (by decide) rfl (fun ls hl => ?_)
                    refine lv_aload_n hx hb dL_joins_170 rfl (lv_at hl 7 rfl) ?_
                    refine lv_iload_n hx hb dL_joins_171 rfl (lv_at hl 9 rfl) ?_
                    refine lv_iload_n hx hb dL_joins_172 rfl (lv_at hl 10 rfl) ?_
                    have w8 := IV_join hI h_A.1 h_A.2 h_B h_D h_E h_H h_W
                    refine q_callH2 (As := [.ref (ad 1 0), .int (i32 (x)), .int (i32 (z))]) (rest := []) hx hb hml hl.1 hown hK hZ hP hS (c_L_join l g base ad S x z hfl hI.wc hrn hrn2) t_604 t_14 t_606 t_605 f_yL_join ⟨Nat.le_of_ble_eq_true rfl, Nat.le_of_ble_eq_true rfl⟩ rfl rfl (Nat.le_of_ble_eq_true rfl) dL_joins_173 (c2 := 31) (s2 := 186) ⟨by first | rfl | (dsimp only; omega), by first | rfl | (dsimp only; omega)⟩ ⟨by show 31 ≤ 1498; omega, by show 186 ≤ 8988; omega⟩ (fun rr ad' S' H locs hQ hP hS => ?_)
                    have hc9 : (peC S x ∧ peC S z) ∧ (x ≠ z) ∧ (dnC S (10 + x.toNat) ∧ dnC S (10 + z.toNat) ∧ S (10 + x.toNat) 0 1 = S (10 + z.toNat) 0 1 ∧ S (10 + x.toNat) 0 0 + S (10 + z.toNat) 0 0 ≤ 24) := ⟨h_A, h_B, ⟨h_D, h_E, h_H, h_W⟩⟩
                    obtain ⟨⟨hr9, ek9⟩, hQ⟩ := hQ
                    have hs9 := (hQ.resolve_left (fun y9 => y9.1 hc9)).2
                    subst hr9
                    rw [ek9] at hP
                    rw [hs9] at hP
                    refine q_nm (b := 1) ((lv_0 hc9.1 hc9.2.1 hc9.2.2).trans (b2_t (w8.2.2.2.2.1.mpr h_J))) ?_
                    generalize eS5 : jnS S (10 + x.toNat) (10 + z.toNat) z = S5 at hP
                    have rS5 : ∀ (a1 b1 : Nat) (i1 : Int), rng (S5 a1 b1 i1) := fun a1 b1 i1 => hP.rg a1 b1 i1
                    have ivS5 : IV S5 := by rw [← eS5]; exact w8.1
                    have h3S5 : ∀ (b1 : Nat) (i1 : Int), S5 3 b1 i1 = S 3 b1 i1 := by rw [← eS5]; exact fun b i => w8.2.1.1.1 3 b i (by omega) (by omega)
                    rw [eS5] at w8
                    obtain ⟨-, ⟨⟨fr8, -⟩, ⟨j0, -, -⟩, -⟩, ⟨kx3, kz3⟩, jsh, -, jtr⟩ := w8
                    have lv8 : LV S5 := LV_k hV hI.k.1.2 (fun b i => fr8 _ _ _ (by omega) (by omega)) (fr8 _ _ _ (by omega) (by omega)) (fr8 _ _ _ (by omega) (by omega)) (fr8 _ _ _ (by omega) (by omega)) (fun j => fr8 _ _ _ (by omega) (by omega)) (fun a h1 h2 => ⟨fr8 _ _ _ (by omega) (by omega), fr8 _ _ _ (by omega) (by omega)⟩)
                    refine lv_istore (lv' := [(11, .int (i32 (1))), (10, .int (i32 (2))), (9, .int (i32 (1))), (8, .int (i32 (1))), (7, .int (i32 (S (10 + x.toNat) 0 1))), (6, .int (i32 ((shC S (10 + x.toNat)) + (shC S (10 + z.toNat))))), (5, .int (i32 ((S (10 + x.toNat) 0 0) + (S (10 + z.toNat) 0 0)))), (4, .int (i32 (mcC S (10 + x.toNat) (10 + z.toNat)))), (0, .ref (ad 1 0)), (1, .ref (ad 3 3)), (2, .int (i32 (x))), (3, .int (i32 (z)))]) hx hb dL_joins_176 hl (by decide) rfl (fun ls hl => ?_)
                    refine lv_iload hx hb dL_joins_178 (lv_at hl 2 rfl) ?_
                    refine q_if_eq (tgt := 195) hx hb ⟨by decide, by decide⟩ dL_joins_180 (by decide) (fun h => by omega) (fun _ => ?_)
                    refine lv_iload hx hb dL_joins_183 (lv_at hl 3 rfl) ?_
                    refine q_if_eq (tgt := 195) hx hb ⟨by decide, by decide⟩ dL_joins_185 (by decide) (fun h => by omega) (fun _ => ?_)
                    refine lv_iload hx hb dL_joins_188 (lv_at hl 6 rfl) ?_
                    refine lv_bipush (v := i32 (24)) hx hb dL_joins_190 (by decide) ?_
                    refine q_icmp_le (tgt := 249) hx hb ⟨by omega, by omega⟩ ⟨by decide, by decide⟩ dL_joins_192 (by decide) (fun c_6 => ?_) (fun c_6 => (by exfalso; omega))
                    refine lv_iload hx hb dL_joins_249 (lv_at hl 7 rfl) ?_
                    refine q_if_lt (tgt := 332) hx hb ⟨by omega, by omega⟩ dL_joins_251 (by decide) (fun c_7 => (by exfalso; omega)) (fun c_7 => ?_)
                    refine lv_iload hx hb dL_joins_254 (lv_at hl 7 rfl) ?_
                    refine lv_iload hx hb dL_joins_256 (lv_at hl 4 rfl) ?_
                    refine q_icmp_gt (tgt := 332) hx hb ⟨by omega, by omega⟩ (rS _ _ _) dL_joins_258 (by decide) (fun c_8 => (by exfalso; omega)) (fun c_8 => ?_)
                    refine lv_iload hx hb dL_joins_261 (lv_at hl 0 rfl) ?_
                    refine q_if_lt (tgt := 332) hx hb ⟨by decide, by decide⟩ dL_joins_263 (by decide) (fun h => by omega) (fun _ => ?_)
                    refine lv_aload_n hx hb dL_joins_266 rfl (lv_at hl 8 rfl) ?_
                    refine lv_iload_n hx hb dL_joins_267 rfl (lv_at hl 10 rfl) ?_
                    refine lv_iconst (v := i32 (0)) hx hb dL_joins_268 rfl ?_
                    refine q_callH2 (As := [.ref (ad 1 0), .int (i32 (x)), .int (i32 (0))]) (rest := []) hx hb hml hl.1 hown hK hZ hP hS (c_L_pieceIs l g base ad S5 x ((0 : Int)) hfl ivS5.wc hrn ⟨by decide, by decide⟩) t_266 t_14 t_268 t_267 f_yL_pieceIs ⟨Nat.le_of_ble_eq_true rfl, Nat.le_of_ble_eq_true rfl⟩ rfl rfl (Nat.le_of_ble_eq_true rfl) dL_joins_269 (c2 := 33) (s2 := 198) ⟨by first | rfl | (dsimp only; omega), by first | rfl | (dsimp only; omega)⟩ ⟨by show 33 ≤ 1498; omega, by show 198 ≤ 8988; omega⟩ (q_an (fun H locs hP hS => ?_))
                    refine q_nm (b := S (10 + x.toNat) 0 0 + S (10 + z.toNat) 0 0) (((lv_0 kx3 (by decide) trivial).trans (pcC_0 rfl)).trans j0) ?_
                    refine lv_iload hx hb dL_joins_272 (lv_at hl 6 rfl) ?_
                    refine q_icmp_ne (tgt := 332) hx hb ⟨by omega, by omega⟩ ⟨by omega, by omega⟩ dL_joins_274 (by decide) (fun c_9 => (by exfalso; omega)) (fun c_9 => ?_)
                    refine lv_aload_n hx hb dL_joins_277 rfl (lv_at hl 8 rfl) ?_
                    refine lv_iload_n hx hb dL_joins_278 rfl (lv_at hl 10 rfl) ?_
                    refine lv_iconst (v := i32 (5)) hx hb dL_joins_279 rfl ?_
                    refine q_callH2 (As := [.ref (ad 1 0), .int (i32 (x)), .int (i32 (5))]) (rest := []) hx hb hml hl.1 hown hK hZ hP hS (c_L_pieceIs l g base ad S5 x ((5 : Int)) hfl ivS5.wc hrn ⟨by decide, by decide⟩) t_266 t_14 t_268 t_267 f_yL_pieceIs ⟨Nat.le_of_ble_eq_true rfl, Nat.le_of_ble_eq_true rfl⟩ rfl rfl (Nat.le_of_ble_eq_true rfl) dL_joins_280 (c2 := 35) (s2 := 210) ⟨by first | rfl | (dsimp only; omega), by first | rfl | (dsimp only; omega)⟩ ⟨by show 35 ≤ 1498; omega, by show 210 ≤ 8988; omega⟩ (q_an (fun H locs hP hS => ?_))
                    refine q_nm (b := shC S (10 + x.toNat) + shC S (10 + z.toNat)) (((lv_0 kx3 (by decide) trivial).trans (pcC_5 rfl)).trans jsh) ?_
                    refine lv_iload hx hb dL_joins_283 (lv_at hl 5 rfl) ?_
                    refine q_icmp_ne (tgt := 332) hx hb ⟨by omega, by omega⟩ ⟨by omega, by omega⟩ dL_joins_285 (by decide) (fun c_10 => (by exfalso; omega)) (fun c_10 => ?_)
                    refine lv_aload_n hx hb dL_joins_288 rfl (lv_at hl 8 rfl) ?_
                    refine lv_iload_n hx hb dL_joins_289 rfl (lv_at hl 11 rfl) ?_
                    refine lv_iconst (v := i32 (0)) hx hb dL_joins_290 rfl ?_
                    refine q_callH2 (As := [.ref (ad 1 0), .int (i32 (z)), .int (i32 (0))]) (rest := []) hx hb hml hl.1 hown hK hZ hP hS (c_L_pieceIs l g base ad S5 z ((0 : Int)) hfl ivS5.wc hrn2 ⟨by decide, by decide⟩) t_266 t_14 t_268 t_267 f_yL_pieceIs ⟨Nat.le_of_ble_eq_true rfl, Nat.le_of_ble_eq_true rfl⟩ rfl rfl (Nat.le_of_ble_eq_true rfl) dL_joins_291 (c2 := 37) (s2 := 222) ⟨by first | rfl | (dsimp only; omega), by first | rfl | (dsimp only; omega)⟩ ⟨by show 37 ≤ 1498; omega, by show 222 ≤ 8988; omega⟩ (q_an (fun H locs hP hS => ?_))
                    refine q_nm (b := -1000001) (lv_1 kz3) ?_
                    refine q_ldc (z := -1000001) hx hb hown hK t_248 rfl dL_joins_294 ?_
                    refine q_icmp_ne (tgt := 332) hx hb ⟨by decide, by decide⟩ ⟨by decide, by decide⟩ dL_joins_296 (by decide) (fun c_11 => (by exfalso; omega)) (fun c_11 => ?_)
                    refine lv_aload_n hx hb dL_joins_299 rfl (lv_at hl 8 rfl) ?_
                    refine lv_iload_n hx hb dL_joins_300 rfl (lv_at hl 10 rfl) ?_
                    refine q_callH2 (As := [.ref (ad 1 0), .int (i32 (x))]) (rest := []) hx hb hml hl.1 hown hK hZ hP hS (c_L_isTrue l g base ad S5 x hfl ivS5.wc hrn) t_516 t_14 t_518 t_517 f_yL_isTrue ⟨Nat.le_of_ble_eq_true rfl, Nat.le_of_ble_eq_true rfl⟩ rfl rfl (Nat.le_of_ble_eq_true rfl) dL_joins_301 (c2 := 38) (s2 := 228) ⟨by first | rfl | (dsimp only; omega), by first | rfl | (dsimp only; omega)⟩ ⟨by show 38 ≤ 1498; omega, by show 228 ≤ 8988; omega⟩ (q_an (fun H locs hP hS => ?_))
                    refine q_nm (b := 1) ((lv_0 kx3 trivial trivial).trans (b2_t (jtr.mpr ⟨h_T, h_U, h_J⟩))) ?_
                    refine lv_iload hx hb dL_joins_304 (lv_at hl 1 rfl) ?_
                    refine lv_iconst (v := i32 (2)) hx hb dL_joins_306 rfl ?_
                    refine q_icmp_ne (tgt := 315) hx hb ⟨by decide, by decide⟩ ⟨by decide, by decide⟩ dL_joins_307 (by decide) (fun h => by first | exact absurd c_4 h | exact absurd h c_4 | omega) (fun _ => ?_)
                    refine lv_iload hx hb dL_joins_310 (lv_at hl 0 rfl) ?_
                    refine lv_goto (tgt := 316) hx hb dL_joins_312 (by decide) ?_
                    refine q_icmp_ne (tgt := 332) hx hb ⟨by decide, by decide⟩ ⟨by decide, by decide⟩ dL_joins_316 (by decide) (fun c_12 => (by exfalso; omega)) (fun c_12 => ?_)
                    refine lv_aload_n hx hb dL_joins_319 rfl (lv_at hl 8 rfl) ?_
                    refine lv_aload_n hx hb dL_joins_320 rfl (lv_at hl 9 rfl) ?_
                    refine lv_iload_n hx hb dL_joins_321 rfl (lv_at hl 10 rfl) ?_
                    refine q_callS2 (As := [.ref (ad 1 0), .ref (ad 3 3), .int (i32 (x))]) (rest := []) hx hb hml hl.1 hown hK hZ hP hS (c_L_isPiece l g base ad S5 x hfl ivS5 kx3 lv8.2.2.2 hrn) t_329 (q_callB hK 328 14 330 t_328 t_14 t_330 f_yL_isPiece ⟨Nat.le_of_ble_eq_true rfl, Nat.le_of_ble_eq_true rfl⟩) rfl rfl (Nat.le_of_ble_eq_true rfl) dL_joins_322 (c2 := 1498) (s2 := 8988) ⟨by first | rfl | (dsimp only; omega), by first | rfl | (dsimp only; omega)⟩ ⟨by show 1498 ≤ 1498; omega, by show 8988 ≤ 8988; omega⟩ (q_an (fun H locs hP hS => ?_))
                    refine q_if_eq (tgt := 332) hx hb ⟨by decide, by decide⟩ dL_joins_325 (by decide) (fun h => by omega) (fun _ => ?_)
                    refine lv_iconst (v := i32 (1)) hx hb dL_joins_328 rfl ?_
                    refine lv_goto (tgt := 333) hx hb dL_joins_329 (by decide) ?_
                    subst hQm
                    exact q_zret hx hb hr hlocks hP hS (v := 1) (by decide) (by exact ⟨⟨rfl, (fun _ _ _ => rfl)⟩, ivS5, lv8⟩) (by show 1498 ≤ 1498; omega) (by show 8988 ≤ 8988; omega) dL_joins_333
                  · skip
                    obtain ⟨-, pw8, ph8, -⟩ := (hI.pp h_A.1).1
                    obtain ⟨-, pw9, ph9, -⟩ := (hI.pp h_A.2).1
                    have hsb8 := sh_b (hI.pp h_A.1)
                    have hsb9 := sh_b (hI.pp h_A.2)
                    have hmc := mc_b (S := S) (o := 10 + x.toNat) (n := 10 + z.toNat) (by omega)
                    refine lv_aload_n hx hb dL_joins_0 rfl (lv_at hl 0 rfl) ?_
                    refine lv_iload_n hx hb dL_joins_1 rfl (lv_at hl 2 rfl) ?_
                    refine lv_iload_n hx hb dL_joins_2 rfl (lv_at hl 3 rfl) ?_
                    refine q_callH2 (As := [.ref (ad 1 0), .int (i32 (x)), .int (i32 (z))]) (rest := []) hx hb hml hl.1 hown hK hZ hP hS (c_L_match l g base ad S x z hfl hI.wc hrn hrn2) t_585 t_14 t_587 t_586 f_yL_match ⟨Nat.le_of_ble_eq_true rfl, Nat.le_of_ble_eq_true rfl⟩ rfl rfl (Nat.le_of_ble_eq_true rfl) dL_joins_3 (c2 := 4) (s2 := 24) ⟨by first | rfl | (dsimp only; omega), by first | rfl | (dsimp only; omega)⟩ ⟨by show 4 ≤ 1498; omega, by show 24 ≤ 8988; omega⟩ (q_an (fun H locs hP hS => ?_))
                    refine q_nm (b := mcC S (10 + x.toNat) (10 + z.toNat)) ((lv_0 h_A h_B ⟨h_D, h_E⟩).trans (cif_t h_H)) ?_
                    refine lv_istore (lv' := [(4, .int (i32 (mcC S (10 + x.toNat) (10 + z.toNat)))), (0, .ref (ad 1 0)), (1, .ref (ad 3 3)), (2, .int (i32 (x))), (3, .int (i32 (z)))]) hx hb dL_joins_6 hl (by decide) rfl (fun ls hl => ?_)
                    refine lv_aload_n hx hb dL_joins_8 rfl (lv_at hl 1 rfl) ?_
                    refine lv_iload_n hx hb dL_joins_9 rfl (lv_at hl 3 rfl) ?_
                    refine q_callS2 (As := [.ref (ad 1 0), .int (i32 (x))]) (rest := []) hx hb hml hl.1 hown hK hZ hP hS (c_L_isThere l g base ad S x hfl hI hrn) t_264 (q_callB hK 263 14 265 t_263 t_14 t_265 f_yL_isThere ⟨Nat.le_of_ble_eq_true rfl, Nat.le_of_ble_eq_true rfl⟩) rfl rfl (Nat.le_of_ble_eq_true rfl) dL_joins_10 (c2 := 6) (s2 := 36) ⟨by first | rfl | (dsimp only; omega), by first | rfl | (dsimp only; omega)⟩ ⟨by show 6 ≤ 1498; omega, by show 36 ≤ 8988; omega⟩ (q_an (fun H locs hP hS => ?_))
                    refine q_if_eqb (tgt := 24) hx hb dL_joins_13 (by decide) (fun c_13 => (by exfalso; exact c_13 h_A.1)) (fun c_13 => ?_)
                    refine lv_aload_n hx hb dL_joins_16 rfl (lv_at hl 1 rfl) ?_
                    refine lv_iload_n hx hb dL_joins_17 rfl (lv_at hl 4 rfl) ?_
                    refine q_callS2 (As := [.ref (ad 1 0), .int (i32 (z))]) (rest := []) hx hb hml hl.1 hown hK hZ hP hS (c_L_isThere l g base ad S z hfl hI hrn2) t_264 (q_callB hK 263 14 265 t_263 t_14 t_265 f_yL_isThere ⟨Nat.le_of_ble_eq_true rfl, Nat.le_of_ble_eq_true rfl⟩) rfl rfl (Nat.le_of_ble_eq_true rfl) dL_joins_18 (c2 := 8) (s2 := 48) ⟨by first | rfl | (dsimp only; omega), by first | rfl | (dsimp only; omega)⟩ ⟨by show 8 ≤ 1498; omega, by show 48 ≤ 8988; omega⟩ (q_an (fun H locs hP hS => ?_))
                    refine q_if_neb (tgt := 48) hx hb dL_joins_21 (by decide) (fun c_14 => ?_) (fun c_14 => (by exfalso; exact c_14 h_A.2))
                    refine lv_iload_n hx hb dL_joins_48 rfl (lv_at hl 3 rfl) ?_
                    refine lv_iload_n hx hb dL_joins_49 rfl (lv_at hl 4 rfl) ?_
                    refine q_icmp_ne (tgt := 77) hx hb hrn hrn2 dL_joins_50 (by decide) (fun _ => ?_) (fun h => by first | exact absurd h_B h | exact absurd h h_B | omega)
                    refine lv_aload_n hx hb dL_joins_77 rfl (lv_at hl 1 rfl) ?_
                    refine lv_iload_n hx hb dL_joins_78 rfl (lv_at hl 3 rfl) ?_
                    refine lv_iconst (v := i32 (0)) hx hb dL_joins_79 rfl ?_
                    refine q_callH2 (As := [.ref (ad 1 0), .int (i32 (x)), .int (i32 (0))]) (rest := []) hx hb hml hl.1 hown hK hZ hP hS (c_L_pieceIs l g base ad S x ((0 : Int)) hfl hI.wc hrn ⟨by decide, by decide⟩) t_266 t_14 t_268 t_267 f_yL_pieceIs ⟨Nat.le_of_ble_eq_true rfl, Nat.le_of_ble_eq_true rfl⟩ rfl rfl (Nat.le_of_ble_eq_true rfl) dL_joins_80 (c2 := 10) (s2 := 60) ⟨by first | rfl | (dsimp only; omega), by first | rfl | (dsimp only; omega)⟩ ⟨by show 10 ≤ 1498; omega, by show 60 ≤ 8988; omega⟩ (q_an (fun H locs hP hS => ?_))
                    refine q_nm (b := S (10 + x.toNat) 0 0) (((lv_0 h_A.1 (by decide) trivial).trans (pcC_0 rfl))) ?_
                    refine lv_aload_n hx hb dL_joins_83 rfl (lv_at hl 1 rfl) ?_
                    refine lv_iload_n hx hb dL_joins_84 rfl (lv_at hl 4 rfl) ?_
                    refine lv_iconst (v := i32 (0)) hx hb dL_joins_85 rfl ?_
                    refine q_callH2 (As := [.ref (ad 1 0), .int (i32 (z)), .int (i32 (0))]) (rest := [.int (i32 (S (10 + x.toNat) 0 0))]) hx hb hml hl.1 hown hK hZ hP hS (c_L_pieceIs l g base ad S z ((0 : Int)) hfl hI.wc hrn2 ⟨by decide, by decide⟩) t_266 t_14 t_268 t_267 f_yL_pieceIs ⟨Nat.le_of_ble_eq_true rfl, Nat.le_of_ble_eq_true rfl⟩ rfl rfl (Nat.le_of_ble_eq_true rfl) dL_joins_86 (c2 := 12) (s2 := 72) ⟨by first | rfl | (dsimp only; omega), by first | rfl | (dsimp only; omega)⟩ ⟨by show 12 ≤ 1498; omega, by show 72 ≤ 8988; omega⟩ (q_an (fun H locs hP hS => ?_))
                    refine q_nm (b := S (10 + z.toNat) 0 0) (((lv_0 h_A.2 (by decide) trivial).trans (pcC_0 rfl))) ?_
                    refine q_iadd hx hb dL_joins_89 ?_
                    refine lv_istore (lv' := [(5, .int (i32 ((S (10 + x.toNat) 0 0) + (S (10 + z.toNat) 0 0)))), (4, .int (i32 (mcC S (10 + x.toNat) (10 + z.toNat)))), (0, .ref (ad 1 0)), (1, .ref (ad 3 3)), (2, .int (i32 (x))), (3, .int (i32 (z)))]) hx hb dL_joins_90 hl (by decide) rfl (fun ls hl => ?_)
                    refine lv_aload_n hx hb dL_joins_92 rfl (lv_at hl 2 rfl) ?_
                    refine lv_iload_n hx hb dL_joins_93 rfl (lv_at hl 4 rfl) ?_
                    refine lv_iconst (v := i32 (5)) hx hb dL_joins_94 rfl ?_
                    refine q_callH2 (As := [.ref (ad 1 0), .int (i32 (x)), .int (i32 (5))]) (rest := []) hx hb hml hl.1 hown hK hZ hP hS (c_L_pieceIs l g base ad S x ((5 : Int)) hfl hI.wc hrn ⟨by decide, by decide⟩) t_266 t_14 t_268 t_267 f_yL_pieceIs ⟨Nat.le_of_ble_eq_true rfl, Nat.le_of_ble_eq_true rfl⟩ rfl rfl (Nat.le_of_ble_eq_true rfl) dL_joins_95 (c2 := 14) (s2 := 84) ⟨by first | rfl | (dsimp only; omega), by first | rfl | (dsimp only; omega)⟩ ⟨by show 14 ≤ 1498; omega, by show 84 ≤ 8988; omega⟩ (q_an (fun H locs hP hS => ?_))
                    refine q_nm (b := shC S (10 + x.toNat)) (((lv_0 h_A.1 (by decide) trivial).trans (pcC_5 rfl))) ?_
                    refine lv_aload_n hx hb dL_joins_98 rfl (lv_at hl 2 rfl) ?_
                    refine lv_iload_n hx hb dL_joins_99 rfl (lv_at hl 5 rfl) ?_
                    refine lv_iconst (v := i32 (5)) hx hb dL_joins_100 rfl ?_
                    refine q_callH2 (As := [.ref (ad 1 0), .int (i32 (z)), .int (i32 (5))]) (rest := [.int (i32 (shC S (10 + x.toNat)))]) hx hb hml hl.1 hown hK hZ hP hS (c_L_pieceIs l g base ad S z ((5 : Int)) hfl hI.wc hrn2 ⟨by decide, by decide⟩) t_266 t_14 t_268 t_267 f_yL_pieceIs ⟨Nat.le_of_ble_eq_true rfl, Nat.le_of_ble_eq_true rfl⟩ rfl rfl (Nat.le_of_ble_eq_true rfl) dL_joins_101 (c2 := 16) (s2 := 96) ⟨by first | rfl | (dsimp only; omega), by first | rfl | (dsimp only; omega)⟩ ⟨by show 16 ≤ 1498; omega, by show 96 ≤ 8988; omega⟩ (q_an (fun H locs hP hS => ?_))
                    refine q_nm (b := shC S (10 + z.toNat)) (((lv_0 h_A.2 (by decide) trivial).trans (pcC_5 rfl))) ?_
                    refine q_iadd hx hb dL_joins_104 ?_
                    refine lv_istore (lv' := [(6, .int (i32 ((shC S (10 + x.toNat)) + (shC S (10 + z.toNat))))), (5, .int (i32 ((S (10 + x.toNat) 0 0) + (S (10 + z.toNat) 0 0)))), (4, .int (i32 (mcC S (10 + x.toNat) (10 + z.toNat)))), (0, .ref (ad 1 0)), (1, .ref (ad 3 3)), (2, .int (i32 (x))), (3, .int (i32 (z)))]) hx hb dL_joins_105 hl (by decide) rfl (fun ls hl => ?_)
                    refine lv_aload_n hx hb dL_joins_107 rfl (lv_at hl 3 rfl) ?_
                    refine lv_iload_n hx hb dL_joins_108 rfl (lv_at hl 5 rfl) ?_
                    refine lv_iconst (v := i32 (1)) hx hb dL_joins_109 rfl ?_
                    refine q_callH2 (As := [.ref (ad 1 0), .int (i32 (x)), .int (i32 (1))]) (rest := []) hx hb hml hl.1 hown hK hZ hP hS (c_L_pieceIs l g base ad S x ((1 : Int)) hfl hI.wc hrn ⟨by decide, by decide⟩) t_266 t_14 t_268 t_267 f_yL_pieceIs ⟨Nat.le_of_ble_eq_true rfl, Nat.le_of_ble_eq_true rfl⟩ rfl rfl (Nat.le_of_ble_eq_true rfl) dL_joins_110 (c2 := 18) (s2 := 108) ⟨by first | rfl | (dsimp only; omega), by first | rfl | (dsimp only; omega)⟩ ⟨by show 18 ≤ 1498; omega, by show 108 ≤ 8988; omega⟩ (q_an (fun H locs hP hS => ?_))
                    refine q_nm (b := S (10 + x.toNat) 0 1) (((lv_0 h_A.1 (by decide) trivial).trans (pcC_1 rfl))) ?_
                    refine lv_istore (lv' := [(7, .int (i32 (S (10 + x.toNat) 0 1))), (6, .int (i32 ((shC S (10 + x.toNat)) + (shC S (10 + z.toNat))))), (5, .int (i32 ((S (10 + x.toNat) 0 0) + (S (10 + z.toNat) 0 0)))), (4, .int (i32 (mcC S (10 + x.toNat) (10 + z.toNat)))), (0, .ref (ad 1 0)), (1, .ref (ad 3 3)), (2, .int (i32 (x))), (3, .int (i32 (z)))]) hx hb dL_joins_113 hl (by decide) rfl (fun ls hl => ?_)
                    refine lv_iload hx hb dL_joins_115 (lv_at hl 0 rfl) ?_
                    refine lv_aload_n hx hb dL_joins_117 rfl (lv_at hl 4 rfl) ?_
                    refine lv_iload_n hx hb dL_joins_118 rfl (lv_at hl 7 rfl) ?_
                    refine lv_iconst (v := i32 (1)) hx hb dL_joins_119 rfl ?_
                    refine q_callH2 (As := [.ref (ad 1 0), .int (i32 (z)), .int (i32 (1))]) (rest := [.int (i32 (S (10 + x.toNat) 0 1))]) hx hb hml hl.1 hown hK hZ hP hS (c_L_pieceIs l g base ad S z ((1 : Int)) hfl hI.wc hrn2 ⟨by decide, by decide⟩) t_266 t_14 t_268 t_267 f_yL_pieceIs ⟨Nat.le_of_ble_eq_true rfl, Nat.le_of_ble_eq_true rfl⟩ rfl rfl (Nat.le_of_ble_eq_true rfl) dL_joins_120 (c2 := 20) (s2 := 120) ⟨by first | rfl | (dsimp only; omega), by first | rfl | (dsimp only; omega)⟩ ⟨by show 20 ≤ 1498; omega, by show 120 ≤ 8988; omega⟩ (q_an (fun H locs hP hS => ?_))
                    refine q_nm (b := S (10 + z.toNat) 0 1) (((lv_0 h_A.2 (by decide) trivial).trans (pcC_1 rfl))) ?_
                    refine q_icmp_ne (tgt := 130) hx hb (rS _ _ _) (rS _ _ _) dL_joins_123 (by decide) (fun c_15 => (by exfalso; omega)) (fun c_15 => ?_)
                    refine lv_iconst (v := i32 (1)) hx hb dL_joins_126 rfl ?_
                    refine lv_goto (tgt := 131) hx hb dL_joins_127 (by decide) ?_
                    refine lv_istore (lv' := [(8, .int (i32 (1))), (7, .int (i32 (S (10 + x.toNat) 0 1))), (6, .int (i32 ((shC S (10 + x.toNat)) + (shC S (10 + z.toNat))))), (5, .int (i32 ((S (10 + x.toNat) 0 0) + (S (10 + z.toNat) 0 0)))), (4, .int (i32 (mcC S (10 + x.toNat) (10 + z.toNat)))), (0, .ref (ad 1 0)), (1, .ref (ad 3 3)), (2, .int (i32 (x))), (3, .int (i32 (z)))]) hx hb dL_joins_131 hl (by decide) rfl (fun ls hl => ?_)
                    refine lv_aload_n hx hb dL_joins_133 rfl (lv_at hl 5 rfl) ?_
                    refine lv_iload_n hx hb dL_joins_134 rfl (lv_at hl 7 rfl) ?_
                    refine lv_iconst (v := i32 (3)) hx hb dL_joins_135 rfl ?_
                    refine q_callH2 (As := [.ref (ad 1 0), .int (i32 (x)), .int (i32 (3))]) (rest := []) hx hb hml hl.1 hown hK hZ hP hS (c_L_pieceIs l g base ad S x ((3 : Int)) hfl hI.wc hrn ⟨by decide, by decide⟩) t_266 t_14 t_268 t_267 f_yL_pieceIs ⟨Nat.le_of_ble_eq_true rfl, Nat.le_of_ble_eq_true rfl⟩ rfl rfl (Nat.le_of_ble_eq_true rfl) dL_joins_136 (c2 := 22) (s2 := 132) ⟨by first | rfl | (dsimp only; omega), by first | rfl | (dsimp only; omega)⟩ ⟨by show 22 ≤ 1498; omega, by show 132 ≤ 8988; omega⟩ (q_an (fun H locs hP hS => ?_))
                    refine q_nm (b := 1) (((lv_0 h_A.1 (by decide) trivial).trans (pcC_3 rfl)).trans (b2_t h_D)) ?_
                    refine lv_aload_n hx hb dL_joins_139 rfl (lv_at hl 5 rfl) ?_
                    refine lv_iload_n hx hb dL_joins_140 rfl (lv_at hl 8 rfl) ?_
                    refine lv_iconst (v := i32 (3)) hx hb dL_joins_141 rfl ?_
                    refine q_callH2 (As := [.ref (ad 1 0), .int (i32 (z)), .int (i32 (3))]) (rest := [.int (i32 (1))]) hx hb hml hl.1 hown hK hZ hP hS (c_L_pieceIs l g base ad S z ((3 : Int)) hfl hI.wc hrn2 ⟨by decide, by decide⟩) t_266 t_14 t_268 t_267 f_yL_pieceIs ⟨Nat.le_of_ble_eq_true rfl, Nat.le_of_ble_eq_true rfl⟩ rfl rfl (Nat.le_of_ble_eq_true rfl) dL_joins_142 (c2 := 24) (s2 := 144) ⟨by first | rfl | (dsimp only; omega), by first | rfl | (dsimp only; omega)⟩ ⟨by show 24 ≤ 1498; omega, by show 144 ≤ 8988; omega⟩ (q_an (fun H locs hP hS => ?_))
                    refine q_nm (b := 1) (((lv_0 h_A.2 (by decide) trivial).trans (pcC_3 rfl)).trans (b2_t h_E)) ?_
                    refine q_iadd hx hb dL_joins_145 ?_
                    refine q_nm (show (1 + 1 : Int) = 2 from by decide) ?_
                    refine lv_iconst (v := i32 (2)) hx hb dL_joins_146 rfl ?_
                    refine q_icmp_ne (tgt := 154) hx hb ⟨by decide, by decide⟩ ⟨by decide, by decide⟩ dL_joins_147 (by decide) (fun c_16 => (by exfalso; omega)) (fun c_16 => ?_)
                    refine lv_iconst (v := i32 (1)) hx hb dL_joins_150 rfl ?_
                    refine lv_goto (tgt := 155) hx hb dL_joins_151 (by decide) ?_
                    refine lv_istore (lv' := [(9, .int (i32 (1))), (8, .int (i32 (1))), (7, .int (i32 (S (10 + x.toNat) 0 1))), (6, .int (i32 ((shC S (10 + x.toNat)) + (shC S (10 + z.toNat))))), (5, .int (i32 ((S (10 + x.toNat) 0 0) + (S (10 + z.toNat) 0 0)))), (4, .int (i32 (mcC S (10 + x.toNat) (10 + z.toNat)))), (0, .ref (ad 1 0)), (1, .ref (ad 3 3)), (2, .int (i32 (x))), (3, .int (i32 (z)))]) hx hb dL_joins_155 hl (by decide) rfl (fun ls hl => ?_)
                    refine lv_aload_n hx hb dL_joins_157 rfl (lv_at hl 6 rfl) ?_
                    refine lv_iload_n hx hb dL_joins_158 rfl (lv_at hl 8 rfl) ?_
                    refine q_callH2 (As := [.ref (ad 1 0), .int (i32 (x))]) (rest := []) hx hb hml hl.1 hown hK hZ hP hS (c_L_isTrue l g base ad S x hfl hI.wc hrn) t_516 t_14 t_518 t_517 f_yL_isTrue ⟨Nat.le_of_ble_eq_true rfl, Nat.le_of_ble_eq_true rfl⟩ rfl rfl (Nat.le_of_ble_eq_true rfl) dL_joins_159 (c2 := 25) (s2 := 150) ⟨by first | rfl | (dsimp only; omega), by first | rfl | (dsimp only; omega)⟩ ⟨by show 25 ≤ 1498; omega, by show 150 ≤ 8988; omega⟩ (q_an (fun H locs hP hS => ?_))
                    refine q_nm (b := 1) ((lv_0 h_A.1 trivial trivial).trans (b2_t h_T)) ?_
                    refine lv_aload_n hx hb dL_joins_162 rfl (lv_at hl 6 rfl) ?_
                    refine lv_iload_n hx hb dL_joins_163 rfl (lv_at hl 9 rfl) ?_
                    refine q_callH2 (As := [.ref (ad 1 0), .int (i32 (z))]) (rest := [.int (i32 (1))]) hx hb hml hl.1 hown hK hZ hP hS (c_L_isTrue l g base ad S z hfl hI.wc hrn2) t_516 t_14 t_518 t_517 f_yL_isTrue ⟨Nat.le_of_ble_eq_true rfl, Nat.le_of_ble_eq_true rfl⟩ rfl rfl (Nat.le_of_ble_eq_true rfl) dL_joins_164 (c2 := 26) (s2 := 156) ⟨by first | rfl | (dsimp only; omega), by first | rfl | (dsimp only; omega)⟩ ⟨by show 26 ≤ 1498; omega, by show 156 ≤ 8988; omega⟩ (q_an (fun H locs hP hS => ?_))
                    refine q_nm (b := 1) ((lv_0 h_A.2 trivial trivial).trans (b2_t h_U)) ?_
                    refine q_iadd hx hb dL_joins_167 ?_
                    refine q_nm (show (1 + 1 : Int) = 2 from by decide) ?_
                    refine lv_istore (lv' := [(10, .int (i32 (2))), (9, .int (i32 (1))), (8, .int (i32 (1))), (7, .int (i32 (S (10 + x.toNat) 0 1))), (6, .int (i32 ((shC S (10 + x.toNat)) + (shC S (10 + z.toNat))))), (5, .int (i32 ((S (10 + x.toNat) 0 0) + (S (10 + z.toNat) 0 0)))), (4, .int (i32 (mcC S (10 + x.toNat) (10 + z.toNat)))), (0, .ref (ad 1 0)), (1, .ref (ad 3 3)), (2, .int (i32 (x))), (3, .int (i32 (z)))]) hx hb dL_joins_168 hl (by decide) rfl (fun ls hl => ?_)
                    refine lv_aload_n hx hb dL_joins_170 rfl (lv_at hl 7 rfl) ?_
                    refine lv_iload_n hx hb dL_joins_171 rfl (lv_at hl 9 rfl) ?_
                    refine lv_iload_n hx hb dL_joins_172 rfl (lv_at hl 10 rfl) ?_
                    have w8 := IV_join hI h_A.1 h_A.2 h_B h_D h_E h_H h_W
                    refine q_callH2 (As := [.ref (ad 1 0), .int (i32 (x)), .int (i32 (z))]) (rest := []) hx hb hml hl.1 hown hK hZ hP hS (c_L_join l g base ad S x z hfl hI.wc hrn hrn2) t_604 t_14 t_606 t_605 f_yL_join ⟨Nat.le_of_ble_eq_true rfl, Nat.le_of_ble_eq_true rfl⟩ rfl rfl (Nat.le_of_ble_eq_true rfl) dL_joins_173 (c2 := 31) (s2 := 186) ⟨by first | rfl | (dsimp only; omega), by first | rfl | (dsimp only; omega)⟩ ⟨by show 31 ≤ 1498; omega, by show 186 ≤ 8988; omega⟩ (fun rr ad' S' H locs hQ hP hS => ?_)
                    have hc9 : (peC S x ∧ peC S z) ∧ (x ≠ z) ∧ (dnC S (10 + x.toNat) ∧ dnC S (10 + z.toNat) ∧ S (10 + x.toNat) 0 1 = S (10 + z.toNat) 0 1 ∧ S (10 + x.toNat) 0 0 + S (10 + z.toNat) 0 0 ≤ 24) := ⟨h_A, h_B, ⟨h_D, h_E, h_H, h_W⟩⟩
                    obtain ⟨⟨hr9, ek9⟩, hQ⟩ := hQ
                    have hs9 := (hQ.resolve_left (fun y9 => y9.1 hc9)).2
                    subst hr9
                    rw [ek9] at hP
                    rw [hs9] at hP
                    refine q_nm (b := 0) ((lv_0 hc9.1 hc9.2.1 hc9.2.2).trans (b2_f (fun y => h_J (w8.2.2.2.2.1.mp y)))) ?_
                    generalize eS17 : jnS S (10 + x.toNat) (10 + z.toNat) z = S17 at hP
                    have rS17 : ∀ (a1 b1 : Nat) (i1 : Int), rng (S17 a1 b1 i1) := fun a1 b1 i1 => hP.rg a1 b1 i1
                    have ivS17 : IV S17 := by rw [← eS17]; exact w8.1
                    have h3S17 : ∀ (b1 : Nat) (i1 : Int), S17 3 b1 i1 = S 3 b1 i1 := by rw [← eS17]; exact fun b i => w8.2.1.1.1 3 b i (by omega) (by omega)
                    rw [eS17] at w8
                    obtain ⟨-, ⟨⟨fr8, -⟩, ⟨j0, -, -⟩, -⟩, ⟨kx3, kz3⟩, jsh, -, jtr⟩ := w8
                    have lv8 : LV S17 := LV_k hV hI.k.1.2 (fun b i => fr8 _ _ _ (by omega) (by omega)) (fr8 _ _ _ (by omega) (by omega)) (fr8 _ _ _ (by omega) (by omega)) (fr8 _ _ _ (by omega) (by omega)) (fun j => fr8 _ _ _ (by omega) (by omega)) (fun a h1 h2 => ⟨fr8 _ _ _ (by omega) (by omega), fr8 _ _ _ (by omega) (by omega)⟩)
                    refine lv_istore (lv' := [(11, .int (i32 (0))), (10, .int (i32 (2))), (9, .int (i32 (1))), (8, .int (i32 (1))), (7, .int (i32 (S (10 + x.toNat) 0 1))), (6, .int (i32 ((shC S (10 + x.toNat)) + (shC S (10 + z.toNat))))), (5, .int (i32 ((S (10 + x.toNat) 0 0) + (S (10 + z.toNat) 0 0)))), (4, .int (i32 (mcC S (10 + x.toNat) (10 + z.toNat)))), (0, .ref (ad 1 0)), (1, .ref (ad 3 3)), (2, .int (i32 (x))), (3, .int (i32 (z)))]) hx hb dL_joins_176 hl (by decide) rfl (fun ls hl => ?_)
                    refine lv_iload hx hb dL_joins_178 (lv_at hl 2 rfl) ?_
                    refine q_if_eq (tgt := 195) hx hb ⟨by decide, by decide⟩ dL_joins_180 (by decide) (fun h => by omega) (fun _ => ?_)
                    refine lv_iload hx hb dL_joins_183 (lv_at hl 3 rfl) ?_
                    refine q_if_eq (tgt := 195) hx hb ⟨by decide, by decide⟩ dL_joins_185 (by decide) (fun h => by omega) (fun _ => ?_)
                    refine lv_iload hx hb dL_joins_188 (lv_at hl 6 rfl) ?_
                    refine lv_bipush (v := i32 (24)) hx hb dL_joins_190 (by decide) ?_
                    refine q_icmp_le (tgt := 249) hx hb ⟨by omega, by omega⟩ ⟨by decide, by decide⟩ dL_joins_192 (by decide) (fun c_18 => ?_) (fun c_18 => (by exfalso; omega))
                    refine lv_iload hx hb dL_joins_249 (lv_at hl 7 rfl) ?_
                    refine q_if_lt (tgt := 332) hx hb ⟨by omega, by omega⟩ dL_joins_251 (by decide) (fun c_19 => (by exfalso; omega)) (fun c_19 => ?_)
                    refine lv_iload hx hb dL_joins_254 (lv_at hl 7 rfl) ?_
                    refine lv_iload hx hb dL_joins_256 (lv_at hl 4 rfl) ?_
                    refine q_icmp_gt (tgt := 332) hx hb ⟨by omega, by omega⟩ (rS _ _ _) dL_joins_258 (by decide) (fun c_20 => (by exfalso; omega)) (fun c_20 => ?_)
                    refine lv_iload hx hb dL_joins_261 (lv_at hl 0 rfl) ?_
                    refine q_if_lt (tgt := 332) hx hb ⟨by decide, by decide⟩ dL_joins_263 (by decide) (fun h => by omega) (fun _ => ?_)
                    refine lv_aload_n hx hb dL_joins_266 rfl (lv_at hl 8 rfl) ?_
                    refine lv_iload_n hx hb dL_joins_267 rfl (lv_at hl 10 rfl) ?_
                    refine lv_iconst (v := i32 (0)) hx hb dL_joins_268 rfl ?_
                    refine q_callH2 (As := [.ref (ad 1 0), .int (i32 (x)), .int (i32 (0))]) (rest := []) hx hb hml hl.1 hown hK hZ hP hS (c_L_pieceIs l g base ad S17 x ((0 : Int)) hfl ivS17.wc hrn ⟨by decide, by decide⟩) t_266 t_14 t_268 t_267 f_yL_pieceIs ⟨Nat.le_of_ble_eq_true rfl, Nat.le_of_ble_eq_true rfl⟩ rfl rfl (Nat.le_of_ble_eq_true rfl) dL_joins_269 (c2 := 33) (s2 := 198) ⟨by first | rfl | (dsimp only; omega), by first | rfl | (dsimp only; omega)⟩ ⟨by show 33 ≤ 1498; omega, by show 198 ≤ 8988; omega⟩ (q_an (fun H locs hP hS => ?_))
                    refine q_nm (b := S (10 + x.toNat) 0 0 + S (10 + z.toNat) 0 0) (((lv_0 kx3 (by decide) trivial).trans (pcC_0 rfl)).trans j0) ?_
                    refine lv_iload hx hb dL_joins_272 (lv_at hl 6 rfl) ?_
                    refine q_icmp_ne (tgt := 332) hx hb ⟨by omega, by omega⟩ ⟨by omega, by omega⟩ dL_joins_274 (by decide) (fun c_21 => (by exfalso; omega)) (fun c_21 => ?_)
                    refine lv_aload_n hx hb dL_joins_277 rfl (lv_at hl 8 rfl) ?_
                    refine lv_iload_n hx hb dL_joins_278 rfl (lv_at hl 10 rfl) ?_
                    refine lv_iconst (v := i32 (5)) hx hb dL_joins_279 rfl ?_
                    refine q_callH2 (As := [.ref (ad 1 0), .int (i32 (x)), .int (i32 (5))]) (rest := []) hx hb hml hl.1 hown hK hZ hP hS (c_L_pieceIs l g base ad S17 x ((5 : Int)) hfl ivS17.wc hrn ⟨by decide, by decide⟩) t_266 t_14 t_268 t_267 f_yL_pieceIs ⟨Nat.le_of_ble_eq_true rfl, Nat.le_of_ble_eq_true rfl⟩ rfl rfl (Nat.le_of_ble_eq_true rfl) dL_joins_280 (c2 := 35) (s2 := 210) ⟨by first | rfl | (dsimp only; omega), by first | rfl | (dsimp only; omega)⟩ ⟨by show 35 ≤ 1498; omega, by show 210 ≤ 8988; omega⟩ (q_an (fun H locs hP hS => ?_))
                    refine q_nm (b := shC S (10 + x.toNat) + shC S (10 + z.toNat)) (((lv_0 kx3 (by decide) trivial).trans (pcC_5 rfl)).trans jsh) ?_
                    refine lv_iload hx hb dL_joins_283 (lv_at hl 5 rfl) ?_
                    refine q_icmp_ne (tgt := 332) hx hb ⟨by omega, by omega⟩ ⟨by omega, by omega⟩ dL_joins_285 (by decide) (fun c_22 => (by exfalso; omega)) (fun c_22 => ?_)
                    refine lv_aload_n hx hb dL_joins_288 rfl (lv_at hl 8 rfl) ?_
                    refine lv_iload_n hx hb dL_joins_289 rfl (lv_at hl 11 rfl) ?_
                    refine lv_iconst (v := i32 (0)) hx hb dL_joins_290 rfl ?_
                    refine q_callH2 (As := [.ref (ad 1 0), .int (i32 (z)), .int (i32 (0))]) (rest := []) hx hb hml hl.1 hown hK hZ hP hS (c_L_pieceIs l g base ad S17 z ((0 : Int)) hfl ivS17.wc hrn2 ⟨by decide, by decide⟩) t_266 t_14 t_268 t_267 f_yL_pieceIs ⟨Nat.le_of_ble_eq_true rfl, Nat.le_of_ble_eq_true rfl⟩ rfl rfl (Nat.le_of_ble_eq_true rfl) dL_joins_291 (c2 := 37) (s2 := 222) ⟨by first | rfl | (dsimp only; omega), by first | rfl | (dsimp only; omega)⟩ ⟨by show 37 ≤ 1498; omega, by show 222 ≤ 8988; omega⟩ (q_an (fun H locs hP hS => ?_))
                    refine q_nm (b := -1000001) (lv_1 kz3) ?_
                    refine q_ldc (z := -1000001) hx hb hown hK t_248 rfl dL_joins_294 ?_
                    refine q_icmp_ne (tgt := 332) hx hb ⟨by decide, by decide⟩ ⟨by decide, by decide⟩ dL_joins_296 (by decide) (fun c_23 => (by exfalso; omega)) (fun c_23 => ?_)
                    refine lv_aload_n hx hb dL_joins_299 rfl (lv_at hl 8 rfl) ?_
                    refine lv_iload_n hx hb dL_joins_300 rfl (lv_at hl 10 rfl) ?_
                    refine q_callH2 (As := [.ref (ad 1 0), .int (i32 (x))]) (rest := []) hx hb hml hl.1 hown hK hZ hP hS (c_L_isTrue l g base ad S17 x hfl ivS17.wc hrn) t_516 t_14 t_518 t_517 f_yL_isTrue ⟨Nat.le_of_ble_eq_true rfl, Nat.le_of_ble_eq_true rfl⟩ rfl rfl (Nat.le_of_ble_eq_true rfl) dL_joins_301 (c2 := 38) (s2 := 228) ⟨by first | rfl | (dsimp only; omega), by first | rfl | (dsimp only; omega)⟩ ⟨by show 38 ≤ 1498; omega, by show 228 ≤ 8988; omega⟩ (q_an (fun H locs hP hS => ?_))
                    refine q_nm (b := 0) ((lv_0 kx3 trivial trivial).trans (b2_f (fun y9 => (fun y : _ ∧ _ ∧ _ => h_J y.2.2) (jtr.mp y9)))) ?_
                    refine lv_iload hx hb dL_joins_304 (lv_at hl 1 rfl) ?_
                    refine lv_iconst (v := i32 (2)) hx hb dL_joins_306 rfl ?_
                    refine q_icmp_ne (tgt := 315) hx hb ⟨by decide, by decide⟩ ⟨by decide, by decide⟩ dL_joins_307 (by decide) (fun h => by first | exact absurd c_16 h | exact absurd h c_16 | omega) (fun _ => ?_)
                    refine lv_iload hx hb dL_joins_310 (lv_at hl 0 rfl) ?_
                    refine lv_goto (tgt := 316) hx hb dL_joins_312 (by decide) ?_
                    refine q_icmp_ne (tgt := 332) hx hb ⟨by decide, by decide⟩ ⟨by decide, by decide⟩ dL_joins_316 (by decide) (fun c_24 => (by exfalso; omega)) (fun c_24 => ?_)
                    refine lv_aload_n hx hb dL_joins_319 rfl (lv_at hl 8 rfl) ?_
                    refine lv_aload_n hx hb dL_joins_320 rfl (lv_at hl 9 rfl) ?_
                    refine lv_iload_n hx hb dL_joins_321 rfl (lv_at hl 10 rfl) ?_
                    refine q_callS2 (As := [.ref (ad 1 0), .ref (ad 3 3), .int (i32 (x))]) (rest := []) hx hb hml hl.1 hown hK hZ hP hS (c_L_isPiece l g base ad S17 x hfl ivS17 kx3 lv8.2.2.2 hrn) t_329 (q_callB hK 328 14 330 t_328 t_14 t_330 f_yL_isPiece ⟨Nat.le_of_ble_eq_true rfl, Nat.le_of_ble_eq_true rfl⟩) rfl rfl (Nat.le_of_ble_eq_true rfl) dL_joins_322 (c2 := 1498) (s2 := 8988) ⟨by first | rfl | (dsimp only; omega), by first | rfl | (dsimp only; omega)⟩ ⟨by show 1498 ≤ 1498; omega, by show 8988 ≤ 8988; omega⟩ (q_an (fun H locs hP hS => ?_))
                    refine q_if_eq (tgt := 332) hx hb ⟨by decide, by decide⟩ dL_joins_325 (by decide) (fun h => by omega) (fun _ => ?_)
                    refine lv_iconst (v := i32 (1)) hx hb dL_joins_328 rfl ?_
                    refine lv_goto (tgt := 333) hx hb dL_joins_329 (by decide) ?_
                    subst hQm
                    exact q_zret hx hb hr hlocks hP hS (v := 1) (by decide) (by exact ⟨⟨rfl, (fun _ _ _ => rfl)⟩, ivS17, lv8⟩) (by show 1498 ≤ 1498; omega) (by show 8988 ≤ 8988; omega) dL_joins_333
                · skip
                  by_cases h_J : S (10 + x.toNat) 8 (S (10 + x.toNat) 0 0 - 1) + 1 = S (10 + z.toNat) 8 0
                  · skip
                    obtain ⟨-, pw8, ph8, -⟩ := (hI.pp h_A.1).1
                    obtain ⟨-, pw9, ph9, -⟩ := (hI.pp h_A.2).1
                    have hsb8 := sh_b (hI.pp h_A.1)
                    have hsb9 := sh_b (hI.pp h_A.2)
                    have hmc := mc_b (S := S) (o := 10 + x.toNat) (n := 10 + z.toNat) (by omega)
                    refine lv_aload_n hx hb dL_joins_0 rfl (lv_at hl 0 rfl) ?_
                    refine lv_iload_n hx hb dL_joins_1 rfl (lv_at hl 2 rfl) ?_
                    refine lv_iload_n hx hb dL_joins_2 rfl (lv_at hl 3 rfl) ?_
                    refine q_callH2 (As := [.ref (ad 1 0), .int (i32 (x)), .int (i32 (z))]) (rest := []) hx hb hml hl.1 hown hK hZ hP hS (c_L_match l g base ad S x z hfl hI.wc hrn hrn2) t_585 t_14 t_587 t_586 f_yL_match ⟨Nat.le_of_ble_eq_true rfl, Nat.le_of_ble_eq_true rfl⟩ rfl rfl (Nat.le_of_ble_eq_true rfl) dL_joins_3 (c2 := 4) (s2 := 24) ⟨by first | rfl | (dsimp only; omega), by first | rfl | (dsimp only; omega)⟩ ⟨by show 4 ≤ 1498; omega, by show 24 ≤ 8988; omega⟩ (q_an (fun H locs hP hS => ?_))
                    refine q_nm (b := mcC S (10 + x.toNat) (10 + z.toNat)) ((lv_0 h_A h_B ⟨h_D, h_E⟩).trans (cif_t h_H)) ?_
                    refine lv_istore (lv' := [(4, .int (i32 (mcC S (10 + x.toNat) (10 + z.toNat)))), (0, .ref (ad 1 0)), (1, .ref (ad 3 3)), (2, .int (i32 (x))), (3, .int (i32 (z)))]) hx hb dL_joins_6 hl (by decide) rfl (fun ls hl => ?_)
                    refine lv_aload_n hx hb dL_joins_8 rfl (lv_at hl 1 rfl) ?_
                    refine lv_iload_n hx hb dL_joins_9 rfl (lv_at hl 3 rfl) ?_
                    refine q_callS2 (As := [.ref (ad 1 0), .int (i32 (x))]) (rest := []) hx hb hml hl.1 hown hK hZ hP hS (c_L_isThere l g base ad S x hfl hI hrn) t_264 (q_callB hK 263 14 265 t_263 t_14 t_265 f_yL_isThere ⟨Nat.le_of_ble_eq_true rfl, Nat.le_of_ble_eq_true rfl⟩) rfl rfl (Nat.le_of_ble_eq_true rfl) dL_joins_10 (c2 := 6) (s2 := 36) ⟨by first | rfl | (dsimp only; omega), by first | rfl | (dsimp only; omega)⟩ ⟨by show 6 ≤ 1498; omega, by show 36 ≤ 8988; omega⟩ (q_an (fun H locs hP hS => ?_))
                    refine q_if_eqb (tgt := 24) hx hb dL_joins_13 (by decide) (fun c_25 => (by exfalso; exact c_25 h_A.1)) (fun c_25 => ?_)
                    refine lv_aload_n hx hb dL_joins_16 rfl (lv_at hl 1 rfl) ?_
                    refine lv_iload_n hx hb dL_joins_17 rfl (lv_at hl 4 rfl) ?_
                    refine q_callS2 (As := [.ref (ad 1 0), .int (i32 (z))]) (rest := []) hx hb hml hl.1 hown hK hZ hP hS (c_L_isThere l g base ad S z hfl hI hrn2) t_264 (q_callB hK 263 14 265 t_263 t_14 t_265 f_yL_isThere ⟨Nat.le_of_ble_eq_true rfl, Nat.le_of_ble_eq_true rfl⟩) rfl rfl (Nat.le_of_ble_eq_true rfl) dL_joins_18 (c2 := 8) (s2 := 48) ⟨by first | rfl | (dsimp only; omega), by first | rfl | (dsimp only; omega)⟩ ⟨by show 8 ≤ 1498; omega, by show 48 ≤ 8988; omega⟩ (q_an (fun H locs hP hS => ?_))
                    refine q_if_neb (tgt := 48) hx hb dL_joins_21 (by decide) (fun c_26 => ?_) (fun c_26 => (by exfalso; exact c_26 h_A.2))
                    refine lv_iload_n hx hb dL_joins_48 rfl (lv_at hl 3 rfl) ?_
                    refine lv_iload_n hx hb dL_joins_49 rfl (lv_at hl 4 rfl) ?_
                    refine q_icmp_ne (tgt := 77) hx hb hrn hrn2 dL_joins_50 (by decide) (fun _ => ?_) (fun h => by first | exact absurd h_B h | exact absurd h h_B | omega)
                    refine lv_aload_n hx hb dL_joins_77 rfl (lv_at hl 1 rfl) ?_
                    refine lv_iload_n hx hb dL_joins_78 rfl (lv_at hl 3 rfl) ?_
                    refine lv_iconst (v := i32 (0)) hx hb dL_joins_79 rfl ?_
                    refine q_callH2 (As := [.ref (ad 1 0), .int (i32 (x)), .int (i32 (0))]) (rest := []) hx hb hml hl.1 hown hK hZ hP hS (c_L_pieceIs l g base ad S x ((0 : Int)) hfl hI.wc hrn ⟨by decide, by decide⟩) t_266 t_14 t_268 t_267 f_yL_pieceIs ⟨Nat.le_of_ble_eq_true rfl, Nat.le_of_ble_eq_true rfl⟩ rfl rfl (Nat.le_of_ble_eq_true rfl) dL_joins_80 (c2 := 10) (s2 := 60) ⟨by first | rfl | (dsimp only; omega), by first | rfl | (dsimp only; omega)⟩ ⟨by show 10 ≤ 1498; omega, by show 60 ≤ 8988; omega⟩ (q_an (fun H locs hP hS => ?_))
                    refine q_nm (b := S (10 + x.toNat) 0 0) (((lv_0 h_A.1 (by decide) trivial).trans (pcC_0 rfl))) ?_
                    refine lv_aload_n hx hb dL_joins_83 rfl (lv_at hl 1 rfl) ?_
                    refine lv_iload_n hx hb dL_joins_84 rfl (lv_at hl 4 rfl) ?_
                    refine lv_iconst (v := i32 (0)) hx hb dL_joins_85 rfl ?_
                    refine q_callH2 (As := [.ref (ad 1 0), .int (i32 (z)), .int (i32 (0))]) (rest := [.int (i32 (S (10 + x.toNat) 0 0))]) hx hb hml hl.1 hown hK hZ hP hS (c_L_pieceIs l g base ad S z ((0 : Int)) hfl hI.wc hrn2 ⟨by decide, by decide⟩) t_266 t_14 t_268 t_267 f_yL_pieceIs ⟨Nat.le_of_ble_eq_true rfl, Nat.le_of_ble_eq_true rfl⟩ rfl rfl (Nat.le_of_ble_eq_true rfl) dL_joins_86 (c2 := 12) (s2 := 72) ⟨by first | rfl | (dsimp only; omega), by first | rfl | (dsimp only; omega)⟩ ⟨by show 12 ≤ 1498; omega, by show 72 ≤ 8988; omega⟩ (q_an (fun H locs hP hS => ?_))
                    refine q_nm (b := S (10 + z.toNat) 0 0) (((lv_0 h_A.2 (by decide) trivial).trans (pcC_0 rfl))) ?_
                    refine q_iadd hx hb dL_joins_89 ?_
                    refine lv_istore (lv' := [(5, .int (i32 ((S (10 + x.toNat) 0 0) + (S (10 + z.toNat) 0 0)))), (4, .int (i32 (mcC S (10 + x.toNat) (10 + z.toNat)))), (0, .ref (ad 1 0)), (1, .ref (ad 3 3)), (2, .int (i32 (x))), (3, .int (i32 (z)))]) hx hb dL_joins_90 hl (by decide) rfl (fun ls hl => ?_)
                    refine lv_aload_n hx hb dL_joins_92 rfl (lv_at hl 2 rfl) ?_
                    refine lv_iload_n hx hb dL_joins_93 rfl (lv_at hl 4 rfl) ?_
                    refine lv_iconst (v := i32 (5)) hx hb dL_joins_94 rfl ?_
                    refine q_callH2 (As := [.ref (ad 1 0), .int (i32 (x)), .int (i32 (5))]) (rest := []) hx hb hml hl.1 hown hK hZ hP hS (c_L_pieceIs l g base ad S x ((5 : Int)) hfl hI.wc hrn ⟨by decide, by decide⟩) t_266 t_14 t_268 t_267 f_yL_pieceIs ⟨Nat.le_of_ble_eq_true rfl, Nat.le_of_ble_eq_true rfl⟩ rfl rfl (Nat.le_of_ble_eq_true rfl) dL_joins_95 (c2 := 14) (s2 := 84) ⟨by first | rfl | (dsimp only; omega), by first | rfl | (dsimp only; omega)⟩ ⟨by show 14 ≤ 1498; omega, by show 84 ≤ 8988; omega⟩ (q_an (fun H locs hP hS => ?_))
                    refine q_nm (b := shC S (10 + x.toNat)) (((lv_0 h_A.1 (by decide) trivial).trans (pcC_5 rfl))) ?_
                    refine lv_aload_n hx hb dL_joins_98 rfl (lv_at hl 2 rfl) ?_
                    refine lv_iload_n hx hb dL_joins_99 rfl (lv_at hl 5 rfl) ?_
                    refine lv_iconst (v := i32 (5)) hx hb dL_joins_100 rfl ?_
                    refine q_callH2 (As := [.ref (ad 1 0), .int (i32 (z)), .int (i32 (5))]) (rest := [.int (i32 (shC S (10 + x.toNat)))]) hx hb hml hl.1 hown hK hZ hP hS (c_L_pieceIs l g base ad S z ((5 : Int)) hfl hI.wc hrn2 ⟨by decide, by decide⟩) t_266 t_14 t_268 t_267 f_yL_pieceIs ⟨Nat.le_of_ble_eq_true rfl, Nat.le_of_ble_eq_true rfl⟩ rfl rfl (Nat.le_of_ble_eq_true rfl) dL_joins_101 (c2 := 16) (s2 := 96) ⟨by first | rfl | (dsimp only; omega), by first | rfl | (dsimp only; omega)⟩ ⟨by show 16 ≤ 1498; omega, by show 96 ≤ 8988; omega⟩ (q_an (fun H locs hP hS => ?_))
                    refine q_nm (b := shC S (10 + z.toNat)) (((lv_0 h_A.2 (by decide) trivial).trans (pcC_5 rfl))) ?_
                    refine q_iadd hx hb dL_joins_104 ?_
                    refine lv_istore (lv' := [(6, .int (i32 ((shC S (10 + x.toNat)) + (shC S (10 + z.toNat))))), (5, .int (i32 ((S (10 + x.toNat) 0 0) + (S (10 + z.toNat) 0 0)))), (4, .int (i32 (mcC S (10 + x.toNat) (10 + z.toNat)))), (0, .ref (ad 1 0)), (1, .ref (ad 3 3)), (2, .int (i32 (x))), (3, .int (i32 (z)))]) hx hb dL_joins_105 hl (by decide) rfl (fun ls hl => ?_)
                    refine lv_aload_n hx hb dL_joins_107 rfl (lv_at hl 3 rfl) ?_
                    refine lv_iload_n hx hb dL_joins_108 rfl (lv_at hl 5 rfl) ?_
                    refine lv_iconst (v := i32 (1)) hx hb dL_joins_109 rfl ?_
                    refine q_callH2 (As := [.ref (ad 1 0), .int (i32 (x)), .int (i32 (1))]) (rest := []) hx hb hml hl.1 hown hK hZ hP hS (c_L_pieceIs l g base ad S x ((1 : Int)) hfl hI.wc hrn ⟨by decide, by decide⟩) t_266 t_14 t_268 t_267 f_yL_pieceIs ⟨Nat.le_of_ble_eq_true rfl, Nat.le_of_ble_eq_true rfl⟩ rfl rfl (Nat.le_of_ble_eq_true rfl) dL_joins_110 (c2 := 18) (s2 := 108) ⟨by first | rfl | (dsimp only; omega), by first | rfl | (dsimp only; omega)⟩ ⟨by show 18 ≤ 1498; omega, by show 108 ≤ 8988; omega⟩ (q_an (fun H locs hP hS => ?_))
                    refine q_nm (b := S (10 + x.toNat) 0 1) (((lv_0 h_A.1 (by decide) trivial).trans (pcC_1 rfl))) ?_
                    refine lv_istore (lv' := [(7, .int (i32 (S (10 + x.toNat) 0 1))), (6, .int (i32 ((shC S (10 + x.toNat)) + (shC S (10 + z.toNat))))), (5, .int (i32 ((S (10 + x.toNat) 0 0) + (S (10 + z.toNat) 0 0)))), (4, .int (i32 (mcC S (10 + x.toNat) (10 + z.toNat)))), (0, .ref (ad 1 0)), (1, .ref (ad 3 3)), (2, .int (i32 (x))), (3, .int (i32 (z)))]) hx hb dL_joins_113 hl (by decide) rfl (fun ls hl => ?_)
                    refine lv_iload hx hb dL_joins_115 (lv_at hl 0 rfl) ?_
                    refine lv_aload_n hx hb dL_joins_117 rfl (lv_at hl 4 rfl) ?_
                    refine lv_iload_n hx hb dL_joins_118 rfl (lv_at hl 7 rfl) ?_
                    refine lv_iconst (v := i32 (1)) hx hb dL_joins_119 rfl ?_
                    refine q_callH2 (As := [.ref (ad 1 0), .int (i32 (z)), .int (i32 (1))]) (rest := [.int (i32 (S (10 + x.toNat) 0 1))]) hx hb hml hl.1 hown hK hZ hP hS (c_L_pieceIs l g base ad S z ((1 : Int)) hfl hI.wc hrn2 ⟨by decide, by decide⟩) t_266 t_14 t_268 t_267 f_yL_pieceIs ⟨Nat.le_of_ble_eq_true rfl, Nat.le_of_ble_eq_true rfl⟩ rfl rfl (Nat.le_of_ble_eq_true rfl) dL_joins_120 (c2 := 20) (s2 := 120) ⟨by first | rfl | (dsimp only; omega), by first | rfl | (dsimp only; omega)⟩ ⟨by show 20 ≤ 1498; omega, by show 120 ≤ 8988; omega⟩ (q_an (fun H locs hP hS => ?_))
                    refine q_nm (b := S (10 + z.toNat) 0 1) (((lv_0 h_A.2 (by decide) trivial).trans (pcC_1 rfl))) ?_
                    refine q_icmp_ne (tgt := 130) hx hb (rS _ _ _) (rS _ _ _) dL_joins_123 (by decide) (fun c_27 => (by exfalso; omega)) (fun c_27 => ?_)
                    refine lv_iconst (v := i32 (1)) hx hb dL_joins_126 rfl ?_
                    refine lv_goto (tgt := 131) hx hb dL_joins_127 (by decide) ?_
                    refine lv_istore (lv' := [(8, .int (i32 (1))), (7, .int (i32 (S (10 + x.toNat) 0 1))), (6, .int (i32 ((shC S (10 + x.toNat)) + (shC S (10 + z.toNat))))), (5, .int (i32 ((S (10 + x.toNat) 0 0) + (S (10 + z.toNat) 0 0)))), (4, .int (i32 (mcC S (10 + x.toNat) (10 + z.toNat)))), (0, .ref (ad 1 0)), (1, .ref (ad 3 3)), (2, .int (i32 (x))), (3, .int (i32 (z)))]) hx hb dL_joins_131 hl (by decide) rfl (fun ls hl => ?_)
                    refine lv_aload_n hx hb dL_joins_133 rfl (lv_at hl 5 rfl) ?_
                    refine lv_iload_n hx hb dL_joins_134 rfl (lv_at hl 7 rfl) ?_
                    refine lv_iconst (v := i32 (3)) hx hb dL_joins_135 rfl ?_
                    refine q_callH2 (As := [.ref (ad 1 0), .int (i32 (x)), .int (i32 (3))]) (rest := []) hx hb hml hl.1 hown hK hZ hP hS (c_L_pieceIs l g base ad S x ((3 : Int)) hfl hI.wc hrn ⟨by decide, by decide⟩) t_266 t_14 t_268 t_267 f_yL_pieceIs ⟨Nat.le_of_ble_eq_true rfl, Nat.le_of_ble_eq_true rfl⟩ rfl rfl (Nat.le_of_ble_eq_true rfl) dL_joins_136 (c2 := 22) (s2 := 132) ⟨by first | rfl | (dsimp only; omega), by first | rfl | (dsimp only; omega)⟩ ⟨by show 22 ≤ 1498; omega, by show 132 ≤ 8988; omega⟩ (q_an (fun H locs hP hS => ?_))
                    refine q_nm (b := 1) (((lv_0 h_A.1 (by decide) trivial).trans (pcC_3 rfl)).trans (b2_t h_D)) ?_
                    refine lv_aload_n hx hb dL_joins_139 rfl (lv_at hl 5 rfl) ?_
                    refine lv_iload_n hx hb dL_joins_140 rfl (lv_at hl 8 rfl) ?_
                    refine lv_iconst (v := i32 (3)) hx hb dL_joins_141 rfl ?_
                    refine q_callH2 (As := [.ref (ad 1 0), .int (i32 (z)), .int (i32 (3))]) (rest := [.int (i32 (1))]) hx hb hml hl.1 hown hK hZ hP hS (c_L_pieceIs l g base ad S z ((3 : Int)) hfl hI.wc hrn2 ⟨by decide, by decide⟩) t_266 t_14 t_268 t_267 f_yL_pieceIs ⟨Nat.le_of_ble_eq_true rfl, Nat.le_of_ble_eq_true rfl⟩ rfl rfl (Nat.le_of_ble_eq_true rfl) dL_joins_142 (c2 := 24) (s2 := 144) ⟨by first | rfl | (dsimp only; omega), by first | rfl | (dsimp only; omega)⟩ ⟨by show 24 ≤ 1498; omega, by show 144 ≤ 8988; omega⟩ (q_an (fun H locs hP hS => ?_))
                    refine q_nm (b := 1) (((lv_0 h_A.2 (by decide) trivial).trans (pcC_3 rfl)).trans (b2_t h_E)) ?_
                    refine q_iadd hx hb dL_joins_145 ?_
                    refine q_nm (show (1 + 1 : Int) = 2 from by decide) ?_
                    refine lv_iconst (v := i32 (2)) hx hb dL_joins_146 rfl ?_
                    refine q_icmp_ne (tgt := 154) hx hb ⟨by decide, by decide⟩ ⟨by decide, by decide⟩ dL_joins_147 (by decide) (fun c_28 => (by exfalso; omega)) (fun c_28 => ?_)
                    refine lv_iconst (v := i32 (1)) hx hb dL_joins_150 rfl ?_
                    refine lv_goto (tgt := 155) hx hb dL_joins_151 (by decide) ?_
                    refine lv_istore (lv' := [(9, .int (i32 (1))), (8, .int (i32 (1))), (7, .int (i32 (S (10 + x.toNat) 0 1))), (6, .int (i32 ((shC S (10 + x.toNat)) + (shC S (10 + z.toNat))))), (5, .int (i32 ((S (10 + x.toNat) 0 0) + (S (10 + z.toNat) 0 0)))), (4, .int (i32 (mcC S (10 + x.toNat) (10 + z.toNat)))), (0, .ref (ad 1 0)), (1, .ref (ad 3 3)), (2, .int (i32 (x))), (3, .int (i32 (z)))]) hx hb dL_joins_155 hl (by decide) rfl (fun ls hl => ?_)
                    refine lv_aload_n hx hb dL_joins_157 rfl (lv_at hl 6 rfl) ?_
                    refine lv_iload_n hx hb dL_joins_158 rfl (lv_at hl 8 rfl) ?_
                    refine q_callH2 (As := [.ref (ad 1 0), .int (i32 (x))]) (rest := []) hx hb hml hl.1 hown hK hZ hP hS (c_L_isTrue l g base ad S x hfl hI.wc hrn) t_516 t_14 t_518 t_517 f_yL_isTrue ⟨Nat.le_of_ble_eq_true rfl, Nat.le_of_ble_eq_true rfl⟩ rfl rfl (Nat.le_of_ble_eq_true rfl) dL_joins_159 (c2 := 25) (s2 := 150) ⟨by first | rfl | (dsimp only; omega), by first | rfl | (dsimp only; omega)⟩ ⟨by show 25 ≤ 1498; omega, by show 150 ≤ 8988; omega⟩ (q_an (fun H locs hP hS => ?_))
                    refine q_nm (b := 1) ((lv_0 h_A.1 trivial trivial).trans (b2_t h_T)) ?_
                    refine lv_aload_n hx hb dL_joins_162 rfl (lv_at hl 6 rfl) ?_
                    refine lv_iload_n hx hb dL_joins_163 rfl (lv_at hl 9 rfl) ?_
                    refine q_callH2 (As := [.ref (ad 1 0), .int (i32 (z))]) (rest := [.int (i32 (1))]) hx hb hml hl.1 hown hK hZ hP hS (c_L_isTrue l g base ad S z hfl hI.wc hrn2) t_516 t_14 t_518 t_517 f_yL_isTrue ⟨Nat.le_of_ble_eq_true rfl, Nat.le_of_ble_eq_true rfl⟩ rfl rfl (Nat.le_of_ble_eq_true rfl) dL_joins_164 (c2 := 26) (s2 := 156) ⟨by first | rfl | (dsimp only; omega), by first | rfl | (dsimp only; omega)⟩ ⟨by show 26 ≤ 1498; omega, by show 156 ≤ 8988; omega⟩ (q_an (fun H locs hP hS => ?_))
                    refine q_nm (b := 0) ((lv_0 h_A.2 trivial trivial).trans (b2_f h_U)) ?_
                    refine q_iadd hx hb dL_joins_167 ?_
                    refine q_nm (show (1 + 0 : Int) = 1 from by decide) ?_
                    refine lv_istore (lv' := [(10, .int (i32 (1))), (9, .int (i32 (1))), (8, .int (i32 (1))), (7, .int (i32 (S (10 + x.toNat) 0 1))), (6, .int (i32 ((shC S (10 + x.toNat)) + (shC S (10 + z.toNat))))), (5, .int (i32 ((S (10 + x.toNat) 0 0) + (S (10 + z.toNat) 0 0)))), (4, .int (i32 (mcC S (10 + x.toNat) (10 + z.toNat)))), (0, .ref (ad 1 0)), (1, .ref (ad 3 3)), (2, .int (i32 (x))), (3, .int (i32 (z)))]) hx hb dL_joins_168 hl (by decide) rfl (fun ls hl => ?_)
                    refine lv_aload_n hx hb dL_joins_170 rfl (lv_at hl 7 rfl) ?_
                    refine lv_iload_n hx hb dL_joins_171 rfl (lv_at hl 9 rfl) ?_
                    refine lv_iload_n hx hb dL_joins_172 rfl (lv_at hl 10 rfl) ?_
                    have w8 := IV_join hI h_A.1 h_A.2 h_B h_D h_E h_H h_W
                    refine q_callH2 (As := [.ref (ad 1 0), .int (i32 (x)), .int (i32 (z))]) (rest := []) hx hb hml hl.1 hown hK hZ hP hS (c_L_join l g base ad S x z hfl hI.wc hrn hrn2) t_604 t_14 t_606 t_605 f_yL_join ⟨Nat.le_of_ble_eq_true rfl, Nat.le_of_ble_eq_true rfl⟩ rfl rfl (Nat.le_of_ble_eq_true rfl) dL_joins_173 (c2 := 31) (s2 := 186) ⟨by first | rfl | (dsimp only; omega), by first | rfl | (dsimp only; omega)⟩ ⟨by show 31 ≤ 1498; omega, by show 186 ≤ 8988; omega⟩ (fun rr ad' S' H locs hQ hP hS => ?_)
                    have hc9 : (peC S x ∧ peC S z) ∧ (x ≠ z) ∧ (dnC S (10 + x.toNat) ∧ dnC S (10 + z.toNat) ∧ S (10 + x.toNat) 0 1 = S (10 + z.toNat) 0 1 ∧ S (10 + x.toNat) 0 0 + S (10 + z.toNat) 0 0 ≤ 24) := ⟨h_A, h_B, ⟨h_D, h_E, h_H, h_W⟩⟩
                    obtain ⟨⟨hr9, ek9⟩, hQ⟩ := hQ
                    have hs9 := (hQ.resolve_left (fun y9 => y9.1 hc9)).2
                    subst hr9
                    rw [ek9] at hP
                    rw [hs9] at hP
                    refine q_nm (b := 1) ((lv_0 hc9.1 hc9.2.1 hc9.2.2).trans (b2_t (w8.2.2.2.2.1.mpr h_J))) ?_
                    generalize eS29 : jnS S (10 + x.toNat) (10 + z.toNat) z = S29 at hP
                    have rS29 : ∀ (a1 b1 : Nat) (i1 : Int), rng (S29 a1 b1 i1) := fun a1 b1 i1 => hP.rg a1 b1 i1
                    have ivS29 : IV S29 := by rw [← eS29]; exact w8.1
                    have h3S29 : ∀ (b1 : Nat) (i1 : Int), S29 3 b1 i1 = S 3 b1 i1 := by rw [← eS29]; exact fun b i => w8.2.1.1.1 3 b i (by omega) (by omega)
                    rw [eS29] at w8
                    obtain ⟨-, ⟨⟨fr8, -⟩, ⟨j0, -, -⟩, -⟩, ⟨kx3, kz3⟩, jsh, -, jtr⟩ := w8
                    have lv8 : LV S29 := LV_k hV hI.k.1.2 (fun b i => fr8 _ _ _ (by omega) (by omega)) (fr8 _ _ _ (by omega) (by omega)) (fr8 _ _ _ (by omega) (by omega)) (fr8 _ _ _ (by omega) (by omega)) (fun j => fr8 _ _ _ (by omega) (by omega)) (fun a h1 h2 => ⟨fr8 _ _ _ (by omega) (by omega), fr8 _ _ _ (by omega) (by omega)⟩)
                    refine lv_istore (lv' := [(11, .int (i32 (1))), (10, .int (i32 (1))), (9, .int (i32 (1))), (8, .int (i32 (1))), (7, .int (i32 (S (10 + x.toNat) 0 1))), (6, .int (i32 ((shC S (10 + x.toNat)) + (shC S (10 + z.toNat))))), (5, .int (i32 ((S (10 + x.toNat) 0 0) + (S (10 + z.toNat) 0 0)))), (4, .int (i32 (mcC S (10 + x.toNat) (10 + z.toNat)))), (0, .ref (ad 1 0)), (1, .ref (ad 3 3)), (2, .int (i32 (x))), (3, .int (i32 (z)))]) hx hb dL_joins_176 hl (by decide) rfl (fun ls hl => ?_)
                    refine lv_iload hx hb dL_joins_178 (lv_at hl 2 rfl) ?_
                    refine q_if_eq (tgt := 195) hx hb ⟨by decide, by decide⟩ dL_joins_180 (by decide) (fun h => by omega) (fun _ => ?_)
                    refine lv_iload hx hb dL_joins_183 (lv_at hl 3 rfl) ?_
                    refine q_if_eq (tgt := 195) hx hb ⟨by decide, by decide⟩ dL_joins_185 (by decide) (fun h => by omega) (fun _ => ?_)
                    refine lv_iload hx hb dL_joins_188 (lv_at hl 6 rfl) ?_
                    refine lv_bipush (v := i32 (24)) hx hb dL_joins_190 (by decide) ?_
                    refine q_icmp_le (tgt := 249) hx hb ⟨by omega, by omega⟩ ⟨by decide, by decide⟩ dL_joins_192 (by decide) (fun c_30 => ?_) (fun c_30 => (by exfalso; omega))
                    refine lv_iload hx hb dL_joins_249 (lv_at hl 7 rfl) ?_
                    refine q_if_lt (tgt := 332) hx hb ⟨by omega, by omega⟩ dL_joins_251 (by decide) (fun c_31 => (by exfalso; omega)) (fun c_31 => ?_)
                    refine lv_iload hx hb dL_joins_254 (lv_at hl 7 rfl) ?_
                    refine lv_iload hx hb dL_joins_256 (lv_at hl 4 rfl) ?_
                    refine q_icmp_gt (tgt := 332) hx hb ⟨by omega, by omega⟩ (rS _ _ _) dL_joins_258 (by decide) (fun c_32 => (by exfalso; omega)) (fun c_32 => ?_)
                    refine lv_iload hx hb dL_joins_261 (lv_at hl 0 rfl) ?_
                    refine q_if_lt (tgt := 332) hx hb ⟨by decide, by decide⟩ dL_joins_263 (by decide) (fun h => by omega) (fun _ => ?_)
                    refine lv_aload_n hx hb dL_joins_266 rfl (lv_at hl 8 rfl) ?_
                    refine lv_iload_n hx hb dL_joins_267 rfl (lv_at hl 10 rfl) ?_
                    refine lv_iconst (v := i32 (0)) hx hb dL_joins_268 rfl ?_
                    refine q_callH2 (As := [.ref (ad 1 0), .int (i32 (x)), .int (i32 (0))]) (rest := []) hx hb hml hl.1 hown hK hZ hP hS (c_L_pieceIs l g base ad S29 x ((0 : Int)) hfl ivS29.wc hrn ⟨by decide, by decide⟩) t_266 t_14 t_268 t_267 f_yL_pieceIs ⟨Nat.le_of_ble_eq_true rfl, Nat.le_of_ble_eq_true rfl⟩ rfl rfl (Nat.le_of_ble_eq_true rfl) dL_joins_269 (c2 := 33) (s2 := 198) ⟨by first | rfl | (dsimp only; omega), by first | rfl | (dsimp only; omega)⟩ ⟨by show 33 ≤ 1498; omega, by show 198 ≤ 8988; omega⟩ (q_an (fun H locs hP hS => ?_))
                    refine q_nm (b := S (10 + x.toNat) 0 0 + S (10 + z.toNat) 0 0) (((lv_0 kx3 (by decide) trivial).trans (pcC_0 rfl)).trans j0) ?_
                    refine lv_iload hx hb dL_joins_272 (lv_at hl 6 rfl) ?_
                    refine q_icmp_ne (tgt := 332) hx hb ⟨by omega, by omega⟩ ⟨by omega, by omega⟩ dL_joins_274 (by decide) (fun c_33 => (by exfalso; omega)) (fun c_33 => ?_)
                    refine lv_aload_n hx hb dL_joins_277 rfl (lv_at hl 8 rfl) ?_
                    refine lv_iload_n hx hb dL_joins_278 rfl (lv_at hl 10 rfl) ?_
                    refine lv_iconst (v := i32 (5)) hx hb dL_joins_279 rfl ?_
                    refine q_callH2 (As := [.ref (ad 1 0), .int (i32 (x)), .int (i32 (5))]) (rest := []) hx hb hml hl.1 hown hK hZ hP hS (c_L_pieceIs l g base ad S29 x ((5 : Int)) hfl ivS29.wc hrn ⟨by decide, by decide⟩) t_266 t_14 t_268 t_267 f_yL_pieceIs ⟨Nat.le_of_ble_eq_true rfl, Nat.le_of_ble_eq_true rfl⟩ rfl rfl (Nat.le_of_ble_eq_true rfl) dL_joins_280 (c2 := 35) (s2 := 210) ⟨by first | rfl | (dsimp only; omega), by first | rfl | (dsimp only; omega)⟩ ⟨by show 35 ≤ 1498; omega, by show 210 ≤ 8988; omega⟩ (q_an (fun H locs hP hS => ?_))
                    refine q_nm (b := shC S (10 + x.toNat) + shC S (10 + z.toNat)) (((lv_0 kx3 (by decide) trivial).trans (pcC_5 rfl)).trans jsh) ?_
                    refine lv_iload hx hb dL_joins_283 (lv_at hl 5 rfl) ?_
                    refine q_icmp_ne (tgt := 332) hx hb ⟨by omega, by omega⟩ ⟨by omega, by omega⟩ dL_joins_285 (by decide) (fun c_34 => (by exfalso; omega)) (fun c_34 => ?_)
                    refine lv_aload_n hx hb dL_joins_288 rfl (lv_at hl 8 rfl) ?_
                    refine lv_iload_n hx hb dL_joins_289 rfl (lv_at hl 11 rfl) ?_
                    refine lv_iconst (v := i32 (0)) hx hb dL_joins_290 rfl ?_
                    refine q_callH2 (As := [.ref (ad 1 0), .int (i32 (z)), .int (i32 (0))]) (rest := []) hx hb hml hl.1 hown hK hZ hP hS (c_L_pieceIs l g base ad S29 z ((0 : Int)) hfl ivS29.wc hrn2 ⟨by decide, by decide⟩) t_266 t_14 t_268 t_267 f_yL_pieceIs ⟨Nat.le_of_ble_eq_true rfl, Nat.le_of_ble_eq_true rfl⟩ rfl rfl (Nat.le_of_ble_eq_true rfl) dL_joins_291 (c2 := 37) (s2 := 222) ⟨by first | rfl | (dsimp only; omega), by first | rfl | (dsimp only; omega)⟩ ⟨by show 37 ≤ 1498; omega, by show 222 ≤ 8988; omega⟩ (q_an (fun H locs hP hS => ?_))
                    refine q_nm (b := -1000001) (lv_1 kz3) ?_
                    refine q_ldc (z := -1000001) hx hb hown hK t_248 rfl dL_joins_294 ?_
                    refine q_icmp_ne (tgt := 332) hx hb ⟨by decide, by decide⟩ ⟨by decide, by decide⟩ dL_joins_296 (by decide) (fun c_35 => (by exfalso; omega)) (fun c_35 => ?_)
                    refine lv_aload_n hx hb dL_joins_299 rfl (lv_at hl 8 rfl) ?_
                    refine lv_iload_n hx hb dL_joins_300 rfl (lv_at hl 10 rfl) ?_
                    refine q_callH2 (As := [.ref (ad 1 0), .int (i32 (x))]) (rest := []) hx hb hml hl.1 hown hK hZ hP hS (c_L_isTrue l g base ad S29 x hfl ivS29.wc hrn) t_516 t_14 t_518 t_517 f_yL_isTrue ⟨Nat.le_of_ble_eq_true rfl, Nat.le_of_ble_eq_true rfl⟩ rfl rfl (Nat.le_of_ble_eq_true rfl) dL_joins_301 (c2 := 38) (s2 := 228) ⟨by first | rfl | (dsimp only; omega), by first | rfl | (dsimp only; omega)⟩ ⟨by show 38 ≤ 1498; omega, by show 228 ≤ 8988; omega⟩ (q_an (fun H locs hP hS => ?_))
                    refine q_nm (b := 0) ((lv_0 kx3 trivial trivial).trans (b2_f (fun y9 => (fun y : _ ∧ _ ∧ _ => h_U y.2.1) (jtr.mp y9)))) ?_
                    refine lv_iload hx hb dL_joins_304 (lv_at hl 1 rfl) ?_
                    refine lv_iconst (v := i32 (2)) hx hb dL_joins_306 rfl ?_
                    refine q_icmp_ne (tgt := 315) hx hb ⟨by decide, by decide⟩ ⟨by decide, by decide⟩ dL_joins_307 (by decide) (fun c_36 => ?_) (fun c_36 => (by exfalso; omega))
                    refine lv_iconst (v := i32 (0)) hx hb dL_joins_315 rfl ?_
                    refine q_icmp_ne (tgt := 332) hx hb ⟨by decide, by decide⟩ ⟨by decide, by decide⟩ dL_joins_316 (by decide) (fun c_37 => (by exfalso; omega)) (fun c_37 => ?_)
                    refine lv_aload_n hx hb dL_joins_319 rfl (lv_at hl 8 rfl) ?_
                    refine lv_aload_n hx hb dL_joins_320 rfl (lv_at hl 9 rfl) ?_
                    refine lv_iload_n hx hb dL_joins_321 rfl (lv_at hl 10 rfl) ?_
                    refine q_callS2 (As := [.ref (ad 1 0), .ref (ad 3 3), .int (i32 (x))]) (rest := []) hx hb hml hl.1 hown hK hZ hP hS (c_L_isPiece l g base ad S29 x hfl ivS29 kx3 lv8.2.2.2 hrn) t_329 (q_callB hK 328 14 330 t_328 t_14 t_330 f_yL_isPiece ⟨Nat.le_of_ble_eq_true rfl, Nat.le_of_ble_eq_true rfl⟩) rfl rfl (Nat.le_of_ble_eq_true rfl) dL_joins_322 (c2 := 1498) (s2 := 8988) ⟨by first | rfl | (dsimp only; omega), by first | rfl | (dsimp only; omega)⟩ ⟨by show 1498 ≤ 1498; omega, by show 8988 ≤ 8988; omega⟩ (q_an (fun H locs hP hS => ?_))
                    refine q_if_eq (tgt := 332) hx hb ⟨by decide, by decide⟩ dL_joins_325 (by decide) (fun h => by omega) (fun _ => ?_)
                    refine lv_iconst (v := i32 (1)) hx hb dL_joins_328 rfl ?_
                    refine lv_goto (tgt := 333) hx hb dL_joins_329 (by decide) ?_
                    subst hQm
                    exact q_zret hx hb hr hlocks hP hS (v := 1) (by decide) (by exact ⟨⟨rfl, (fun _ _ _ => rfl)⟩, ivS29, lv8⟩) (by show 1498 ≤ 1498; omega) (by show 8988 ≤ 8988; omega) dL_joins_333
                  · skip
                    obtain ⟨-, pw8, ph8, -⟩ := (hI.pp h_A.1).1
                    obtain ⟨-, pw9, ph9, -⟩ := (hI.pp h_A.2).1
                    have hsb8 := sh_b (hI.pp h_A.1)
                    have hsb9 := sh_b (hI.pp h_A.2)
                    have hmc := mc_b (S := S) (o := 10 + x.toNat) (n := 10 + z.toNat) (by omega)
                    refine lv_aload_n hx hb dL_joins_0 rfl (lv_at hl 0 rfl) ?_
                    refine lv_iload_n hx hb dL_joins_1 rfl (lv_at hl 2 rfl) ?_
                    refine lv_iload_n hx hb dL_joins_2 rfl (lv_at hl 3 rfl) ?_
                    refine q_callH2 (As := [.ref (ad 1 0), .int (i32 (x)), .int (i32 (z))]) (rest := []) hx hb hml hl.1 hown hK hZ hP hS (c_L_match l g base ad S x z hfl hI.wc hrn hrn2) t_585 t_14 t_587 t_586 f_yL_match ⟨Nat.le_of_ble_eq_true rfl, Nat.le_of_ble_eq_true rfl⟩ rfl rfl (Nat.le_of_ble_eq_true rfl) dL_joins_3 (c2 := 4) (s2 := 24) ⟨by first | rfl | (dsimp only; omega), by first | rfl | (dsimp only; omega)⟩ ⟨by show 4 ≤ 1498; omega, by show 24 ≤ 8988; omega⟩ (q_an (fun H locs hP hS => ?_))
                    refine q_nm (b := mcC S (10 + x.toNat) (10 + z.toNat)) ((lv_0 h_A h_B ⟨h_D, h_E⟩).trans (cif_t h_H)) ?_
                    refine lv_istore (lv' := [(4, .int (i32 (mcC S (10 + x.toNat) (10 + z.toNat)))), (0, .ref (ad 1 0)), (1, .ref (ad 3 3)), (2, .int (i32 (x))), (3, .int (i32 (z)))]) hx hb dL_joins_6 hl (by decide) rfl (fun ls hl => ?_)
                    refine lv_aload_n hx hb dL_joins_8 rfl (lv_at hl 1 rfl) ?_
                    refine lv_iload_n hx hb dL_joins_9 rfl (lv_at hl 3 rfl) ?_
                    refine q_callS2 (As := [.ref (ad 1 0), .int (i32 (x))]) (rest := []) hx hb hml hl.1 hown hK hZ hP hS (c_L_isThere l g base ad S x hfl hI hrn) t_264 (q_callB hK 263 14 265 t_263 t_14 t_265 f_yL_isThere ⟨Nat.le_of_ble_eq_true rfl, Nat.le_of_ble_eq_true rfl⟩) rfl rfl (Nat.le_of_ble_eq_true rfl) dL_joins_10 (c2 := 6) (s2 := 36) ⟨by first | rfl | (dsimp only; omega), by first | rfl | (dsimp only; omega)⟩ ⟨by show 6 ≤ 1498; omega, by show 36 ≤ 8988; omega⟩ (q_an (fun H locs hP hS => ?_))
                    refine q_if_eqb (tgt := 24) hx hb dL_joins_13 (by decide) (fun c_38 => (by exfalso; exact c_38 h_A.1)) (fun c_38 => ?_)
                    refine lv_aload_n hx hb dL_joins_16 rfl (lv_at hl 1 rfl) ?_
                    refine lv_iload_n hx hb dL_joins_17 rfl (lv_at hl 4 rfl) ?_
                    refine q_callS2 (As := [.ref (ad 1 0), .int (i32 (z))]) (rest := []) hx hb hml hl.1 hown hK hZ hP hS (c_L_isThere l g base ad S z hfl hI hrn2) t_264 (q_callB hK 263 14 265 t_263 t_14 t_265 f_yL_isThere ⟨Nat.le_of_ble_eq_true rfl, Nat.le_of_ble_eq_true rfl⟩) rfl rfl (Nat.le_of_ble_eq_true rfl) dL_joins_18 (c2 := 8) (s2 := 48) ⟨by first | rfl | (dsimp only; omega), by first | rfl | (dsimp only; omega)⟩ ⟨by show 8 ≤ 1498; omega, by show 48 ≤ 8988; omega⟩ (q_an (fun H locs hP hS => ?_))
                    refine q_if_neb (tgt := 48) hx hb dL_joins_21 (by decide) (fun c_39 => ?_) (fun c_39 => (by exfalso; exact c_39 h_A.2))
                    refine lv_iload_n hx hb dL_joins_48 rfl (lv_at hl 3 rfl) ?_
                    refine lv_iload_n hx hb dL_joins_49 rfl (lv_at hl 4 rfl) ?_
                    refine q_icmp_ne (tgt := 77) hx hb hrn hrn2 dL_joins_50 (by decide) (fun _ => ?_) (fun h => by first | exact absurd h_B h | exact absurd h h_B | omega)
                    refine lv_aload_n hx hb dL_joins_77 rfl (lv_at hl 1 rfl) ?_
                    refine lv_iload_n hx hb dL_joins_78 rfl (lv_at hl 3 rfl) ?_
                    refine lv_iconst (v := i32 (0)) hx hb dL_joins_79 rfl ?_
                    refine q_callH2 (As := [.ref (ad 1 0), .int (i32 (x)), .int (i32 (0))]) (rest := []) hx hb hml hl.1 hown hK hZ hP hS (c_L_pieceIs l g base ad S x ((0 : Int)) hfl hI.wc hrn ⟨by decide, by decide⟩) t_266 t_14 t_268 t_267 f_yL_pieceIs ⟨Nat.le_of_ble_eq_true rfl, Nat.le_of_ble_eq_true rfl⟩ rfl rfl (Nat.le_of_ble_eq_true rfl) dL_joins_80 (c2 := 10) (s2 := 60) ⟨by first | rfl | (dsimp only; omega), by first | rfl | (dsimp only; omega)⟩ ⟨by show 10 ≤ 1498; omega, by show 60 ≤ 8988; omega⟩ (q_an (fun H locs hP hS => ?_))
                    refine q_nm (b := S (10 + x.toNat) 0 0) (((lv_0 h_A.1 (by decide) trivial).trans (pcC_0 rfl))) ?_
                    refine lv_aload_n hx hb dL_joins_83 rfl (lv_at hl 1 rfl) ?_
                    refine lv_iload_n hx hb dL_joins_84 rfl (lv_at hl 4 rfl) ?_
                    refine lv_iconst (v := i32 (0)) hx hb dL_joins_85 rfl ?_
                    refine q_callH2 (As := [.ref (ad 1 0), .int (i32 (z)), .int (i32 (0))]) (rest := [.int (i32 (S (10 + x.toNat) 0 0))]) hx hb hml hl.1 hown hK hZ hP hS (c_L_pieceIs l g base ad S z ((0 : Int)) hfl hI.wc hrn2 ⟨by decide, by decide⟩) t_266 t_14 t_268 t_267 f_yL_pieceIs ⟨Nat.le_of_ble_eq_true rfl, Nat.le_of_ble_eq_true rfl⟩ rfl rfl (Nat.le_of_ble_eq_true rfl) dL_joins_86 (c2 := 12) (s2 := 72) ⟨by first | rfl | (dsimp only; omega), by first | rfl | (dsimp only; omega)⟩ ⟨by show 12 ≤ 1498; omega, by show 72 ≤ 8988; omega⟩ (q_an (fun H locs hP hS => ?_))
                    refine q_nm (b := S (10 + z.toNat) 0 0) (((lv_0 h_A.2 (by decide) trivial).trans (pcC_0 rfl))) ?_
                    refine q_iadd hx hb dL_joins_89 ?_
                    refine lv_istore (lv' := [(5, .int (i32 ((S (10 + x.toNat) 0 0) + (S (10 + z.toNat) 0 0)))), (4, .int (i32 (mcC S (10 + x.toNat) (10 + z.toNat)))), (0, .ref (ad 1 0)), (1, .ref (ad 3 3)), (2, .int (i32 (x))), (3, .int (i32 (z)))]) hx hb dL_joins_90 hl (by decide) rfl (fun ls hl => ?_)
                    refine lv_aload_n hx hb dL_joins_92 rfl (lv_at hl 2 rfl) ?_
                    refine lv_iload_n hx hb dL_joins_93 rfl (lv_at hl 4 rfl) ?_
                    refine lv_iconst (v := i32 (5)) hx hb dL_joins_94 rfl ?_
                    refine q_callH2 (As := [.ref (ad 1 0), .int (i32 (x)), .int (i32 (5))]) (rest := []) hx hb hml hl.1 hown hK hZ hP hS (c_L_pieceIs l g base ad S x ((5 : Int)) hfl hI.wc hrn ⟨by decide, by decide⟩) t_266 t_14 t_268 t_267 f_yL_pieceIs ⟨Nat.le_of_ble_eq_true rfl, Nat.le_of_ble_eq_true rfl⟩ rfl rfl (Nat.le_of_ble_eq_true rfl) dL_joins_95 (c2 := 14) (s2 := 84) ⟨by first | rfl | (dsimp only; omega), by first | rfl | (dsimp only; omega)⟩ ⟨by show 14 ≤ 1498; omega, by show 84 ≤ 8988; omega⟩ (q_an (fun H locs hP hS => ?_))
                    refine q_nm (b := shC S (10 + x.toNat)) (((lv_0 h_A.1 (by decide) trivial).trans (pcC_5 rfl))) ?_
                    refine lv_aload_n hx hb dL_joins_98 rfl (lv_at hl 2 rfl) ?_
                    refine lv_iload_n hx hb dL_joins_99 rfl (lv_at hl 5 rfl) ?_
                    refine lv_iconst (v := i32 (5)) hx hb dL_joins_100 rfl ?_
                    refine q_callH2 (As := [.ref (ad 1 0), .int (i32 (z)), .int (i32 (5))]) (rest := [.int (i32 (shC S (10 + x.toNat)))]) hx hb hml hl.1 hown hK hZ hP hS (c_L_pieceIs l g base ad S z ((5 : Int)) hfl hI.wc hrn2 ⟨by decide, by decide⟩) t_266 t_14 t_268 t_267 f_yL_pieceIs ⟨Nat.le_of_ble_eq_true rfl, Nat.le_of_ble_eq_true rfl⟩ rfl rfl (Nat.le_of_ble_eq_true rfl) dL_joins_101 (c2 := 16) (s2 := 96) ⟨by first | rfl | (dsimp only; omega), by first | rfl | (dsimp only; omega)⟩ ⟨by show 16 ≤ 1498; omega, by show 96 ≤ 8988; omega⟩ (q_an (fun H locs hP hS => ?_))
                    refine q_nm (b := shC S (10 + z.toNat)) (((lv_0 h_A.2 (by decide) trivial).trans (pcC_5 rfl))) ?_
                    refine q_iadd hx hb dL_joins_104 ?_
                    refine lv_istore (lv' := [(6, .int (i32 ((shC S (10 + x.toNat)) + (shC S (10 + z.toNat))))), (5, .int (i32 ((S (10 + x.toNat) 0 0) + (S (10 + z.toNat) 0 0)))), (4, .int (i32 (mcC S (10 + x.toNat) (10 + z.toNat)))), (0, .ref (ad 1 0)), (1, .ref (ad 3 3)), (2, .int (i32 (x))), (3, .int (i32 (z)))]) hx hb dL_joins_105 hl (by decide) rfl (fun ls hl => ?_)
                    refine lv_aload_n hx hb dL_joins_107 rfl (lv_at hl 3 rfl) ?_
                    refine lv_iload_n hx hb dL_joins_108 rfl (lv_at hl 5 rfl) ?_
                    refine lv_iconst (v := i32 (1)) hx hb dL_joins_109 rfl ?_
                    refine q_callH2 (As := [.ref (ad 1 0), .int (i32 (x)), .int (i32 (1))]) (rest := []) hx hb hml hl.1 hown hK hZ hP hS (c_L_pieceIs l g base ad S x ((1 : Int)) hfl hI.wc hrn ⟨by decide, by decide⟩) t_266 t_14 t_268 t_267 f_yL_pieceIs ⟨Nat.le_of_ble_eq_true rfl, Nat.le_of_ble_eq_true rfl⟩ rfl rfl (Nat.le_of_ble_eq_true rfl) dL_joins_110 (c2 := 18) (s2 := 108) ⟨by first | rfl | (dsimp only; omega), by first | rfl | (dsimp only; omega)⟩ ⟨by show 18 ≤ 1498; omega, by show 108 ≤ 8988; omega⟩ (q_an (fun H locs hP hS => ?_))
                    refine q_nm (b := S (10 + x.toNat) 0 1) (((lv_0 h_A.1 (by decide) trivial).trans (pcC_1 rfl))) ?_
                    refine lv_istore (lv' := [(7, .int (i32 (S (10 + x.toNat) 0 1))), (6, .int (i32 ((shC S (10 + x.toNat)) + (shC S (10 + z.toNat))))), (5, .int (i32 ((S (10 + x.toNat) 0 0) + (S (10 + z.toNat) 0 0)))), (4, .int (i32 (mcC S (10 + x.toNat) (10 + z.toNat)))), (0, .ref (ad 1 0)), (1, .ref (ad 3 3)), (2, .int (i32 (x))), (3, .int (i32 (z)))]) hx hb dL_joins_113 hl (by decide) rfl (fun ls hl => ?_)
                    refine lv_iload hx hb dL_joins_115 (lv_at hl 0 rfl) ?_
                    refine lv_aload_n hx hb dL_joins_117 rfl (lv_at hl 4 rfl) ?_
                    refine lv_iload_n hx hb dL_joins_118 rfl (lv_at hl 7 rfl) ?_
                    refine lv_iconst (v := i32 (1)) hx hb dL_joins_119 rfl ?_
                    refine q_callH2 (As := [.ref (ad 1 0), .int (i32 (z)), .int (i32 (1))]) (rest := [.int (i32 (S (10 + x.toNat) 0 1))]) hx hb hml hl.1 hown hK hZ hP hS (c_L_pieceIs l g base ad S z ((1 : Int)) hfl hI.wc hrn2 ⟨by decide, by decide⟩) t_266 t_14 t_268 t_267 f_yL_pieceIs ⟨Nat.le_of_ble_eq_true rfl, Nat.le_of_ble_eq_true rfl⟩ rfl rfl (Nat.le_of_ble_eq_true rfl) dL_joins_120 (c2 := 20) (s2 := 120) ⟨by first | rfl | (dsimp only; omega), by first | rfl | (dsimp only; omega)⟩ ⟨by show 20 ≤ 1498; omega, by show 120 ≤ 8988; omega⟩ (q_an (fun H locs hP hS => ?_))
                    refine q_nm (b := S (10 + z.toNat) 0 1) (((lv_0 h_A.2 (by decide) trivial).trans (pcC_1 rfl))) ?_
                    refine q_icmp_ne (tgt := 130) hx hb (rS _ _ _) (rS _ _ _) dL_joins_123 (by decide) (fun c_40 => (by exfalso; omega)) (fun c_40 => ?_)
                    refine lv_iconst (v := i32 (1)) hx hb dL_joins_126 rfl ?_
                    refine lv_goto (tgt := 131) hx hb dL_joins_127 (by decide) ?_
                    refine lv_istore (lv' := [(8, .int (i32 (1))), (7, .int (i32 (S (10 + x.toNat) 0 1))), (6, .int (i32 ((shC S (10 + x.toNat)) + (shC S (10 + z.toNat))))), (5, .int (i32 ((S (10 + x.toNat) 0 0) + (S (10 + z.toNat) 0 0)))), (4, .int (i32 (mcC S (10 + x.toNat) (10 + z.toNat)))), (0, .ref (ad 1 0)), (1, .ref (ad 3 3)), (2, .int (i32 (x))), (3, .int (i32 (z)))]) hx hb dL_joins_131 hl (by decide) rfl (fun ls hl => ?_)
                    refine lv_aload_n hx hb dL_joins_133 rfl (lv_at hl 5 rfl) ?_
                    refine lv_iload_n hx hb dL_joins_134 rfl (lv_at hl 7 rfl) ?_
                    refine lv_iconst (v := i32 (3)) hx hb dL_joins_135 rfl ?_
                    refine q_callH2 (As := [.ref (ad 1 0), .int (i32 (x)), .int (i32 (3))]) (rest := []) hx hb hml hl.1 hown hK hZ hP hS (c_L_pieceIs l g base ad S x ((3 : Int)) hfl hI.wc hrn ⟨by decide, by decide⟩) t_266 t_14 t_268 t_267 f_yL_pieceIs ⟨Nat.le_of_ble_eq_true rfl, Nat.le_of_ble_eq_true rfl⟩ rfl rfl (Nat.le_of_ble_eq_true rfl) dL_joins_136 (c2 := 22) (s2 := 132) ⟨by first | rfl | (dsimp only; omega), by first | rfl | (dsimp only; omega)⟩ ⟨by show 22 ≤ 1498; omega, by show 132 ≤ 8988; omega⟩ (q_an (fun H locs hP hS => ?_))
                    refine q_nm (b := 1) (((lv_0 h_A.1 (by decide) trivial).trans (pcC_3 rfl)).trans (b2_t h_D)) ?_
                    refine lv_aload_n hx hb dL_joins_139 rfl (lv_at hl 5 rfl) ?_
                    refine lv_iload_n hx hb dL_joins_140 rfl (lv_at hl 8 rfl) ?_
                    refine lv_iconst (v := i32 (3)) hx hb dL_joins_141 rfl ?_
                    refine q_callH2 (As := [.ref (ad 1 0), .int (i32 (z)), .int (i32 (3))]) (rest := [.int (i32 (1))]) hx hb hml hl.1 hown hK hZ hP hS (c_L_pieceIs l g base ad S z ((3 : Int)) hfl hI.wc hrn2 ⟨by decide, by decide⟩) t_266 t_14 t_268 t_267 f_yL_pieceIs ⟨Nat.le_of_ble_eq_true rfl, Nat.le_of_ble_eq_true rfl⟩ rfl rfl (Nat.le_of_ble_eq_true rfl) dL_joins_142 (c2 := 24) (s2 := 144) ⟨by first | rfl | (dsimp only; omega), by first | rfl | (dsimp only; omega)⟩ ⟨by show 24 ≤ 1498; omega, by show 144 ≤ 8988; omega⟩ (q_an (fun H locs hP hS => ?_))
                    refine q_nm (b := 1) (((lv_0 h_A.2 (by decide) trivial).trans (pcC_3 rfl)).trans (b2_t h_E)) ?_
                    refine q_iadd hx hb dL_joins_145 ?_
                    refine q_nm (show (1 + 1 : Int) = 2 from by decide) ?_
                    refine lv_iconst (v := i32 (2)) hx hb dL_joins_146 rfl ?_
                    refine q_icmp_ne (tgt := 154) hx hb ⟨by decide, by decide⟩ ⟨by decide, by decide⟩ dL_joins_147 (by decide) (fun c_41 => (by exfalso; omega)) (fun c_41 => ?_)
                    refine lv_iconst (v := i32 (1)) hx hb dL_joins_150 rfl ?_
                    refine lv_goto (tgt := 155) hx hb dL_joins_151 (by decide) ?_
                    refine lv_istore (lv' := [(9, .int (i32 (1))), (8, .int (i32 (1))), (7, .int (i32 (S (10 + x.toNat) 0 1))), (6, .int (i32 ((shC S (10 + x.toNat)) + (shC S (10 + z.toNat))))), (5, .int (i32 ((S (10 + x.toNat) 0 0) + (S (10 + z.toNat) 0 0)))), (4, .int (i32 (mcC S (10 + x.toNat) (10 + z.toNat)))), (0, .ref (ad 1 0)), (1, .ref (ad 3 3)), (2, .int (i32 (x))), (3, .int (i32 (z)))]) hx hb dL_joins_155 hl (by decide) rfl (fun ls hl => ?_)
                    refine lv_aload_n hx hb dL_joins_157 rfl (lv_at hl 6 rfl) ?_
                    refine lv_iload_n hx hb dL_joins_158 rfl (lv_at hl 8 rfl) ?_
                    refine q_callH2 (As := [.ref (ad 1 0), .int (i32 (x))]) (rest := []) hx hb hml hl.1 hown hK hZ hP hS (c_L_isTrue l g base ad S x hfl hI.wc hrn) t_516 t_14 t_518 t_517 f_yL_isTrue ⟨Nat.le_of_ble_eq_true rfl, Nat.le_of_ble_eq_true rfl⟩ rfl rfl (Nat.le_of_ble_eq_true rfl) dL_joins_159 (c2 := 25) (s2 := 150) ⟨by first | rfl | (dsimp only; omega), by first | rfl | (dsimp only; omega)⟩ ⟨by show 25 ≤ 1498; omega, by show 150 ≤ 8988; omega⟩ (q_an (fun H locs hP hS => ?_))
                    refine q_nm (b := 1) ((lv_0 h_A.1 trivial trivial).trans (b2_t h_T)) ?_
                    refine lv_aload_n hx hb dL_joins_162 rfl (lv_at hl 6 rfl) ?_
                    refine lv_iload_n hx hb dL_joins_163 rfl (lv_at hl 9 rfl) ?_
                    refine q_callH2 (As := [.ref (ad 1 0), .int (i32 (z))]) (rest := [.int (i32 (1))]) hx hb hml hl.1 hown hK hZ hP hS (c_L_isTrue l g base ad S z hfl hI.wc hrn2) t_516 t_14 t_518 t_517 f_yL_isTrue ⟨Nat.le_of_ble_eq_true rfl, Nat.le_of_ble_eq_true rfl⟩ rfl rfl (Nat.le_of_ble_eq_true rfl) dL_joins_164 (c2 := 26) (s2 := 156) ⟨by first | rfl | (dsimp only; omega), by first | rfl | (dsimp only; omega)⟩ ⟨by show 26 ≤ 1498; omega, by show 156 ≤ 8988; omega⟩ (q_an (fun H locs hP hS => ?_))
                    refine q_nm (b := 0) ((lv_0 h_A.2 trivial trivial).trans (b2_f h_U)) ?_
                    refine q_iadd hx hb dL_joins_167 ?_
                    refine q_nm (show (1 + 0 : Int) = 1 from by decide) ?_
                    refine lv_istore (lv' := [(10, .int (i32 (1))), (9, .int (i32 (1))), (8, .int (i32 (1))), (7, .int (i32 (S (10 + x.toNat) 0 1))), (6, .int (i32 ((shC S (10 + x.toNat)) + (shC S (10 + z.toNat))))), (5, .int (i32 ((S (10 + x.toNat) 0 0) + (S (10 + z.toNat) 0 0)))), (4, .int (i32 (mcC S (10 + x.toNat) (10 + z.toNat)))), (0, .ref (ad 1 0)), (1, .ref (ad 3 3)), (2, .int (i32 (x))), (3, .int (i32 (z)))]) hx hb dL_joins_168 hl (by decide) rfl (fun ls hl => ?_)
                    refine lv_aload_n hx hb dL_joins_170 rfl (lv_at hl 7 rfl) ?_
                    refine lv_iload_n hx hb dL_joins_171 rfl (lv_at hl 9 rfl) ?_
                    refine lv_iload_n hx hb dL_joins_172 rfl (lv_at hl 10 rfl) ?_
                    have w8 := IV_join hI h_A.1 h_A.2 h_B h_D h_E h_H h_W
                    refine q_callH2 (As := [.ref (ad 1 0), .int (i32 (x)), .int (i32 (z))]) (rest := []) hx hb hml hl.1 hown hK hZ hP hS (c_L_join l g base ad S x z hfl hI.wc hrn hrn2) t_604 t_14 t_606 t_605 f_yL_join ⟨Nat.le_of_ble_eq_true rfl, Nat.le_of_ble_eq_true rfl⟩ rfl rfl (Nat.le_of_ble_eq_true rfl) dL_joins_173 (c2 := 31) (s2 := 186) ⟨by first | rfl | (dsimp only; omega), by first | rfl | (dsimp only; omega)⟩ ⟨by show 31 ≤ 1498; omega, by show 186 ≤ 8988; omega⟩ (fun rr ad' S' H locs hQ hP hS => ?_)
                    have hc9 : (peC S x ∧ peC S z) ∧ (x ≠ z) ∧ (dnC S (10 + x.toNat) ∧ dnC S (10 + z.toNat) ∧ S (10 + x.toNat) 0 1 = S (10 + z.toNat) 0 1 ∧ S (10 + x.toNat) 0 0 + S (10 + z.toNat) 0 0 ≤ 24) := ⟨h_A, h_B, ⟨h_D, h_E, h_H, h_W⟩⟩
                    obtain ⟨⟨hr9, ek9⟩, hQ⟩ := hQ
                    have hs9 := (hQ.resolve_left (fun y9 => y9.1 hc9)).2
                    subst hr9
                    rw [ek9] at hP
                    rw [hs9] at hP
                    refine q_nm (b := 0) ((lv_0 hc9.1 hc9.2.1 hc9.2.2).trans (b2_f (fun y => h_J (w8.2.2.2.2.1.mp y)))) ?_
                    generalize eS42 : jnS S (10 + x.toNat) (10 + z.toNat) z = S42 at hP
                    have rS42 : ∀ (a1 b1 : Nat) (i1 : Int), rng (S42 a1 b1 i1) := fun a1 b1 i1 => hP.rg a1 b1 i1
                    have ivS42 : IV S42 := by rw [← eS42]; exact w8.1
                    have h3S42 : ∀ (b1 : Nat) (i1 : Int), S42 3 b1 i1 = S 3 b1 i1 := by rw [← eS42]; exact fun b i => w8.2.1.1.1 3 b i (by omega) (by omega)
                    rw [eS42] at w8
                    obtain ⟨-, ⟨⟨fr8, -⟩, ⟨j0, -, -⟩, -⟩, ⟨kx3, kz3⟩, jsh, -, jtr⟩ := w8
                    have lv8 : LV S42 := LV_k hV hI.k.1.2 (fun b i => fr8 _ _ _ (by omega) (by omega)) (fr8 _ _ _ (by omega) (by omega)) (fr8 _ _ _ (by omega) (by omega)) (fr8 _ _ _ (by omega) (by omega)) (fun j => fr8 _ _ _ (by omega) (by omega)) (fun a h1 h2 => ⟨fr8 _ _ _ (by omega) (by omega), fr8 _ _ _ (by omega) (by omega)⟩)
                    refine lv_istore (lv' := [(11, .int (i32 (0))), (10, .int (i32 (1))), (9, .int (i32 (1))), (8, .int (i32 (1))), (7, .int (i32 (S (10 + x.toNat) 0 1))), (6, .int (i32 ((shC S (10 + x.toNat)) + (shC S (10 + z.toNat))))), (5, .int (i32 ((S (10 + x.toNat) 0 0) + (S (10 + z.toNat) 0 0)))), (4, .int (i32 (mcC S (10 + x.toNat) (10 + z.toNat)))), (0, .ref (ad 1 0)), (1, .ref (ad 3 3)), (2, .int (i32 (x))), (3, .int (i32 (z)))]) hx hb dL_joins_176 hl (by decide) rfl (fun ls hl => ?_)
                    refine lv_iload hx hb dL_joins_178 (lv_at hl 2 rfl) ?_
                    refine q_if_eq (tgt := 195) hx hb ⟨by decide, by decide⟩ dL_joins_180 (by decide) (fun h => by omega) (fun _ => ?_)
                    refine lv_iload hx hb dL_joins_183 (lv_at hl 3 rfl) ?_
                    refine q_if_eq (tgt := 195) hx hb ⟨by decide, by decide⟩ dL_joins_185 (by decide) (fun h => by omega) (fun _ => ?_)
                    refine lv_iload hx hb dL_joins_188 (lv_at hl 6 rfl) ?_
                    refine lv_bipush (v := i32 (24)) hx hb dL_joins_190 (by decide) ?_
                    refine q_icmp_le (tgt := 249) hx hb ⟨by omega, by omega⟩ ⟨by decide, by decide⟩ dL_joins_192 (by decide) (fun c_43 => ?_) (fun c_43 => (by exfalso; omega))
                    refine lv_iload hx hb dL_joins_249 (lv_at hl 7 rfl) ?_
                    refine q_if_lt (tgt := 332) hx hb ⟨by omega, by omega⟩ dL_joins_251 (by decide) (fun c_44 => (by exfalso; omega)) (fun c_44 => ?_)
                    refine lv_iload hx hb dL_joins_254 (lv_at hl 7 rfl) ?_
                    refine lv_iload hx hb dL_joins_256 (lv_at hl 4 rfl) ?_
                    refine q_icmp_gt (tgt := 332) hx hb ⟨by omega, by omega⟩ (rS _ _ _) dL_joins_258 (by decide) (fun c_45 => (by exfalso; omega)) (fun c_45 => ?_)
                    refine lv_iload hx hb dL_joins_261 (lv_at hl 0 rfl) ?_
                    refine q_if_lt (tgt := 332) hx hb ⟨by decide, by decide⟩ dL_joins_263 (by decide) (fun h => by omega) (fun _ => ?_)
                    refine lv_aload_n hx hb dL_joins_266 rfl (lv_at hl 8 rfl) ?_
                    refine lv_iload_n hx hb dL_joins_267 rfl (lv_at hl 10 rfl) ?_
                    refine lv_iconst (v := i32 (0)) hx hb dL_joins_268 rfl ?_
                    refine q_callH2 (As := [.ref (ad 1 0), .int (i32 (x)), .int (i32 (0))]) (rest := []) hx hb hml hl.1 hown hK hZ hP hS (c_L_pieceIs l g base ad S42 x ((0 : Int)) hfl ivS42.wc hrn ⟨by decide, by decide⟩) t_266 t_14 t_268 t_267 f_yL_pieceIs ⟨Nat.le_of_ble_eq_true rfl, Nat.le_of_ble_eq_true rfl⟩ rfl rfl (Nat.le_of_ble_eq_true rfl) dL_joins_269 (c2 := 33) (s2 := 198) ⟨by first | rfl | (dsimp only; omega), by first | rfl | (dsimp only; omega)⟩ ⟨by show 33 ≤ 1498; omega, by show 198 ≤ 8988; omega⟩ (q_an (fun H locs hP hS => ?_))
                    refine q_nm (b := S (10 + x.toNat) 0 0 + S (10 + z.toNat) 0 0) (((lv_0 kx3 (by decide) trivial).trans (pcC_0 rfl)).trans j0) ?_
                    refine lv_iload hx hb dL_joins_272 (lv_at hl 6 rfl) ?_
                    refine q_icmp_ne (tgt := 332) hx hb ⟨by omega, by omega⟩ ⟨by omega, by omega⟩ dL_joins_274 (by decide) (fun c_46 => (by exfalso; omega)) (fun c_46 => ?_)
                    refine lv_aload_n hx hb dL_joins_277 rfl (lv_at hl 8 rfl) ?_
                    refine lv_iload_n hx hb dL_joins_278 rfl (lv_at hl 10 rfl) ?_
                    refine lv_iconst (v := i32 (5)) hx hb dL_joins_279 rfl ?_
                    refine q_callH2 (As := [.ref (ad 1 0), .int (i32 (x)), .int (i32 (5))]) (rest := []) hx hb hml hl.1 hown hK hZ hP hS (c_L_pieceIs l g base ad S42 x ((5 : Int)) hfl ivS42.wc hrn ⟨by decide, by decide⟩) t_266 t_14 t_268 t_267 f_yL_pieceIs ⟨Nat.le_of_ble_eq_true rfl, Nat.le_of_ble_eq_true rfl⟩ rfl rfl (Nat.le_of_ble_eq_true rfl) dL_joins_280 (c2 := 35) (s2 := 210) ⟨by first | rfl | (dsimp only; omega), by first | rfl | (dsimp only; omega)⟩ ⟨by show 35 ≤ 1498; omega, by show 210 ≤ 8988; omega⟩ (q_an (fun H locs hP hS => ?_))
                    refine q_nm (b := shC S (10 + x.toNat) + shC S (10 + z.toNat)) (((lv_0 kx3 (by decide) trivial).trans (pcC_5 rfl)).trans jsh) ?_
                    refine lv_iload hx hb dL_joins_283 (lv_at hl 5 rfl) ?_
                    refine q_icmp_ne (tgt := 332) hx hb ⟨by omega, by omega⟩ ⟨by omega, by omega⟩ dL_joins_285 (by decide) (fun c_47 => (by exfalso; omega)) (fun c_47 => ?_)
                    refine lv_aload_n hx hb dL_joins_288 rfl (lv_at hl 8 rfl) ?_
                    refine lv_iload_n hx hb dL_joins_289 rfl (lv_at hl 11 rfl) ?_
                    refine lv_iconst (v := i32 (0)) hx hb dL_joins_290 rfl ?_
                    refine q_callH2 (As := [.ref (ad 1 0), .int (i32 (z)), .int (i32 (0))]) (rest := []) hx hb hml hl.1 hown hK hZ hP hS (c_L_pieceIs l g base ad S42 z ((0 : Int)) hfl ivS42.wc hrn2 ⟨by decide, by decide⟩) t_266 t_14 t_268 t_267 f_yL_pieceIs ⟨Nat.le_of_ble_eq_true rfl, Nat.le_of_ble_eq_true rfl⟩ rfl rfl (Nat.le_of_ble_eq_true rfl) dL_joins_291 (c2 := 37) (s2 := 222) ⟨by first | rfl | (dsimp only; omega), by first | rfl | (dsimp only; omega)⟩ ⟨by show 37 ≤ 1498; omega, by show 222 ≤ 8988; omega⟩ (q_an (fun H locs hP hS => ?_))
                    refine q_nm (b := -1000001) (lv_1 kz3) ?_
                    refine q_ldc (z := -1000001) hx hb hown hK t_248 rfl dL_joins_294 ?_
                    refine q_icmp_ne (tgt := 332) hx hb ⟨by decide, by decide⟩ ⟨by decide, by decide⟩ dL_joins_296 (by decide) (fun c_48 => (by exfalso; omega)) (fun c_48 => ?_)
                    refine lv_aload_n hx hb dL_joins_299 rfl (lv_at hl 8 rfl) ?_
                    refine lv_iload_n hx hb dL_joins_300 rfl (lv_at hl 10 rfl) ?_
                    refine q_callH2 (As := [.ref (ad 1 0), .int (i32 (x))]) (rest := []) hx hb hml hl.1 hown hK hZ hP hS (c_L_isTrue l g base ad S42 x hfl ivS42.wc hrn) t_516 t_14 t_518 t_517 f_yL_isTrue ⟨Nat.le_of_ble_eq_true rfl, Nat.le_of_ble_eq_true rfl⟩ rfl rfl (Nat.le_of_ble_eq_true rfl) dL_joins_301 (c2 := 38) (s2 := 228) ⟨by first | rfl | (dsimp only; omega), by first | rfl | (dsimp only; omega)⟩ ⟨by show 38 ≤ 1498; omega, by show 228 ≤ 8988; omega⟩ (q_an (fun H locs hP hS => ?_))
                    refine q_nm (b := 0) ((lv_0 kx3 trivial trivial).trans (b2_f (fun y9 => (fun y : _ ∧ _ ∧ _ => h_J y.2.2) (jtr.mp y9)))) ?_
                    refine lv_iload hx hb dL_joins_304 (lv_at hl 1 rfl) ?_
                    refine lv_iconst (v := i32 (2)) hx hb dL_joins_306 rfl ?_
                    refine q_icmp_ne (tgt := 315) hx hb ⟨by decide, by decide⟩ ⟨by decide, by decide⟩ dL_joins_307 (by decide) (fun c_49 => ?_) (fun c_49 => (by exfalso; omega))
                    refine lv_iconst (v := i32 (0)) hx hb dL_joins_315 rfl ?_
                    refine q_icmp_ne (tgt := 332) hx hb ⟨by decide, by decide⟩ ⟨by decide, by decide⟩ dL_joins_316 (by decide) (fun c_50 => (by exfalso; omega)) (fun c_50 => ?_)
                    refine lv_aload_n hx hb dL_joins_319 rfl (lv_at hl 8 rfl) ?_
                    refine lv_aload_n hx hb dL_joins_320 rfl (lv_at hl 9 rfl) ?_
                    refine lv_iload_n hx hb dL_joins_321 rfl (lv_at hl 10 rfl) ?_
                    refine q_callS2 (As := [.ref (ad 1 0), .ref (ad 3 3), .int (i32 (x))]) (rest := []) hx hb hml hl.1 hown hK hZ hP hS (c_L_isPiece l g base ad S42 x hfl ivS42 kx3 lv8.2.2.2 hrn) t_329 (q_callB hK 328 14 330 t_328 t_14 t_330 f_yL_isPiece ⟨Nat.le_of_ble_eq_true rfl, Nat.le_of_ble_eq_true rfl⟩) rfl rfl (Nat.le_of_ble_eq_true rfl) dL_joins_322 (c2 := 1498) (s2 := 8988) ⟨by first | rfl | (dsimp only; omega), by first | rfl | (dsimp only; omega)⟩ ⟨by show 1498 ≤ 1498; omega, by show 8988 ≤ 8988; omega⟩ (q_an (fun H locs hP hS => ?_))
                    refine q_if_eq (tgt := 332) hx hb ⟨by decide, by decide⟩ dL_joins_325 (by decide) (fun h => by omega) (fun _ => ?_)
                    refine lv_iconst (v := i32 (1)) hx hb dL_joins_328 rfl ?_
                    refine lv_goto (tgt := 333) hx hb dL_joins_329 (by decide) ?_
                    subst hQm
                    exact q_zret hx hb hr hlocks hP hS (v := 1) (by decide) (by exact ⟨⟨rfl, (fun _ _ _ => rfl)⟩, ivS42, lv8⟩) (by show 1498 ≤ 1498; omega) (by show 8988 ≤ 8988; omega) dL_joins_333
              · skip
                by_cases h_U : trC S (10 + z.toNat)
                · skip
                  by_cases h_J : S (10 + x.toNat) 8 (S (10 + x.toNat) 0 0 - 1) + 1 = S (10 + z.toNat) 8 0
                  · skip
                    obtain ⟨-, pw8, ph8, -⟩ := (hI.pp h_A.1).1
                    obtain ⟨-, pw9, ph9, -⟩ := (hI.pp h_A.2).1
                    have hsb8 := sh_b (hI.pp h_A.1)
                    have hsb9 := sh_b (hI.pp h_A.2)
                    have hmc := mc_b (S := S) (o := 10 + x.toNat) (n := 10 + z.toNat) (by omega)
                    refine lv_aload_n hx hb dL_joins_0 rfl (lv_at hl 0 rfl) ?_
                    refine lv_iload_n hx hb dL_joins_1 rfl (lv_at hl 2 rfl) ?_
                    refine lv_iload_n hx hb dL_joins_2 rfl (lv_at hl 3 rfl) ?_
                    refine q_callH2 (As := [.ref (ad 1 0), .int (i32 (x)), .int (i32 (z))]) (rest := []) hx hb hml hl.1 hown hK hZ hP hS (c_L_match l g base ad S x z hfl hI.wc hrn hrn2) t_585 t_14 t_587 t_586 f_yL_match ⟨Nat.le_of_ble_eq_true rfl, Nat.le_of_ble_eq_true rfl⟩ rfl rfl (Nat.le_of_ble_eq_true rfl) dL_joins_3 (c2 := 4) (s2 := 24) ⟨by first | rfl | (dsimp only; omega), by first | rfl | (dsimp only; omega)⟩ ⟨by show 4 ≤ 1498; omega, by show 24 ≤ 8988; omega⟩ (q_an (fun H locs hP hS => ?_))
                    refine q_nm (b := mcC S (10 + x.toNat) (10 + z.toNat)) ((lv_0 h_A h_B ⟨h_D, h_E⟩).trans (cif_t h_H)) ?_
                    refine lv_istore (lv' := [(4, .int (i32 (mcC S (10 + x.toNat) (10 + z.toNat)))), (0, .ref (ad 1 0)), (1, .ref (ad 3 3)), (2, .int (i32 (x))), (3, .int (i32 (z)))]) hx hb dL_joins_6 hl (by decide) rfl (fun ls hl => ?_)
                    refine lv_aload_n hx hb dL_joins_8 rfl (lv_at hl 1 rfl) ?_
                    refine lv_iload_n hx hb dL_joins_9 rfl (lv_at hl 3 rfl) ?_
                    refine q_callS2 (As := [.ref (ad 1 0), .int (i32 (x))]) (rest := []) hx hb hml hl.1 hown hK hZ hP hS (c_L_isThere l g base ad S x hfl hI hrn) t_264 (q_callB hK 263 14 265 t_263 t_14 t_265 f_yL_isThere ⟨Nat.le_of_ble_eq_true rfl, Nat.le_of_ble_eq_true rfl⟩) rfl rfl (Nat.le_of_ble_eq_true rfl) dL_joins_10 (c2 := 6) (s2 := 36) ⟨by first | rfl | (dsimp only; omega), by first | rfl | (dsimp only; omega)⟩ ⟨by show 6 ≤ 1498; omega, by show 36 ≤ 8988; omega⟩ (q_an (fun H locs hP hS => ?_))
                    refine q_if_eqb (tgt := 24) hx hb dL_joins_13 (by decide) (fun c_51 => (by exfalso; exact c_51 h_A.1)) (fun c_51 => ?_)
                    refine lv_aload_n hx hb dL_joins_16 rfl (lv_at hl 1 rfl) ?_
                    refine lv_iload_n hx hb dL_joins_17 rfl (lv_at hl 4 rfl) ?_
                    refine q_callS2 (As := [.ref (ad 1 0), .int (i32 (z))]) (rest := []) hx hb hml hl.1 hown hK hZ hP hS (c_L_isThere l g base ad S z hfl hI hrn2) t_264 (q_callB hK 263 14 265 t_263 t_14 t_265 f_yL_isThere ⟨Nat.le_of_ble_eq_true rfl, Nat.le_of_ble_eq_true rfl⟩) rfl rfl (Nat.le_of_ble_eq_true rfl) dL_joins_18 (c2 := 8) (s2 := 48) ⟨by first | rfl | (dsimp only; omega), by first | rfl | (dsimp only; omega)⟩ ⟨by show 8 ≤ 1498; omega, by show 48 ≤ 8988; omega⟩ (q_an (fun H locs hP hS => ?_))
                    refine q_if_neb (tgt := 48) hx hb dL_joins_21 (by decide) (fun c_52 => ?_) (fun c_52 => (by exfalso; exact c_52 h_A.2))
                    refine lv_iload_n hx hb dL_joins_48 rfl (lv_at hl 3 rfl) ?_
                    refine lv_iload_n hx hb dL_joins_49 rfl (lv_at hl 4 rfl) ?_
                    refine q_icmp_ne (tgt := 77) hx hb hrn hrn2 dL_joins_50 (by decide) (fun _ => ?_) (fun h => by first | exact absurd h_B h | exact absurd h h_B | omega)
                    refine lv_aload_n hx hb dL_joins_77 rfl (lv_at hl 1 rfl) ?_
                    refine lv_iload_n hx hb dL_joins_78 rfl (lv_at hl 3 rfl) ?_
                    refine lv_iconst (v := i32 (0)) hx hb dL_joins_79 rfl ?_
                    refine q_callH2 (As := [.ref (ad 1 0), .int (i32 (x)), .int (i32 (0))]) (rest := []) hx hb hml hl.1 hown hK hZ hP hS (c_L_pieceIs l g base ad S x ((0 : Int)) hfl hI.wc hrn ⟨by decide, by decide⟩) t_266 t_14 t_268 t_267 f_yL_pieceIs ⟨Nat.le_of_ble_eq_true rfl, Nat.le_of_ble_eq_true rfl⟩ rfl rfl (Nat.le_of_ble_eq_true rfl) dL_joins_80 (c2 := 10) (s2 := 60) ⟨by first | rfl | (dsimp only; omega), by first | rfl | (dsimp only; omega)⟩ ⟨by show 10 ≤ 1498; omega, by show 60 ≤ 8988; omega⟩ (q_an (fun H locs hP hS => ?_))
                    refine q_nm (b := S (10 + x.toNat) 0 0) (((lv_0 h_A.1 (by decide) trivial).trans (pcC_0 rfl))) ?_
                    refine lv_aload_n hx hb dL_joins_83 rfl (lv_at hl 1 rfl) ?_
                    refine lv_iload_n hx hb dL_joins_84 rfl (lv_at hl 4 rfl) ?_
                    refine lv_iconst (v := i32 (0)) hx hb dL_joins_85 rfl ?_
                    refine q_callH2 (As := [.ref (ad 1 0), .int (i32 (z)), .int (i32 (0))]) (rest := [.int (i32 (S (10 + x.toNat) 0 0))]) hx hb hml hl.1 hown hK hZ hP hS (c_L_pieceIs l g base ad S z ((0 : Int)) hfl hI.wc hrn2 ⟨by decide, by decide⟩) t_266 t_14 t_268 t_267 f_yL_pieceIs ⟨Nat.le_of_ble_eq_true rfl, Nat.le_of_ble_eq_true rfl⟩ rfl rfl (Nat.le_of_ble_eq_true rfl) dL_joins_86 (c2 := 12) (s2 := 72) ⟨by first | rfl | (dsimp only; omega), by first | rfl | (dsimp only; omega)⟩ ⟨by show 12 ≤ 1498; omega, by show 72 ≤ 8988; omega⟩ (q_an (fun H locs hP hS => ?_))
                    refine q_nm (b := S (10 + z.toNat) 0 0) (((lv_0 h_A.2 (by decide) trivial).trans (pcC_0 rfl))) ?_
                    refine q_iadd hx hb dL_joins_89 ?_
                    refine lv_istore (lv' := [(5, .int (i32 ((S (10 + x.toNat) 0 0) + (S (10 + z.toNat) 0 0)))), (4, .int (i32 (mcC S (10 + x.toNat) (10 + z.toNat)))), (0, .ref (ad 1 0)), (1, .ref (ad 3 3)), (2, .int (i32 (x))), (3, .int (i32 (z)))]) hx hb dL_joins_90 hl (by decide) rfl (fun ls hl => ?_)
                    refine lv_aload_n hx hb dL_joins_92 rfl (lv_at hl 2 rfl) ?_
                    refine lv_iload_n hx hb dL_joins_93 rfl (lv_at hl 4 rfl) ?_
                    refine lv_iconst (v := i32 (5)) hx hb dL_joins_94 rfl ?_
                    refine q_callH2 (As := [.ref (ad 1 0), .int (i32 (x)), .int (i32 (5))]) (rest := []) hx hb hml hl.1 hown hK hZ hP hS (c_L_pieceIs l g base ad S x ((5 : Int)) hfl hI.wc hrn ⟨by decide, by decide⟩) t_266 t_14 t_268 t_267 f_yL_pieceIs ⟨Nat.le_of_ble_eq_true rfl, Nat.le_of_ble_eq_true rfl⟩ rfl rfl (Nat.le_of_ble_eq_true rfl) dL_joins_95 (c2 := 14) (s2 := 84) ⟨by first | rfl | (dsimp only; omega), by first | rfl | (dsimp only; omega)⟩ ⟨by show 14 ≤ 1498; omega, by show 84 ≤ 8988; omega⟩ (q_an (fun H locs hP hS => ?_))
                    refine q_nm (b := shC S (10 + x.toNat)) (((lv_0 h_A.1 (by decide) trivial).trans (pcC_5 rfl))) ?_
                    refine lv_aload_n hx hb dL_joins_98 rfl (lv_at hl 2 rfl) ?_
                    refine lv_iload_n hx hb dL_joins_99 rfl (lv_at hl 5 rfl) ?_
                    refine lv_iconst (v := i32 (5)) hx hb dL_joins_100 rfl ?_
                    refine q_callH2 (As := [.ref (ad 1 0), .int (i32 (z)), .int (i32 (5))]) (rest := [.int (i32 (shC S (10 + x.toNat)))]) hx hb hml hl.1 hown hK hZ hP hS (c_L_pieceIs l g base ad S z ((5 : Int)) hfl hI.wc hrn2 ⟨by decide, by decide⟩) t_266 t_14 t_268 t_267 f_yL_pieceIs ⟨Nat.le_of_ble_eq_true rfl, Nat.le_of_ble_eq_true rfl⟩ rfl rfl (Nat.le_of_ble_eq_true rfl) dL_joins_101 (c2 := 16) (s2 := 96) ⟨by first | rfl | (dsimp only; omega), by first | rfl | (dsimp only; omega)⟩ ⟨by show 16 ≤ 1498; omega, by show 96 ≤ 8988; omega⟩ (q_an (fun H locs hP hS => ?_))
                    refine q_nm (b := shC S (10 + z.toNat)) (((lv_0 h_A.2 (by decide) trivial).trans (pcC_5 rfl))) ?_
                    refine q_iadd hx hb dL_joins_104 ?_
                    refine lv_istore (lv' := [(6, .int (i32 ((shC S (10 + x.toNat)) + (shC S (10 + z.toNat))))), (5, .int (i32 ((S (10 + x.toNat) 0 0) + (S (10 + z.toNat) 0 0)))), (4, .int (i32 (mcC S (10 + x.toNat) (10 + z.toNat)))), (0, .ref (ad 1 0)), (1, .ref (ad 3 3)), (2, .int (i32 (x))), (3, .int (i32 (z)))]) hx hb dL_joins_105 hl (by decide) rfl (fun ls hl => ?_)
                    refine lv_aload_n hx hb dL_joins_107 rfl (lv_at hl 3 rfl) ?_
                    refine lv_iload_n hx hb dL_joins_108 rfl (lv_at hl 5 rfl) ?_
                    refine lv_iconst (v := i32 (1)) hx hb dL_joins_109 rfl ?_
                    refine q_callH2 (As := [.ref (ad 1 0), .int (i32 (x)), .int (i32 (1))]) (rest := []) hx hb hml hl.1 hown hK hZ hP hS (c_L_pieceIs l g base ad S x ((1 : Int)) hfl hI.wc hrn ⟨by decide, by decide⟩) t_266 t_14 t_268 t_267 f_yL_pieceIs ⟨Nat.le_of_ble_eq_true rfl, Nat.le_of_ble_eq_true rfl⟩ rfl rfl (Nat.le_of_ble_eq_true rfl) dL_joins_110 (c2 := 18) (s2 := 108) ⟨by first | rfl | (dsimp only; omega), by first | rfl | (dsimp only; omega)⟩ ⟨by show 18 ≤ 1498; omega, by show 108 ≤ 8988; omega⟩ (q_an (fun H locs hP hS => ?_))
                    refine q_nm (b := S (10 + x.toNat) 0 1) (((lv_0 h_A.1 (by decide) trivial).trans (pcC_1 rfl))) ?_
                    refine lv_istore (lv' := [(7, .int (i32 (S (10 + x.toNat) 0 1))), (6, .int (i32 ((shC S (10 + x.toNat)) + (shC S (10 + z.toNat))))), (5, .int (i32 ((S (10 + x.toNat) 0 0) + (S (10 + z.toNat) 0 0)))), (4, .int (i32 (mcC S (10 + x.toNat) (10 + z.toNat)))), (0, .ref (ad 1 0)), (1, .ref (ad 3 3)), (2, .int (i32 (x))), (3, .int (i32 (z)))]) hx hb dL_joins_113 hl (by decide) rfl (fun ls hl => ?_)
                    refine lv_iload hx hb dL_joins_115 (lv_at hl 0 rfl) ?_
                    refine lv_aload_n hx hb dL_joins_117 rfl (lv_at hl 4 rfl) ?_
                    refine lv_iload_n hx hb dL_joins_118 rfl (lv_at hl 7 rfl) ?_
                    refine lv_iconst (v := i32 (1)) hx hb dL_joins_119 rfl ?_
                    refine q_callH2 (As := [.ref (ad 1 0), .int (i32 (z)), .int (i32 (1))]) (rest := [.int (i32 (S (10 + x.toNat) 0 1))]) hx hb hml hl.1 hown hK hZ hP hS (c_L_pieceIs l g base ad S z ((1 : Int)) hfl hI.wc hrn2 ⟨by decide, by decide⟩) t_266 t_14 t_268 t_267 f_yL_pieceIs ⟨Nat.le_of_ble_eq_true rfl, Nat.le_of_ble_eq_true rfl⟩ rfl rfl (Nat.le_of_ble_eq_true rfl) dL_joins_120 (c2 := 20) (s2 := 120) ⟨by first | rfl | (dsimp only; omega), by first | rfl | (dsimp only; omega)⟩ ⟨by show 20 ≤ 1498; omega, by show 120 ≤ 8988; omega⟩ (q_an (fun H locs hP hS => ?_))
                    refine q_nm (b := S (10 + z.toNat) 0 1) (((lv_0 h_A.2 (by decide) trivial).trans (pcC_1 rfl))) ?_
                    refine q_icmp_ne (tgt := 130) hx hb (rS _ _ _) (rS _ _ _) dL_joins_123 (by decide) (fun c_53 => (by exfalso; omega)) (fun c_53 => ?_)
                    refine lv_iconst (v := i32 (1)) hx hb dL_joins_126 rfl ?_
                    refine lv_goto (tgt := 131) hx hb dL_joins_127 (by decide) ?_
                    refine lv_istore (lv' := [(8, .int (i32 (1))), (7, .int (i32 (S (10 + x.toNat) 0 1))), (6, .int (i32 ((shC S (10 + x.toNat)) + (shC S (10 + z.toNat))))), (5, .int (i32 ((S (10 + x.toNat) 0 0) + (S (10 + z.toNat) 0 0)))), (4, .int (i32 (mcC S (10 + x.toNat) (10 + z.toNat)))), (0, .ref (ad 1 0)), (1, .ref (ad 3 3)), (2, .int (i32 (x))), (3, .int (i32 (z)))]) hx hb dL_joins_131 hl (by decide) rfl (fun ls hl => ?_)
                    refine lv_aload_n hx hb dL_joins_133 rfl (lv_at hl 5 rfl) ?_
                    refine lv_iload_n hx hb dL_joins_134 rfl (lv_at hl 7 rfl) ?_
                    refine lv_iconst (v := i32 (3)) hx hb dL_joins_135 rfl ?_
                    refine q_callH2 (As := [.ref (ad 1 0), .int (i32 (x)), .int (i32 (3))]) (rest := []) hx hb hml hl.1 hown hK hZ hP hS (c_L_pieceIs l g base ad S x ((3 : Int)) hfl hI.wc hrn ⟨by decide, by decide⟩) t_266 t_14 t_268 t_267 f_yL_pieceIs ⟨Nat.le_of_ble_eq_true rfl, Nat.le_of_ble_eq_true rfl⟩ rfl rfl (Nat.le_of_ble_eq_true rfl) dL_joins_136 (c2 := 22) (s2 := 132) ⟨by first | rfl | (dsimp only; omega), by first | rfl | (dsimp only; omega)⟩ ⟨by show 22 ≤ 1498; omega, by show 132 ≤ 8988; omega⟩ (q_an (fun H locs hP hS => ?_))
                    refine q_nm (b := 1) (((lv_0 h_A.1 (by decide) trivial).trans (pcC_3 rfl)).trans (b2_t h_D)) ?_
                    refine lv_aload_n hx hb dL_joins_139 rfl (lv_at hl 5 rfl) ?_
                    refine lv_iload_n hx hb dL_joins_140 rfl (lv_at hl 8 rfl) ?_
                    refine lv_iconst (v := i32 (3)) hx hb dL_joins_141 rfl ?_
                    refine q_callH2 (As := [.ref (ad 1 0), .int (i32 (z)), .int (i32 (3))]) (rest := [.int (i32 (1))]) hx hb hml hl.1 hown hK hZ hP hS (c_L_pieceIs l g base ad S z ((3 : Int)) hfl hI.wc hrn2 ⟨by decide, by decide⟩) t_266 t_14 t_268 t_267 f_yL_pieceIs ⟨Nat.le_of_ble_eq_true rfl, Nat.le_of_ble_eq_true rfl⟩ rfl rfl (Nat.le_of_ble_eq_true rfl) dL_joins_142 (c2 := 24) (s2 := 144) ⟨by first | rfl | (dsimp only; omega), by first | rfl | (dsimp only; omega)⟩ ⟨by show 24 ≤ 1498; omega, by show 144 ≤ 8988; omega⟩ (q_an (fun H locs hP hS => ?_))
                    refine q_nm (b := 1) (((lv_0 h_A.2 (by decide) trivial).trans (pcC_3 rfl)).trans (b2_t h_E)) ?_
                    refine q_iadd hx hb dL_joins_145 ?_
                    refine q_nm (show (1 + 1 : Int) = 2 from by decide) ?_
                    refine lv_iconst (v := i32 (2)) hx hb dL_joins_146 rfl ?_
                    refine q_icmp_ne (tgt := 154) hx hb ⟨by decide, by decide⟩ ⟨by decide, by decide⟩ dL_joins_147 (by decide) (fun c_54 => (by exfalso; omega)) (fun c_54 => ?_)
                    refine lv_iconst (v := i32 (1)) hx hb dL_joins_150 rfl ?_
                    refine lv_goto (tgt := 155) hx hb dL_joins_151 (by decide) ?_
                    refine lv_istore (lv' := [(9, .int (i32 (1))), (8, .int (i32 (1))), (7, .int (i32 (S (10 + x.toNat) 0 1))), (6, .int (i32 ((shC S (10 + x.toNat)) + (shC S (10 + z.toNat))))), (5, .int (i32 ((S (10 + x.toNat) 0 0) + (S (10 + z.toNat) 0 0)))), (4, .int (i32 (mcC S (10 + x.toNat) (10 + z.toNat)))), (0, .ref (ad 1 0)), (1, .ref (ad 3 3)), (2, .int (i32 (x))), (3, .int (i32 (z)))]) hx hb dL_joins_155 hl (by decide) rfl (fun ls hl => ?_)
                    refine lv_aload_n hx hb dL_joins_157 rfl (lv_at hl 6 rfl) ?_
                    refine lv_iload_n hx hb dL_joins_158 rfl (lv_at hl 8 rfl) ?_
                    refine q_callH2 (As := [.ref (ad 1 0), .int (i32 (x))]) (rest := []) hx hb hml hl.1 hown hK hZ hP hS (c_L_isTrue l g base ad S x hfl hI.wc hrn) t_516 t_14 t_518 t_517 f_yL_isTrue ⟨Nat.le_of_ble_eq_true rfl, Nat.le_of_ble_eq_true rfl⟩ rfl rfl (Nat.le_of_ble_eq_true rfl) dL_joins_159 (c2 := 25) (s2 := 150) ⟨by first | rfl | (dsimp only; omega), by first | rfl | (dsimp only; omega)⟩ ⟨by show 25 ≤ 1498; omega, by show 150 ≤ 8988; omega⟩ (q_an (fun H locs hP hS => ?_))
                    refine q_nm (b := 0) ((lv_0 h_A.1 trivial trivial).trans (b2_f h_T)) ?_
                    refine lv_aload_n hx hb dL_joins_162 rfl (lv_at hl 6 rfl) ?_
                    refine lv_iload_n hx hb dL_joins_163 rfl (lv_at hl 9 rfl) ?_
                    refine q_callH2 (As := [.ref (ad 1 0), .int (i32 (z))]) (rest := [.int (i32 (0))]) hx hb hml hl.1 hown hK hZ hP hS (c_L_isTrue l g base ad S z hfl hI.wc hrn2) t_516 t_14 t_518 t_517 f_yL_isTrue ⟨Nat.le_of_ble_eq_true rfl, Nat.le_of_ble_eq_true rfl⟩ rfl rfl (Nat.le_of_ble_eq_true rfl) dL_joins_164 (c2 := 26) (s2 := 156) ⟨by first | rfl | (dsimp only; omega), by first | rfl | (dsimp only; omega)⟩ ⟨by show 26 ≤ 1498; omega, by show 156 ≤ 8988; omega⟩ (q_an (fun H locs hP hS => ?_))
                    refine q_nm (b := 1) ((lv_0 h_A.2 trivial trivial).trans (b2_t h_U)) ?_
                    refine q_iadd hx hb dL_joins_167 ?_
                    refine q_nm (show (0 + 1 : Int) = 1 from by decide) ?_
                    refine lv_istore (lv' := [(10, .int (i32 (1))), (9, .int (i32 (1))), (8, .int (i32 (1))), (7, .int (i32 (S (10 + x.toNat) 0 1))), (6, .int (i32 ((shC S (10 + x.toNat)) + (shC S (10 + z.toNat))))), (5, .int (i32 ((S (10 + x.toNat) 0 0) + (S (10 + z.toNat) 0 0)))), (4, .int (i32 (mcC S (10 + x.toNat) (10 + z.toNat)))), (0, .ref (ad 1 0)), (1, .ref (ad 3 3)), (2, .int (i32 (x))), (3, .int (i32 (z)))]) hx hb dL_joins_168 hl (by decide) rfl (fun ls hl => ?_)
                    refine lv_aload_n hx hb dL_joins_170 rfl (lv_at hl 7 rfl) ?_
                    refine lv_iload_n hx hb dL_joins_171 rfl (lv_at hl 9 rfl) ?_
                    refine lv_iload_n hx hb dL_joins_172 rfl (lv_at hl 10 rfl) ?_
                    have w8 := IV_join hI h_A.1 h_A.2 h_B h_D h_E h_H h_W
                    refine q_callH2 (As := [.ref (ad 1 0), .int (i32 (x)), .int (i32 (z))]) (rest := []) hx hb hml hl.1 hown hK hZ hP hS (c_L_join l g base ad S x z hfl hI.wc hrn hrn2) t_604 t_14 t_606 t_605 f_yL_join ⟨Nat.le_of_ble_eq_true rfl, Nat.le_of_ble_eq_true rfl⟩ rfl rfl (Nat.le_of_ble_eq_true rfl) dL_joins_173 (c2 := 31) (s2 := 186) ⟨by first | rfl | (dsimp only; omega), by first | rfl | (dsimp only; omega)⟩ ⟨by show 31 ≤ 1498; omega, by show 186 ≤ 8988; omega⟩ (fun rr ad' S' H locs hQ hP hS => ?_)
                    have hc9 : (peC S x ∧ peC S z) ∧ (x ≠ z) ∧ (dnC S (10 + x.toNat) ∧ dnC S (10 + z.toNat) ∧ S (10 + x.toNat) 0 1 = S (10 + z.toNat) 0 1 ∧ S (10 + x.toNat) 0 0 + S (10 + z.toNat) 0 0 ≤ 24) := ⟨h_A, h_B, ⟨h_D, h_E, h_H, h_W⟩⟩
                    obtain ⟨⟨hr9, ek9⟩, hQ⟩ := hQ
                    have hs9 := (hQ.resolve_left (fun y9 => y9.1 hc9)).2
                    subst hr9
                    rw [ek9] at hP
                    rw [hs9] at hP
                    refine q_nm (b := 1) ((lv_0 hc9.1 hc9.2.1 hc9.2.2).trans (b2_t (w8.2.2.2.2.1.mpr h_J))) ?_
                    generalize eS55 : jnS S (10 + x.toNat) (10 + z.toNat) z = S55 at hP
                    have rS55 : ∀ (a1 b1 : Nat) (i1 : Int), rng (S55 a1 b1 i1) := fun a1 b1 i1 => hP.rg a1 b1 i1
                    have ivS55 : IV S55 := by rw [← eS55]; exact w8.1
                    have h3S55 : ∀ (b1 : Nat) (i1 : Int), S55 3 b1 i1 = S 3 b1 i1 := by rw [← eS55]; exact fun b i => w8.2.1.1.1 3 b i (by omega) (by omega)
                    rw [eS55] at w8
                    obtain ⟨-, ⟨⟨fr8, -⟩, ⟨j0, -, -⟩, -⟩, ⟨kx3, kz3⟩, jsh, -, jtr⟩ := w8
                    have lv8 : LV S55 := LV_k hV hI.k.1.2 (fun b i => fr8 _ _ _ (by omega) (by omega)) (fr8 _ _ _ (by omega) (by omega)) (fr8 _ _ _ (by omega) (by omega)) (fr8 _ _ _ (by omega) (by omega)) (fun j => fr8 _ _ _ (by omega) (by omega)) (fun a h1 h2 => ⟨fr8 _ _ _ (by omega) (by omega), fr8 _ _ _ (by omega) (by omega)⟩)
                    refine lv_istore (lv' := [(11, .int (i32 (1))), (10, .int (i32 (1))), (9, .int (i32 (1))), (8, .int (i32 (1))), (7, .int (i32 (S (10 + x.toNat) 0 1))), (6, .int (i32 ((shC S (10 + x.toNat)) + (shC S (10 + z.toNat))))), (5, .int (i32 ((S (10 + x.toNat) 0 0) + (S (10 + z.toNat) 0 0)))), (4, .int (i32 (mcC S (10 + x.toNat) (10 + z.toNat)))), (0, .ref (ad 1 0)), (1, .ref (ad 3 3)), (2, .int (i32 (x))), (3, .int (i32 (z)))]) hx hb dL_joins_176 hl (by decide) rfl (fun ls hl => ?_)
                    refine lv_iload hx hb dL_joins_178 (lv_at hl 2 rfl) ?_
                    refine q_if_eq (tgt := 195) hx hb ⟨by decide, by decide⟩ dL_joins_180 (by decide) (fun h => by omega) (fun _ => ?_)
                    refine lv_iload hx hb dL_joins_183 (lv_at hl 3 rfl) ?_
                    refine q_if_eq (tgt := 195) hx hb ⟨by decide, by decide⟩ dL_joins_185 (by decide) (fun h => by omega) (fun _ => ?_)
                    refine lv_iload hx hb dL_joins_188 (lv_at hl 6 rfl) ?_
                    refine lv_bipush (v := i32 (24)) hx hb dL_joins_190 (by decide) ?_
                    refine q_icmp_le (tgt := 249) hx hb ⟨by omega, by omega⟩ ⟨by decide, by decide⟩ dL_joins_192 (by decide) (fun c_56 => ?_) (fun c_56 => (by exfalso; omega))
                    refine lv_iload hx hb dL_joins_249 (lv_at hl 7 rfl) ?_
                    refine q_if_lt (tgt := 332) hx hb ⟨by omega, by omega⟩ dL_joins_251 (by decide) (fun c_57 => (by exfalso; omega)) (fun c_57 => ?_)
                    refine lv_iload hx hb dL_joins_254 (lv_at hl 7 rfl) ?_
                    refine lv_iload hx hb dL_joins_256 (lv_at hl 4 rfl) ?_
                    refine q_icmp_gt (tgt := 332) hx hb ⟨by omega, by omega⟩ (rS _ _ _) dL_joins_258 (by decide) (fun c_58 => (by exfalso; omega)) (fun c_58 => ?_)
                    refine lv_iload hx hb dL_joins_261 (lv_at hl 0 rfl) ?_
                    refine q_if_lt (tgt := 332) hx hb ⟨by decide, by decide⟩ dL_joins_263 (by decide) (fun h => by omega) (fun _ => ?_)
                    refine lv_aload_n hx hb dL_joins_266 rfl (lv_at hl 8 rfl) ?_
                    refine lv_iload_n hx hb dL_joins_267 rfl (lv_at hl 10 rfl) ?_
                    refine lv_iconst (v := i32 (0)) hx hb dL_joins_268 rfl ?_
                    refine q_callH2 (As := [.ref (ad 1 0), .int (i32 (x)), .int (i32 (0))]) (rest := []) hx hb hml hl.1 hown hK hZ hP hS (c_L_pieceIs l g base ad S55 x ((0 : Int)) hfl ivS55.wc hrn ⟨by decide, by decide⟩) t_266 t_14 t_268 t_267 f_yL_pieceIs ⟨Nat.le_of_ble_eq_true rfl, Nat.le_of_ble_eq_true rfl⟩ rfl rfl (Nat.le_of_ble_eq_true rfl) dL_joins_269 (c2 := 33) (s2 := 198) ⟨by first | rfl | (dsimp only; omega), by first | rfl | (dsimp only; omega)⟩ ⟨by show 33 ≤ 1498; omega, by show 198 ≤ 8988; omega⟩ (q_an (fun H locs hP hS => ?_))
                    refine q_nm (b := S (10 + x.toNat) 0 0 + S (10 + z.toNat) 0 0) (((lv_0 kx3 (by decide) trivial).trans (pcC_0 rfl)).trans j0) ?_
                    refine lv_iload hx hb dL_joins_272 (lv_at hl 6 rfl) ?_
                    refine q_icmp_ne (tgt := 332) hx hb ⟨by omega, by omega⟩ ⟨by omega, by omega⟩ dL_joins_274 (by decide) (fun c_59 => (by exfalso; omega)) (fun c_59 => ?_)
                    refine lv_aload_n hx hb dL_joins_277 rfl (lv_at hl 8 rfl) ?_
                    refine lv_iload_n hx hb dL_joins_278 rfl (lv_at hl 10 rfl) ?_
                    refine lv_iconst (v := i32 (5)) hx hb dL_joins_279 rfl ?_
                    refine q_callH2 (As := [.ref (ad 1 0), .int (i32 (x)), .int (i32 (5))]) (rest := []) hx hb hml hl.1 hown hK hZ hP hS (c_L_pieceIs l g base ad S55 x ((5 : Int)) hfl ivS55.wc hrn ⟨by decide, by decide⟩) t_266 t_14 t_268 t_267 f_yL_pieceIs ⟨Nat.le_of_ble_eq_true rfl, Nat.le_of_ble_eq_true rfl⟩ rfl rfl (Nat.le_of_ble_eq_true rfl) dL_joins_280 (c2 := 35) (s2 := 210) ⟨by first | rfl | (dsimp only; omega), by first | rfl | (dsimp only; omega)⟩ ⟨by show 35 ≤ 1498; omega, by show 210 ≤ 8988; omega⟩ (q_an (fun H locs hP hS => ?_))
                    refine q_nm (b := shC S (10 + x.toNat) + shC S (10 + z.toNat)) (((lv_0 kx3 (by decide) trivial).trans (pcC_5 rfl)).trans jsh) ?_
                    refine lv_iload hx hb dL_joins_283 (lv_at hl 5 rfl) ?_
                    refine q_icmp_ne (tgt := 332) hx hb ⟨by omega, by omega⟩ ⟨by omega, by omega⟩ dL_joins_285 (by decide) (fun c_60 => (by exfalso; omega)) (fun c_60 => ?_)
                    refine lv_aload_n hx hb dL_joins_288 rfl (lv_at hl 8 rfl) ?_
                    refine lv_iload_n hx hb dL_joins_289 rfl (lv_at hl 11 rfl) ?_
                    refine lv_iconst (v := i32 (0)) hx hb dL_joins_290 rfl ?_
                    refine q_callH2 (As := [.ref (ad 1 0), .int (i32 (z)), .int (i32 (0))]) (rest := []) hx hb hml hl.1 hown hK hZ hP hS (c_L_pieceIs l g base ad S55 z ((0 : Int)) hfl ivS55.wc hrn2 ⟨by decide, by decide⟩) t_266 t_14 t_268 t_267 f_yL_pieceIs ⟨Nat.le_of_ble_eq_true rfl, Nat.le_of_ble_eq_true rfl⟩ rfl rfl (Nat.le_of_ble_eq_true rfl) dL_joins_291 (c2 := 37) (s2 := 222) ⟨by first | rfl | (dsimp only; omega), by first | rfl | (dsimp only; omega)⟩ ⟨by show 37 ≤ 1498; omega, by show 222 ≤ 8988; omega⟩ (q_an (fun H locs hP hS => ?_))
                    refine q_nm (b := -1000001) (lv_1 kz3) ?_
                    refine q_ldc (z := -1000001) hx hb hown hK t_248 rfl dL_joins_294 ?_
                    refine q_icmp_ne (tgt := 332) hx hb ⟨by decide, by decide⟩ ⟨by decide, by decide⟩ dL_joins_296 (by decide) (fun c_61 => (by exfalso; omega)) (fun c_61 => ?_)
                    refine lv_aload_n hx hb dL_joins_299 rfl (lv_at hl 8 rfl) ?_
                    refine lv_iload_n hx hb dL_joins_300 rfl (lv_at hl 10 rfl) ?_
                    refine q_callH2 (As := [.ref (ad 1 0), .int (i32 (x))]) (rest := []) hx hb hml hl.1 hown hK hZ hP hS (c_L_isTrue l g base ad S55 x hfl ivS55.wc hrn) t_516 t_14 t_518 t_517 f_yL_isTrue ⟨Nat.le_of_ble_eq_true rfl, Nat.le_of_ble_eq_true rfl⟩ rfl rfl (Nat.le_of_ble_eq_true rfl) dL_joins_301 (c2 := 38) (s2 := 228) ⟨by first | rfl | (dsimp only; omega), by first | rfl | (dsimp only; omega)⟩ ⟨by show 38 ≤ 1498; omega, by show 228 ≤ 8988; omega⟩ (q_an (fun H locs hP hS => ?_))
                    refine q_nm (b := 0) ((lv_0 kx3 trivial trivial).trans (b2_f (fun y9 => (fun y : _ ∧ _ ∧ _ => h_T y.1) (jtr.mp y9)))) ?_
                    refine lv_iload hx hb dL_joins_304 (lv_at hl 1 rfl) ?_
                    refine lv_iconst (v := i32 (2)) hx hb dL_joins_306 rfl ?_
                    refine q_icmp_ne (tgt := 315) hx hb ⟨by decide, by decide⟩ ⟨by decide, by decide⟩ dL_joins_307 (by decide) (fun c_62 => ?_) (fun c_62 => (by exfalso; omega))
                    refine lv_iconst (v := i32 (0)) hx hb dL_joins_315 rfl ?_
                    refine q_icmp_ne (tgt := 332) hx hb ⟨by decide, by decide⟩ ⟨by decide, by decide⟩ dL_joins_316 (by decide) (fun c_63 => (by exfalso; omega)) (fun c_63 => ?_)
                    refine lv_aload_n hx hb dL_joins_319 rfl (lv_at hl 8 rfl) ?_
                    refine lv_aload_n hx hb dL_joins_320 rfl (lv_at hl 9 rfl) ?_
                    refine lv_iload_n hx hb dL_joins_321 rfl (lv_at hl 10 rfl) ?_
                    refine q_callS2 (As := [.ref (ad 1 0), .ref (ad 3 3), .int (i32 (x))]) (rest := []) hx hb hml hl.1 hown hK hZ hP hS (c_L_isPiece l g base ad S55 x hfl ivS55 kx3 lv8.2.2.2 hrn) t_329 (q_callB hK 328 14 330 t_328 t_14 t_330 f_yL_isPiece ⟨Nat.le_of_ble_eq_true rfl, Nat.le_of_ble_eq_true rfl⟩) rfl rfl (Nat.le_of_ble_eq_true rfl) dL_joins_322 (c2 := 1498) (s2 := 8988) ⟨by first | rfl | (dsimp only; omega), by first | rfl | (dsimp only; omega)⟩ ⟨by show 1498 ≤ 1498; omega, by show 8988 ≤ 8988; omega⟩ (q_an (fun H locs hP hS => ?_))
                    refine q_if_eq (tgt := 332) hx hb ⟨by decide, by decide⟩ dL_joins_325 (by decide) (fun h => by omega) (fun _ => ?_)
                    refine lv_iconst (v := i32 (1)) hx hb dL_joins_328 rfl ?_
                    refine lv_goto (tgt := 333) hx hb dL_joins_329 (by decide) ?_
                    subst hQm
                    exact q_zret hx hb hr hlocks hP hS (v := 1) (by decide) (by exact ⟨⟨rfl, (fun _ _ _ => rfl)⟩, ivS55, lv8⟩) (by show 1498 ≤ 1498; omega) (by show 8988 ≤ 8988; omega) dL_joins_333
                  · skip
                    obtain ⟨-, pw8, ph8, -⟩ := (hI.pp h_A.1).1
                    obtain ⟨-, pw9, ph9, -⟩ := (hI.pp h_A.2).1
                    have hsb8 := sh_b (hI.pp h_A.1)
                    have hsb9 := sh_b (hI.pp h_A.2)
                    have hmc := mc_b (S := S) (o := 10 + x.toNat) (n := 10 + z.toNat) (by omega)
                    refine lv_aload_n hx hb dL_joins_0 rfl (lv_at hl 0 rfl) ?_
                    refine lv_iload_n hx hb dL_joins_1 rfl (lv_at hl 2 rfl) ?_
                    refine lv_iload_n hx hb dL_joins_2 rfl (lv_at hl 3 rfl) ?_
                    refine q_callH2 (As := [.ref (ad 1 0), .int (i32 (x)), .int (i32 (z))]) (rest := []) hx hb hml hl.1 hown hK hZ hP hS (c_L_match l g base ad S x z hfl hI.wc hrn hrn2) t_585 t_14 t_587 t_586 f_yL_match ⟨Nat.le_of_ble_eq_true rfl, Nat.le_of_ble_eq_true rfl⟩ rfl rfl (Nat.le_of_ble_eq_true rfl) dL_joins_3 (c2 := 4) (s2 := 24) ⟨by first | rfl | (dsimp only; omega), by first | rfl | (dsimp only; omega)⟩ ⟨by show 4 ≤ 1498; omega, by show 24 ≤ 8988; omega⟩ (q_an (fun H locs hP hS => ?_))
                    refine q_nm (b := mcC S (10 + x.toNat) (10 + z.toNat)) ((lv_0 h_A h_B ⟨h_D, h_E⟩).trans (cif_t h_H)) ?_
                    refine lv_istore (lv' := [(4, .int (i32 (mcC S (10 + x.toNat) (10 + z.toNat)))), (0, .ref (ad 1 0)), (1, .ref (ad 3 3)), (2, .int (i32 (x))), (3, .int (i32 (z)))]) hx hb dL_joins_6 hl (by decide) rfl (fun ls hl => ?_)
                    refine lv_aload_n hx hb dL_joins_8 rfl (lv_at hl 1 rfl) ?_
                    refine lv_iload_n hx hb dL_joins_9 rfl (lv_at hl 3 rfl) ?_
                    refine q_callS2 (As := [.ref (ad 1 0), .int (i32 (x))]) (rest := []) hx hb hml hl.1 hown hK hZ hP hS (c_L_isThere l g base ad S x hfl hI hrn) t_264 (q_callB hK 263 14 265 t_263 t_14 t_265 f_yL_isThere ⟨Nat.le_of_ble_eq_true rfl, Nat.le_of_ble_eq_true rfl⟩) rfl rfl (Nat.le_of_ble_eq_true rfl) dL_joins_10 (c2 := 6) (s2 := 36) ⟨by first | rfl | (dsimp only; omega), by first | rfl | (dsimp only; omega)⟩ ⟨by show 6 ≤ 1498; omega, by show 36 ≤ 8988; omega⟩ (q_an (fun H locs hP hS => ?_))
                    refine q_if_eqb (tgt := 24) hx hb dL_joins_13 (by decide) (fun c_64 => (by exfalso; exact c_64 h_A.1)) (fun c_64 => ?_)
                    refine lv_aload_n hx hb dL_joins_16 rfl (lv_at hl 1 rfl) ?_
                    refine lv_iload_n hx hb dL_joins_17 rfl (lv_at hl 4 rfl) ?_
                    refine q_callS2 (As := [.ref (ad 1 0), .int (i32 (z))]) (rest := []) hx hb hml hl.1 hown hK hZ hP hS (c_L_isThere l g base ad S z hfl hI hrn2) t_264 (q_callB hK 263 14 265 t_263 t_14 t_265 f_yL_isThere ⟨Nat.le_of_ble_eq_true rfl, Nat.le_of_ble_eq_true rfl⟩) rfl rfl (Nat.le_of_ble_eq_true rfl) dL_joins_18 (c2 := 8) (s2 := 48) ⟨by first | rfl | (dsimp only; omega), by first | rfl | (dsimp only; omega)⟩ ⟨by show 8 ≤ 1498; omega, by show 48 ≤ 8988; omega⟩ (q_an (fun H locs hP hS => ?_))
                    refine q_if_neb (tgt := 48) hx hb dL_joins_21 (by decide) (fun c_65 => ?_) (fun c_65 => (by exfalso; exact c_65 h_A.2))
                    refine lv_iload_n hx hb dL_joins_48 rfl (lv_at hl 3 rfl) ?_
                    refine lv_iload_n hx hb dL_joins_49 rfl (lv_at hl 4 rfl) ?_
                    refine q_icmp_ne (tgt := 77) hx hb hrn hrn2 dL_joins_50 (by decide) (fun _ => ?_) (fun h => by first | exact absurd h_B h | exact absurd h h_B | omega)
                    refine lv_aload_n hx hb dL_joins_77 rfl (lv_at hl 1 rfl) ?_
                    refine lv_iload_n hx hb dL_joins_78 rfl (lv_at hl 3 rfl) ?_
                    refine lv_iconst (v := i32 (0)) hx hb dL_joins_79 rfl ?_
                    refine q_callH2 (As := [.ref (ad 1 0), .int (i32 (x)), .int (i32 (0))]) (rest := []) hx hb hml hl.1 hown hK hZ hP hS (c_L_pieceIs l g base ad S x ((0 : Int)) hfl hI.wc hrn ⟨by decide, by decide⟩) t_266 t_14 t_268 t_267 f_yL_pieceIs ⟨Nat.le_of_ble_eq_true rfl, Nat.le_of_ble_eq_true rfl⟩ rfl rfl (Nat.le_of_ble_eq_true rfl) dL_joins_80 (c2 := 10) (s2 := 60) ⟨by first | rfl | (dsimp only; omega), by first | rfl | (dsimp only; omega)⟩ ⟨by show 10 ≤ 1498; omega, by show 60 ≤ 8988; omega⟩ (q_an (fun H locs hP hS => ?_))
                    refine q_nm (b := S (10 + x.toNat) 0 0) (((lv_0 h_A.1 (by decide) trivial).trans (pcC_0 rfl))) ?_
                    refine lv_aload_n hx hb dL_joins_83 rfl (lv_at hl 1 rfl) ?_
                    refine lv_iload_n hx hb dL_joins_84 rfl (lv_at hl 4 rfl) ?_
                    refine lv_iconst (v := i32 (0)) hx hb dL_joins_85 rfl ?_
                    refine q_callH2 (As := [.ref (ad 1 0), .int (i32 (z)), .int (i32 (0))]) (rest := [.int (i32 (S (10 + x.toNat) 0 0))]) hx hb hml hl.1 hown hK hZ hP hS (c_L_pieceIs l g base ad S z ((0 : Int)) hfl hI.wc hrn2 ⟨by decide, by decide⟩) t_266 t_14 t_268 t_267 f_yL_pieceIs ⟨Nat.le_of_ble_eq_true rfl, Nat.le_of_ble_eq_true rfl⟩ rfl rfl (Nat.le_of_ble_eq_true rfl) dL_joins_86 (c2 := 12) (s2 := 72) ⟨by first | rfl | (dsimp only; omega), by first | rfl | (dsimp only; omega)⟩ ⟨by show 12 ≤ 1498; omega, by show 72 ≤ 8988; omega⟩ (q_an (fun H locs hP hS => ?_))
                    refine q_nm (b := S (10 + z.toNat) 0 0) (((lv_0 h_A.2 (by decide) trivial).trans (pcC_0 rfl))) ?_
                    refine q_iadd hx hb dL_joins_89 ?_
                    refine lv_istore (lv' := [(5, .int (i32 ((S (10 + x.toNat) 0 0) + (S (10 + z.toNat) 0 0)))), (4, .int (i32 (mcC S (10 + x.toNat) (10 + z.toNat)))), (0, .ref (ad 1 0)), (1, .ref (ad 3 3)), (2, .int (i32 (x))), (3, .int (i32 (z)))]) hx hb dL_joins_90 hl (by decide) rfl (fun ls hl => ?_)
                    refine lv_aload_n hx hb dL_joins_92 rfl (lv_at hl 2 rfl) ?_
                    refine lv_iload_n hx hb dL_joins_93 rfl (lv_at hl 4 rfl) ?_
                    refine lv_iconst (v := i32 (5)) hx hb dL_joins_94 rfl ?_
                    refine q_callH2 (As := [.ref (ad 1 0), .int (i32 (x)), .int (i32 (5))]) (rest := []) hx hb hml hl.1 hown hK hZ hP hS (c_L_pieceIs l g base ad S x ((5 : Int)) hfl hI.wc hrn ⟨by decide, by decide⟩) t_266 t_14 t_268 t_267 f_yL_pieceIs ⟨Nat.le_of_ble_eq_true rfl, Nat.le_of_ble_eq_true rfl⟩ rfl rfl (Nat.le_of_ble_eq_true rfl) dL_joins_95 (c2 := 14) (s2 := 84) ⟨by first | rfl | (dsimp only; omega), by first | rfl | (dsimp only; omega)⟩ ⟨by show 14 ≤ 1498; omega, by show 84 ≤ 8988; omega⟩ (q_an (fun H locs hP hS => ?_))
                    refine q_nm (b := shC S (10 + x.toNat)) (((lv_0 h_A.1 (by decide) trivial).trans (pcC_5 rfl))) ?_
                    refine lv_aload_n hx hb dL_joins_98 rfl (lv_at hl 2 rfl) ?_
                    refine lv_iload_n hx hb dL_joins_99 rfl (lv_at hl 5 rfl) ?_
                    refine lv_iconst (v := i32 (5)) hx hb dL_joins_100 rfl ?_
                    refine q_callH2 (As := [.ref (ad 1 0), .int (i32 (z)), .int (i32 (5))]) (rest := [.int (i32 (shC S (10 + x.toNat)))]) hx hb hml hl.1 hown hK hZ hP hS (c_L_pieceIs l g base ad S z ((5 : Int)) hfl hI.wc hrn2 ⟨by decide, by decide⟩) t_266 t_14 t_268 t_267 f_yL_pieceIs ⟨Nat.le_of_ble_eq_true rfl, Nat.le_of_ble_eq_true rfl⟩ rfl rfl (Nat.le_of_ble_eq_true rfl) dL_joins_101 (c2 := 16) (s2 := 96) ⟨by first | rfl | (dsimp only; omega), by first | rfl | (dsimp only; omega)⟩ ⟨by show 16 ≤ 1498; omega, by show 96 ≤ 8988; omega⟩ (q_an (fun H locs hP hS => ?_))
                    refine q_nm (b := shC S (10 + z.toNat)) (((lv_0 h_A.2 (by decide) trivial).trans (pcC_5 rfl))) ?_
                    refine q_iadd hx hb dL_joins_104 ?_
                    refine lv_istore (lv' := [(6, .int (i32 ((shC S (10 + x.toNat)) + (shC S (10 + z.toNat))))), (5, .int (i32 ((S (10 + x.toNat) 0 0) + (S (10 + z.toNat) 0 0)))), (4, .int (i32 (mcC S (10 + x.toNat) (10 + z.toNat)))), (0, .ref (ad 1 0)), (1, .ref (ad 3 3)), (2, .int (i32 (x))), (3, .int (i32 (z)))]) hx hb dL_joins_105 hl (by decide) rfl (fun ls hl => ?_)
                    refine lv_aload_n hx hb dL_joins_107 rfl (lv_at hl 3 rfl) ?_
                    refine lv_iload_n hx hb dL_joins_108 rfl (lv_at hl 5 rfl) ?_
                    refine lv_iconst (v := i32 (1)) hx hb dL_joins_109 rfl ?_
                    refine q_callH2 (As := [.ref (ad 1 0), .int (i32 (x)), .int (i32 (1))]) (rest := []) hx hb hml hl.1 hown hK hZ hP hS (c_L_pieceIs l g base ad S x ((1 : Int)) hfl hI.wc hrn ⟨by decide, by decide⟩) t_266 t_14 t_268 t_267 f_yL_pieceIs ⟨Nat.le_of_ble_eq_true rfl, Nat.le_of_ble_eq_true rfl⟩ rfl rfl (Nat.le_of_ble_eq_true rfl) dL_joins_110 (c2 := 18) (s2 := 108) ⟨by first | rfl | (dsimp only; omega), by first | rfl | (dsimp only; omega)⟩ ⟨by show 18 ≤ 1498; omega, by show 108 ≤ 8988; omega⟩ (q_an (fun H locs hP hS => ?_))
                    refine q_nm (b := S (10 + x.toNat) 0 1) (((lv_0 h_A.1 (by decide) trivial).trans (pcC_1 rfl))) ?_
                    refine lv_istore (lv' := [(7, .int (i32 (S (10 + x.toNat) 0 1))), (6, .int (i32 ((shC S (10 + x.toNat)) + (shC S (10 + z.toNat))))), (5, .int (i32 ((S (10 + x.toNat) 0 0) + (S (10 + z.toNat) 0 0)))), (4, .int (i32 (mcC S (10 + x.toNat) (10 + z.toNat)))), (0, .ref (ad 1 0)), (1, .ref (ad 3 3)), (2, .int (i32 (x))), (3, .int (i32 (z)))]) hx hb dL_joins_113 hl (by decide) rfl (fun ls hl => ?_)
                    refine lv_iload hx hb dL_joins_115 (lv_at hl 0 rfl) ?_
                    refine lv_aload_n hx hb dL_joins_117 rfl (lv_at hl 4 rfl) ?_
                    refine lv_iload_n hx hb dL_joins_118 rfl (lv_at hl 7 rfl) ?_
                    refine lv_iconst (v := i32 (1)) hx hb dL_joins_119 rfl ?_
                    refine q_callH2 (As := [.ref (ad 1 0), .int (i32 (z)), .int (i32 (1))]) (rest := [.int (i32 (S (10 + x.toNat) 0 1))]) hx hb hml hl.1 hown hK hZ hP hS (c_L_pieceIs l g base ad S z ((1 : Int)) hfl hI.wc hrn2 ⟨by decide, by decide⟩) t_266 t_14 t_268 t_267 f_yL_pieceIs ⟨Nat.le_of_ble_eq_true rfl, Nat.le_of_ble_eq_true rfl⟩ rfl rfl (Nat.le_of_ble_eq_true rfl) dL_joins_120 (c2 := 20) (s2 := 120) ⟨by first | rfl | (dsimp only; omega), by first | rfl | (dsimp only; omega)⟩ ⟨by show 20 ≤ 1498; omega, by show 120 ≤ 8988; omega⟩ (q_an (fun H locs hP hS => ?_))
                    refine q_nm (b := S (10 + z.toNat) 0 1) (((lv_0 h_A.2 (by decide) trivial).trans (pcC_1 rfl))) ?_
                    refine q_icmp_ne (tgt := 130) hx hb (rS _ _ _) (rS _ _ _) dL_joins_123 (by decide) (fun c_66 => (by exfalso; omega)) (fun c_66 => ?_)
                    refine lv_iconst (v := i32 (1)) hx hb dL_joins_126 rfl ?_
                    refine lv_goto (tgt := 131) hx hb dL_joins_127 (by decide) ?_
                    refine lv_istore (lv' := [(8, .int (i32 (1))), (7, .int (i32 (S (10 + x.toNat) 0 1))), (6, .int (i32 ((shC S (10 + x.toNat)) + (shC S (10 + z.toNat))))), (5, .int (i32 ((S (10 + x.toNat) 0 0) + (S (10 + z.toNat) 0 0)))), (4, .int (i32 (mcC S (10 + x.toNat) (10 + z.toNat)))), (0, .ref (ad 1 0)), (1, .ref (ad 3 3)), (2, .int (i32 (x))), (3, .int (i32 (z)))]) hx hb dL_joins_131 hl (by decide) rfl (fun ls hl => ?_)
                    refine lv_aload_n hx hb dL_joins_133 rfl (lv_at hl 5 rfl) ?_
                    refine lv_iload_n hx hb dL_joins_134 rfl (lv_at hl 7 rfl) ?_
                    refine lv_iconst (v := i32 (3)) hx hb dL_joins_135 rfl ?_
                    refine q_callH2 (As := [.ref (ad 1 0), .int (i32 (x)), .int (i32 (3))]) (rest := []) hx hb hml hl.1 hown hK hZ hP hS (c_L_pieceIs l g base ad S x ((3 : Int)) hfl hI.wc hrn ⟨by decide, by decide⟩) t_266 t_14 t_268 t_267 f_yL_pieceIs ⟨Nat.le_of_ble_eq_true rfl, Nat.le_of_ble_eq_true rfl⟩ rfl rfl (Nat.le_of_ble_eq_true rfl) dL_joins_136 (c2 := 22) (s2 := 132) ⟨by first | rfl | (dsimp only; omega), by first | rfl | (dsimp only; omega)⟩ ⟨by show 22 ≤ 1498; omega, by show 132 ≤ 8988; omega⟩ (q_an (fun H locs hP hS => ?_))
                    refine q_nm (b := 1) (((lv_0 h_A.1 (by decide) trivial).trans (pcC_3 rfl)).trans (b2_t h_D)) ?_
                    refine lv_aload_n hx hb dL_joins_139 rfl (lv_at hl 5 rfl) ?_
                    refine lv_iload_n hx hb dL_joins_140 rfl (lv_at hl 8 rfl) ?_
                    refine lv_iconst (v := i32 (3)) hx hb dL_joins_141 rfl ?_
                    refine q_callH2 (As := [.ref (ad 1 0), .int (i32 (z)), .int (i32 (3))]) (rest := [.int (i32 (1))]) hx hb hml hl.1 hown hK hZ hP hS (c_L_pieceIs l g base ad S z ((3 : Int)) hfl hI.wc hrn2 ⟨by decide, by decide⟩) t_266 t_14 t_268 t_267 f_yL_pieceIs ⟨Nat.le_of_ble_eq_true rfl, Nat.le_of_ble_eq_true rfl⟩ rfl rfl (Nat.le_of_ble_eq_true rfl) dL_joins_142 (c2 := 24) (s2 := 144) ⟨by first | rfl | (dsimp only; omega), by first | rfl | (dsimp only; omega)⟩ ⟨by show 24 ≤ 1498; omega, by show 144 ≤ 8988; omega⟩ (q_an (fun H locs hP hS => ?_))
                    refine q_nm (b := 1) (((lv_0 h_A.2 (by decide) trivial).trans (pcC_3 rfl)).trans (b2_t h_E)) ?_
                    refine q_iadd hx hb dL_joins_145 ?_
                    refine q_nm (show (1 + 1 : Int) = 2 from by decide) ?_
                    refine lv_iconst (v := i32 (2)) hx hb dL_joins_146 rfl ?_
                    refine q_icmp_ne (tgt := 154) hx hb ⟨by decide, by decide⟩ ⟨by decide, by decide⟩ dL_joins_147 (by decide) (fun c_67 => (by exfalso; omega)) (fun c_67 => ?_)
                    refine lv_iconst (v := i32 (1)) hx hb dL_joins_150 rfl ?_
                    refine lv_goto (tgt := 155) hx hb dL_joins_151 (by decide) ?_
                    refine lv_istore (lv' := [(9, .int (i32 (1))), (8, .int (i32 (1))), (7, .int (i32 (S (10 + x.toNat) 0 1))), (6, .int (i32 ((shC S (10 + x.toNat)) + (shC S (10 + z.toNat))))), (5, .int (i32 ((S (10 + x.toNat) 0 0) + (S (10 + z.toNat) 0 0)))), (4, .int (i32 (mcC S (10 + x.toNat) (10 + z.toNat)))), (0, .ref (ad 1 0)), (1, .ref (ad 3 3)), (2, .int (i32 (x))), (3, .int (i32 (z)))]) hx hb dL_joins_155 hl (by decide) rfl (fun ls hl => ?_)
                    refine lv_aload_n hx hb dL_joins_157 rfl (lv_at hl 6 rfl) ?_
                    refine lv_iload_n hx hb dL_joins_158 rfl (lv_at hl 8 rfl) ?_
                    refine q_callH2 (As := [.ref (ad 1 0), .int (i32 (x))]) (rest := []) hx hb hml hl.1 hown hK hZ hP hS (c_L_isTrue l g base ad S x hfl hI.wc hrn) t_516 t_14 t_518 t_517 f_yL_isTrue ⟨Nat.le_of_ble_eq_true rfl, Nat.le_of_ble_eq_true rfl⟩ rfl rfl (Nat.le_of_ble_eq_true rfl) dL_joins_159 (c2 := 25) (s2 := 150) ⟨by first | rfl | (dsimp only; omega), by first | rfl | (dsimp only; omega)⟩ ⟨by show 25 ≤ 1498; omega, by show 150 ≤ 8988; omega⟩ (q_an (fun H locs hP hS => ?_))
                    refine q_nm (b := 0) ((lv_0 h_A.1 trivial trivial).trans (b2_f h_T)) ?_
                    refine lv_aload_n hx hb dL_joins_162 rfl (lv_at hl 6 rfl) ?_
                    refine lv_iload_n hx hb dL_joins_163 rfl (lv_at hl 9 rfl) ?_
                    refine q_callH2 (As := [.ref (ad 1 0), .int (i32 (z))]) (rest := [.int (i32 (0))]) hx hb hml hl.1 hown hK hZ hP hS (c_L_isTrue l g base ad S z hfl hI.wc hrn2) t_516 t_14 t_518 t_517 f_yL_isTrue ⟨Nat.le_of_ble_eq_true rfl, Nat.le_of_ble_eq_true rfl⟩ rfl rfl (Nat.le_of_ble_eq_true rfl) dL_joins_164 (c2 := 26) (s2 := 156) ⟨by first | rfl | (dsimp only; omega), by first | rfl | (dsimp only; omega)⟩ ⟨by show 26 ≤ 1498; omega, by show 156 ≤ 8988; omega⟩ (q_an (fun H locs hP hS => ?_))
                    refine q_nm (b := 1) ((lv_0 h_A.2 trivial trivial).trans (b2_t h_U)) ?_
                    refine q_iadd hx hb dL_joins_167 ?_
                    refine q_nm (show (0 + 1 : Int) = 1 from by decide) ?_
                    refine lv_istore (lv' := [(10, .int (i32 (1))), (9, .int (i32 (1))), (8, .int (i32 (1))), (7, .int (i32 (S (10 + x.toNat) 0 1))), (6, .int (i32 ((shC S (10 + x.toNat)) + (shC S (10 + z.toNat))))), (5, .int (i32 ((S (10 + x.toNat) 0 0) + (S (10 + z.toNat) 0 0)))), (4, .int (i32 (mcC S (10 + x.toNat) (10 + z.toNat)))), (0, .ref (ad 1 0)), (1, .ref (ad 3 3)), (2, .int (i32 (x))), (3, .int (i32 (z)))]) hx hb dL_joins_168 hl (by decide) rfl (fun ls hl => ?_)
                    refine lv_aload_n hx hb dL_joins_170 rfl (lv_at hl 7 rfl) ?_
                    refine lv_iload_n hx hb dL_joins_171 rfl (lv_at hl 9 rfl) ?_
                    refine lv_iload_n hx hb dL_joins_172 rfl (lv_at hl 10 rfl) ?_
                    have w8 := IV_join hI h_A.1 h_A.2 h_B h_D h_E h_H h_W
                    refine q_callH2 (As := [.ref (ad 1 0), .int (i32 (x)), .int (i32 (z))]) (rest := []) hx hb hml hl.1 hown hK hZ hP hS (c_L_join l g base ad S x z hfl hI.wc hrn hrn2) t_604 t_14 t_606 t_605 f_yL_join ⟨Nat.le_of_ble_eq_true rfl, Nat.le_of_ble_eq_true rfl⟩ rfl rfl (Nat.le_of_ble_eq_true rfl) dL_joins_173 (c2 := 31) (s2 := 186) ⟨by first | rfl | (dsimp only; omega), by first | rfl | (dsimp only; omega)⟩ ⟨by show 31 ≤ 1498; omega, by show 186 ≤ 8988; omega⟩ (fun rr ad' S' H locs hQ hP hS => ?_)
                    have hc9 : (peC S x ∧ peC S z) ∧ (x ≠ z) ∧ (dnC S (10 + x.toNat) ∧ dnC S (10 + z.toNat) ∧ S (10 + x.toNat) 0 1 = S (10 + z.toNat) 0 1 ∧ S (10 + x.toNat) 0 0 + S (10 + z.toNat) 0 0 ≤ 24) := ⟨h_A, h_B, ⟨h_D, h_E, h_H, h_W⟩⟩
                    obtain ⟨⟨hr9, ek9⟩, hQ⟩ := hQ
                    have hs9 := (hQ.resolve_left (fun y9 => y9.1 hc9)).2
                    subst hr9
                    rw [ek9] at hP
                    rw [hs9] at hP
                    refine q_nm (b := 0) ((lv_0 hc9.1 hc9.2.1 hc9.2.2).trans (b2_f (fun y => h_J (w8.2.2.2.2.1.mp y)))) ?_
                    generalize eS68 : jnS S (10 + x.toNat) (10 + z.toNat) z = S68 at hP
                    have rS68 : ∀ (a1 b1 : Nat) (i1 : Int), rng (S68 a1 b1 i1) := fun a1 b1 i1 => hP.rg a1 b1 i1
                    have ivS68 : IV S68 := by rw [← eS68]; exact w8.1
                    have h3S68 : ∀ (b1 : Nat) (i1 : Int), S68 3 b1 i1 = S 3 b1 i1 := by rw [← eS68]; exact fun b i => w8.2.1.1.1 3 b i (by omega) (by omega)
                    rw [eS68] at w8
                    obtain ⟨-, ⟨⟨fr8, -⟩, ⟨j0, -, -⟩, -⟩, ⟨kx3, kz3⟩, jsh, -, jtr⟩ := w8
                    have lv8 : LV S68 := LV_k hV hI.k.1.2 (fun b i => fr8 _ _ _ (by omega) (by omega)) (fr8 _ _ _ (by omega) (by omega)) (fr8 _ _ _ (by omega) (by omega)) (fr8 _ _ _ (by omega) (by omega)) (fun j => fr8 _ _ _ (by omega) (by omega)) (fun a h1 h2 => ⟨fr8 _ _ _ (by omega) (by omega), fr8 _ _ _ (by omega) (by omega)⟩)
                    refine lv_istore (lv' := [(11, .int (i32 (0))), (10, .int (i32 (1))), (9, .int (i32 (1))), (8, .int (i32 (1))), (7, .int (i32 (S (10 + x.toNat) 0 1))), (6, .int (i32 ((shC S (10 + x.toNat)) + (shC S (10 + z.toNat))))), (5, .int (i32 ((S (10 + x.toNat) 0 0) + (S (10 + z.toNat) 0 0)))), (4, .int (i32 (mcC S (10 + x.toNat) (10 + z.toNat)))), (0, .ref (ad 1 0)), (1, .ref (ad 3 3)), (2, .int (i32 (x))), (3, .int (i32 (z)))]) hx hb dL_joins_176 hl (by decide) rfl (fun ls hl => ?_)
                    refine lv_iload hx hb dL_joins_178 (lv_at hl 2 rfl) ?_
                    refine q_if_eq (tgt := 195) hx hb ⟨by decide, by decide⟩ dL_joins_180 (by decide) (fun h => by omega) (fun _ => ?_)
                    refine lv_iload hx hb dL_joins_183 (lv_at hl 3 rfl) ?_
                    refine q_if_eq (tgt := 195) hx hb ⟨by decide, by decide⟩ dL_joins_185 (by decide) (fun h => by omega) (fun _ => ?_)
                    refine lv_iload hx hb dL_joins_188 (lv_at hl 6 rfl) ?_
                    refine lv_bipush (v := i32 (24)) hx hb dL_joins_190 (by decide) ?_
                    refine q_icmp_le (tgt := 249) hx hb ⟨by omega, by omega⟩ ⟨by decide, by decide⟩ dL_joins_192 (by decide) (fun c_69 => ?_) (fun c_69 => (by exfalso; omega))
                    refine lv_iload hx hb dL_joins_249 (lv_at hl 7 rfl) ?_
                    refine q_if_lt (tgt := 332) hx hb ⟨by omega, by omega⟩ dL_joins_251 (by decide) (fun c_70 => (by exfalso; omega)) (fun c_70 => ?_)
                    refine lv_iload hx hb dL_joins_254 (lv_at hl 7 rfl) ?_
                    refine lv_iload hx hb dL_joins_256 (lv_at hl 4 rfl) ?_
                    refine q_icmp_gt (tgt := 332) hx hb ⟨by omega, by omega⟩ (rS _ _ _) dL_joins_258 (by decide) (fun c_71 => (by exfalso; omega)) (fun c_71 => ?_)
                    refine lv_iload hx hb dL_joins_261 (lv_at hl 0 rfl) ?_
                    refine q_if_lt (tgt := 332) hx hb ⟨by decide, by decide⟩ dL_joins_263 (by decide) (fun h => by omega) (fun _ => ?_)
                    refine lv_aload_n hx hb dL_joins_266 rfl (lv_at hl 8 rfl) ?_
                    refine lv_iload_n hx hb dL_joins_267 rfl (lv_at hl 10 rfl) ?_
                    refine lv_iconst (v := i32 (0)) hx hb dL_joins_268 rfl ?_
                    refine q_callH2 (As := [.ref (ad 1 0), .int (i32 (x)), .int (i32 (0))]) (rest := []) hx hb hml hl.1 hown hK hZ hP hS (c_L_pieceIs l g base ad S68 x ((0 : Int)) hfl ivS68.wc hrn ⟨by decide, by decide⟩) t_266 t_14 t_268 t_267 f_yL_pieceIs ⟨Nat.le_of_ble_eq_true rfl, Nat.le_of_ble_eq_true rfl⟩ rfl rfl (Nat.le_of_ble_eq_true rfl) dL_joins_269 (c2 := 33) (s2 := 198) ⟨by first | rfl | (dsimp only; omega), by first | rfl | (dsimp only; omega)⟩ ⟨by show 33 ≤ 1498; omega, by show 198 ≤ 8988; omega⟩ (q_an (fun H locs hP hS => ?_))
                    refine q_nm (b := S (10 + x.toNat) 0 0 + S (10 + z.toNat) 0 0) (((lv_0 kx3 (by decide) trivial).trans (pcC_0 rfl)).trans j0) ?_
                    refine lv_iload hx hb dL_joins_272 (lv_at hl 6 rfl) ?_
                    refine q_icmp_ne (tgt := 332) hx hb ⟨by omega, by omega⟩ ⟨by omega, by omega⟩ dL_joins_274 (by decide) (fun c_72 => (by exfalso; omega)) (fun c_72 => ?_)
                    refine lv_aload_n hx hb dL_joins_277 rfl (lv_at hl 8 rfl) ?_
                    refine lv_iload_n hx hb dL_joins_278 rfl (lv_at hl 10 rfl) ?_
                    refine lv_iconst (v := i32 (5)) hx hb dL_joins_279 rfl ?_
                    refine q_callH2 (As := [.ref (ad 1 0), .int (i32 (x)), .int (i32 (5))]) (rest := []) hx hb hml hl.1 hown hK hZ hP hS (c_L_pieceIs l g base ad S68 x ((5 : Int)) hfl ivS68.wc hrn ⟨by decide, by decide⟩) t_266 t_14 t_268 t_267 f_yL_pieceIs ⟨Nat.le_of_ble_eq_true rfl, Nat.le_of_ble_eq_true rfl⟩ rfl rfl (Nat.le_of_ble_eq_true rfl) dL_joins_280 (c2 := 35) (s2 := 210) ⟨by first | rfl | (dsimp only; omega), by first | rfl | (dsimp only; omega)⟩ ⟨by show 35 ≤ 1498; omega, by show 210 ≤ 8988; omega⟩ (q_an (fun H locs hP hS => ?_))
                    refine q_nm (b := shC S (10 + x.toNat) + shC S (10 + z.toNat)) (((lv_0 kx3 (by decide) trivial).trans (pcC_5 rfl)).trans jsh) ?_
                    refine lv_iload hx hb dL_joins_283 (lv_at hl 5 rfl) ?_
                    refine q_icmp_ne (tgt := 332) hx hb ⟨by omega, by omega⟩ ⟨by omega, by omega⟩ dL_joins_285 (by decide) (fun c_73 => (by exfalso; omega)) (fun c_73 => ?_)
                    refine lv_aload_n hx hb dL_joins_288 rfl (lv_at hl 8 rfl) ?_
                    refine lv_iload_n hx hb dL_joins_289 rfl (lv_at hl 11 rfl) ?_
                    refine lv_iconst (v := i32 (0)) hx hb dL_joins_290 rfl ?_
                    refine q_callH2 (As := [.ref (ad 1 0), .int (i32 (z)), .int (i32 (0))]) (rest := []) hx hb hml hl.1 hown hK hZ hP hS (c_L_pieceIs l g base ad S68 z ((0 : Int)) hfl ivS68.wc hrn2 ⟨by decide, by decide⟩) t_266 t_14 t_268 t_267 f_yL_pieceIs ⟨Nat.le_of_ble_eq_true rfl, Nat.le_of_ble_eq_true rfl⟩ rfl rfl (Nat.le_of_ble_eq_true rfl) dL_joins_291 (c2 := 37) (s2 := 222) ⟨by first | rfl | (dsimp only; omega), by first | rfl | (dsimp only; omega)⟩ ⟨by show 37 ≤ 1498; omega, by show 222 ≤ 8988; omega⟩ (q_an (fun H locs hP hS => ?_))
                    refine q_nm (b := -1000001) (lv_1 kz3) ?_
                    refine q_ldc (z := -1000001) hx hb hown hK t_248 rfl dL_joins_294 ?_
                    refine q_icmp_ne (tgt := 332) hx hb ⟨by decide, by decide⟩ ⟨by decide, by decide⟩ dL_joins_296 (by decide) (fun c_74 => (by exfalso; omega)) (fun c_74 => ?_)
                    refine lv_aload_n hx hb dL_joins_299 rfl (lv_at hl 8 rfl) ?_
                    refine lv_iload_n hx hb dL_joins_300 rfl (lv_at hl 10 rfl) ?_
                    refine q_callH2 (As := [.ref (ad 1 0), .int (i32 (x))]) (rest := []) hx hb hml hl.1 hown hK hZ hP hS (c_L_isTrue l g base ad S68 x hfl ivS68.wc hrn) t_516 t_14 t_518 t_517 f_yL_isTrue ⟨Nat.le_of_ble_eq_true rfl, Nat.le_of_ble_eq_true rfl⟩ rfl rfl (Nat.le_of_ble_eq_true rfl) dL_joins_301 (c2 := 38) (s2 := 228) ⟨by first | rfl | (dsimp only; omega), by first | rfl | (dsimp only; omega)⟩ ⟨by show 38 ≤ 1498; omega, by show 228 ≤ 8988; omega⟩ (q_an (fun H locs hP hS => ?_))
                    refine q_nm (b := 0) ((lv_0 kx3 trivial trivial).trans (b2_f (fun y9 => (fun y : _ ∧ _ ∧ _ => h_J y.2.2) (jtr.mp y9)))) ?_
                    refine lv_iload hx hb dL_joins_304 (lv_at hl 1 rfl) ?_
                    refine lv_iconst (v := i32 (2)) hx hb dL_joins_306 rfl ?_
                    refine q_icmp_ne (tgt := 315) hx hb ⟨by decide, by decide⟩ ⟨by decide, by decide⟩ dL_joins_307 (by decide) (fun c_75 => ?_) (fun c_75 => (by exfalso; omega))
                    refine lv_iconst (v := i32 (0)) hx hb dL_joins_315 rfl ?_
                    refine q_icmp_ne (tgt := 332) hx hb ⟨by decide, by decide⟩ ⟨by decide, by decide⟩ dL_joins_316 (by decide) (fun c_76 => (by exfalso; omega)) (fun c_76 => ?_)
                    refine lv_aload_n hx hb dL_joins_319 rfl (lv_at hl 8 rfl) ?_
                    refine lv_aload_n hx hb dL_joins_320 rfl (lv_at hl 9 rfl) ?_
                    refine lv_iload_n hx hb dL_joins_321 rfl (lv_at hl 10 rfl) ?_
                    refine q_callS2 (As := [.ref (ad 1 0), .ref (ad 3 3), .int (i32 (x))]) (rest := []) hx hb hml hl.1 hown hK hZ hP hS (c_L_isPiece l g base ad S68 x hfl ivS68 kx3 lv8.2.2.2 hrn) t_329 (q_callB hK 328 14 330 t_328 t_14 t_330 f_yL_isPiece ⟨Nat.le_of_ble_eq_true rfl, Nat.le_of_ble_eq_true rfl⟩) rfl rfl (Nat.le_of_ble_eq_true rfl) dL_joins_322 (c2 := 1498) (s2 := 8988) ⟨by first | rfl | (dsimp only; omega), by first | rfl | (dsimp only; omega)⟩ ⟨by show 1498 ≤ 1498; omega, by show 8988 ≤ 8988; omega⟩ (q_an (fun H locs hP hS => ?_))
                    refine q_if_eq (tgt := 332) hx hb ⟨by decide, by decide⟩ dL_joins_325 (by decide) (fun h => by omega) (fun _ => ?_)
                    refine lv_iconst (v := i32 (1)) hx hb dL_joins_328 rfl ?_
                    refine lv_goto (tgt := 333) hx hb dL_joins_329 (by decide) ?_
                    subst hQm
                    exact q_zret hx hb hr hlocks hP hS (v := 1) (by decide) (by exact ⟨⟨rfl, (fun _ _ _ => rfl)⟩, ivS68, lv8⟩) (by show 1498 ≤ 1498; omega) (by show 8988 ≤ 8988; omega) dL_joins_333
                · skip
                  by_cases h_J : S (10 + x.toNat) 8 (S (10 + x.toNat) 0 0 - 1) + 1 = S (10 + z.toNat) 8 0
                  · skip
                    obtain ⟨-, pw8, ph8, -⟩ := (hI.pp h_A.1).1
                    obtain ⟨-, pw9, ph9, -⟩ := (hI.pp h_A.2).1
                    have hsb8 := sh_b (hI.pp h_A.1)
                    have hsb9 := sh_b (hI.pp h_A.2)
                    have hmc := mc_b (S := S) (o := 10 + x.toNat) (n := 10 + z.toNat) (by omega)
                    refine lv_aload_n hx hb dL_joins_0 rfl (lv_at hl 0 rfl) ?_
                    refine lv_iload_n hx hb dL_joins_1 rfl (lv_at hl 2 rfl) ?_
                    refine lv_iload_n hx hb dL_joins_2 rfl (lv_at hl 3 rfl) ?_
                    refine q_callH2 (As := [.ref (ad 1 0), .int (i32 (x)), .int (i32 (z))]) (rest := []) hx hb hml hl.1 hown hK hZ hP hS (c_L_match l g base ad S x z hfl hI.wc hrn hrn2) t_585 t_14 t_587 t_586 f_yL_match ⟨Nat.le_of_ble_eq_true rfl, Nat.le_of_ble_eq_true rfl⟩ rfl rfl (Nat.le_of_ble_eq_true rfl) dL_joins_3 (c2 := 4) (s2 := 24) ⟨by first | rfl | (dsimp only; omega), by first | rfl | (dsimp only; omega)⟩ ⟨by show 4 ≤ 1498; omega, by show 24 ≤ 8988; omega⟩ (q_an (fun H locs hP hS => ?_))
                    refine q_nm (b := mcC S (10 + x.toNat) (10 + z.toNat)) ((lv_0 h_A h_B ⟨h_D, h_E⟩).trans (cif_t h_H)) ?_
                    refine lv_istore (lv' := [(4, .int (i32 (mcC S (10 + x.toNat) (10 + z.toNat)))), (0, .ref (ad 1 0)), (1, .ref (ad 3 3)), (2, .int (i32 (x))), (3, .int (i32 (z)))]) hx hb dL_joins_6 hl (by decide) rfl (fun ls hl => ?_)
                    refine lv_aload_n hx hb dL_joins_8 rfl (lv_at hl 1 rfl) ?_
                    refine lv_iload_n hx hb dL_joins_9 rfl (lv_at hl 3 rfl) ?_
                    refine q_callS2 (As := [.ref (ad 1 0), .int (i32 (x))]) (rest := []) hx hb hml hl.1 hown hK hZ hP hS (c_L_isThere l g base ad S x hfl hI hrn) t_264 (q_callB hK 263 14 265 t_263 t_14 t_265 f_yL_isThere ⟨Nat.le_of_ble_eq_true rfl, Nat.le_of_ble_eq_true rfl⟩) rfl rfl (Nat.le_of_ble_eq_true rfl) dL_joins_10 (c2 := 6) (s2 := 36) ⟨by first | rfl | (dsimp only; omega), by first | rfl | (dsimp only; omega)⟩ ⟨by show 6 ≤ 1498; omega, by show 36 ≤ 8988; omega⟩ (q_an (fun H locs hP hS => ?_))
                    refine q_if_eqb (tgt := 24) hx hb dL_joins_13 (by decide) (fun c_77 => (by exfalso; exact c_77 h_A.1)) (fun c_77 => ?_)
                    refine lv_aload_n hx hb dL_joins_16 rfl (lv_at hl 1 rfl) ?_
                    refine lv_iload_n hx hb dL_joins_17 rfl (lv_at hl 4 rfl) ?_
                    refine q_callS2 (As := [.ref (ad 1 0), .int (i32 (z))]) (rest := []) hx hb hml hl.1 hown hK hZ hP hS (c_L_isThere l g base ad S z hfl hI hrn2) t_264 (q_callB hK 263 14 265 t_263 t_14 t_265 f_yL_isThere ⟨Nat.le_of_ble_eq_true rfl, Nat.le_of_ble_eq_true rfl⟩) rfl rfl (Nat.le_of_ble_eq_true rfl) dL_joins_18 (c2 := 8) (s2 := 48) ⟨by first | rfl | (dsimp only; omega), by first | rfl | (dsimp only; omega)⟩ ⟨by show 8 ≤ 1498; omega, by show 48 ≤ 8988; omega⟩ (q_an (fun H locs hP hS => ?_))
                    refine q_if_neb (tgt := 48) hx hb dL_joins_21 (by decide) (fun c_78 => ?_) (fun c_78 => (by exfalso; exact c_78 h_A.2))
                    refine lv_iload_n hx hb dL_joins_48 rfl (lv_at hl 3 rfl) ?_
                    refine lv_iload_n hx hb dL_joins_49 rfl (lv_at hl 4 rfl) ?_
                    refine q_icmp_ne (tgt := 77) hx hb hrn hrn2 dL_joins_50 (by decide) (fun _ => ?_) (fun h => by first | exact absurd h_B h | exact absurd h h_B | omega)
                    refine lv_aload_n hx hb dL_joins_77 rfl (lv_at hl 1 rfl) ?_
                    refine lv_iload_n hx hb dL_joins_78 rfl (lv_at hl 3 rfl) ?_
                    refine lv_iconst (v := i32 (0)) hx hb dL_joins_79 rfl ?_
                    refine q_callH2 (As := [.ref (ad 1 0), .int (i32 (x)), .int (i32 (0))]) (rest := []) hx hb hml hl.1 hown hK hZ hP hS (c_L_pieceIs l g base ad S x ((0 : Int)) hfl hI.wc hrn ⟨by decide, by decide⟩) t_266 t_14 t_268 t_267 f_yL_pieceIs ⟨Nat.le_of_ble_eq_true rfl, Nat.le_of_ble_eq_true rfl⟩ rfl rfl (Nat.le_of_ble_eq_true rfl) dL_joins_80 (c2 := 10) (s2 := 60) ⟨by first | rfl | (dsimp only; omega), by first | rfl | (dsimp only; omega)⟩ ⟨by show 10 ≤ 1498; omega, by show 60 ≤ 8988; omega⟩ (q_an (fun H locs hP hS => ?_))
                    refine q_nm (b := S (10 + x.toNat) 0 0) (((lv_0 h_A.1 (by decide) trivial).trans (pcC_0 rfl))) ?_
                    refine lv_aload_n hx hb dL_joins_83 rfl (lv_at hl 1 rfl) ?_
                    refine lv_iload_n hx hb dL_joins_84 rfl (lv_at hl 4 rfl) ?_
                    refine lv_iconst (v := i32 (0)) hx hb dL_joins_85 rfl ?_
                    refine q_callH2 (As := [.ref (ad 1 0), .int (i32 (z)), .int (i32 (0))]) (rest := [.int (i32 (S (10 + x.toNat) 0 0))]) hx hb hml hl.1 hown hK hZ hP hS (c_L_pieceIs l g base ad S z ((0 : Int)) hfl hI.wc hrn2 ⟨by decide, by decide⟩) t_266 t_14 t_268 t_267 f_yL_pieceIs ⟨Nat.le_of_ble_eq_true rfl, Nat.le_of_ble_eq_true rfl⟩ rfl rfl (Nat.le_of_ble_eq_true rfl) dL_joins_86 (c2 := 12) (s2 := 72) ⟨by first | rfl | (dsimp only; omega), by first | rfl | (dsimp only; omega)⟩ ⟨by show 12 ≤ 1498; omega, by show 72 ≤ 8988; omega⟩ (q_an (fun H locs hP hS => ?_))
                    refine q_nm (b := S (10 + z.toNat) 0 0) (((lv_0 h_A.2 (by decide) trivial).trans (pcC_0 rfl))) ?_
                    refine q_iadd hx hb dL_joins_89 ?_
                    refine lv_istore (lv' := [(5, .int (i32 ((S (10 + x.toNat) 0 0) + (S (10 + z.toNat) 0 0)))), (4, .int (i32 (mcC S (10 + x.toNat) (10 + z.toNat)))), (0, .ref (ad 1 0)), (1, .ref (ad 3 3)), (2, .int (i32 (x))), (3, .int (i32 (z)))]) hx hb dL_joins_90 hl (by decide) rfl (fun ls hl => ?_)
                    refine lv_aload_n hx hb dL_joins_92 rfl (lv_at hl 2 rfl) ?_
                    refine lv_iload_n hx hb dL_joins_93 rfl (lv_at hl 4 rfl) ?_
                    refine lv_iconst (v := i32 (5)) hx hb dL_joins_94 rfl ?_
                    refine q_callH2 (As := [.ref (ad 1 0), .int (i32 (x)), .int (i32 (5))]) (rest := []) hx hb hml hl.1 hown hK hZ hP hS (c_L_pieceIs l g base ad S x ((5 : Int)) hfl hI.wc hrn ⟨by decide, by decide⟩) t_266 t_14 t_268 t_267 f_yL_pieceIs ⟨Nat.le_of_ble_eq_true rfl, Nat.le_of_ble_eq_true rfl⟩ rfl rfl (Nat.le_of_ble_eq_true rfl) dL_joins_95 (c2 := 14) (s2 := 84) ⟨by first | rfl | (dsimp only; omega), by first | rfl | (dsimp only; omega)⟩ ⟨by show 14 ≤ 1498; omega, by show 84 ≤ 8988; omega⟩ (q_an (fun H locs hP hS => ?_))
                    refine q_nm (b := shC S (10 + x.toNat)) (((lv_0 h_A.1 (by decide) trivial).trans (pcC_5 rfl))) ?_
                    refine lv_aload_n hx hb dL_joins_98 rfl (lv_at hl 2 rfl) ?_
                    refine lv_iload_n hx hb dL_joins_99 rfl (lv_at hl 5 rfl) ?_
                    refine lv_iconst (v := i32 (5)) hx hb dL_joins_100 rfl ?_
                    refine q_callH2 (As := [.ref (ad 1 0), .int (i32 (z)), .int (i32 (5))]) (rest := [.int (i32 (shC S (10 + x.toNat)))]) hx hb hml hl.1 hown hK hZ hP hS (c_L_pieceIs l g base ad S z ((5 : Int)) hfl hI.wc hrn2 ⟨by decide, by decide⟩) t_266 t_14 t_268 t_267 f_yL_pieceIs ⟨Nat.le_of_ble_eq_true rfl, Nat.le_of_ble_eq_true rfl⟩ rfl rfl (Nat.le_of_ble_eq_true rfl) dL_joins_101 (c2 := 16) (s2 := 96) ⟨by first | rfl | (dsimp only; omega), by first | rfl | (dsimp only; omega)⟩ ⟨by show 16 ≤ 1498; omega, by show 96 ≤ 8988; omega⟩ (q_an (fun H locs hP hS => ?_))
                    refine q_nm (b := shC S (10 + z.toNat)) (((lv_0 h_A.2 (by decide) trivial).trans (pcC_5 rfl))) ?_
                    refine q_iadd hx hb dL_joins_104 ?_
                    refine lv_istore (lv' := [(6, .int (i32 ((shC S (10 + x.toNat)) + (shC S (10 + z.toNat))))), (5, .int (i32 ((S (10 + x.toNat) 0 0) + (S (10 + z.toNat) 0 0)))), (4, .int (i32 (mcC S (10 + x.toNat) (10 + z.toNat)))), (0, .ref (ad 1 0)), (1, .ref (ad 3 3)), (2, .int (i32 (x))), (3, .int (i32 (z)))]) hx hb dL_joins_105 hl (by decide) rfl (fun ls hl => ?_)
                    refine lv_aload_n hx hb dL_joins_107 rfl (lv_at hl 3 rfl) ?_
                    refine lv_iload_n hx hb dL_joins_108 rfl (lv_at hl 5 rfl) ?_
                    refine lv_iconst (v := i32 (1)) hx hb dL_joins_109 rfl ?_
                    refine q_callH2 (As := [.ref (ad 1 0), .int (i32 (x)), .int (i32 (1))]) (rest := []) hx hb hml hl.1 hown hK hZ hP hS (c_L_pieceIs l g base ad S x ((1 : Int)) hfl hI.wc hrn ⟨by decide, by decide⟩) t_266 t_14 t_268 t_267 f_yL_pieceIs ⟨Nat.le_of_ble_eq_true rfl, Nat.le_of_ble_eq_true rfl⟩ rfl rfl (Nat.le_of_ble_eq_true rfl) dL_joins_110 (c2 := 18) (s2 := 108) ⟨by first | rfl | (dsimp only; omega), by first | rfl | (dsimp only; omega)⟩ ⟨by show 18 ≤ 1498; omega, by show 108 ≤ 8988; omega⟩ (q_an (fun H locs hP hS => ?_))
                    refine q_nm (b := S (10 + x.toNat) 0 1) (((lv_0 h_A.1 (by decide) trivial).trans (pcC_1 rfl))) ?_
                    refine lv_istore (lv' := [(7, .int (i32 (S (10 + x.toNat) 0 1))), (6, .int (i32 ((shC S (10 + x.toNat)) + (shC S (10 + z.toNat))))), (5, .int (i32 ((S (10 + x.toNat) 0 0) + (S (10 + z.toNat) 0 0)))), (4, .int (i32 (mcC S (10 + x.toNat) (10 + z.toNat)))), (0, .ref (ad 1 0)), (1, .ref (ad 3 3)), (2, .int (i32 (x))), (3, .int (i32 (z)))]) hx hb dL_joins_113 hl (by decide) rfl (fun ls hl => ?_)
                    refine lv_iload hx hb dL_joins_115 (lv_at hl 0 rfl) ?_
                    refine lv_aload_n hx hb dL_joins_117 rfl (lv_at hl 4 rfl) ?_
                    refine lv_iload_n hx hb dL_joins_118 rfl (lv_at hl 7 rfl) ?_
                    refine lv_iconst (v := i32 (1)) hx hb dL_joins_119 rfl ?_
                    refine q_callH2 (As := [.ref (ad 1 0), .int (i32 (z)), .int (i32 (1))]) (rest := [.int (i32 (S (10 + x.toNat) 0 1))]) hx hb hml hl.1 hown hK hZ hP hS (c_L_pieceIs l g base ad S z ((1 : Int)) hfl hI.wc hrn2 ⟨by decide, by decide⟩) t_266 t_14 t_268 t_267 f_yL_pieceIs ⟨Nat.le_of_ble_eq_true rfl, Nat.le_of_ble_eq_true rfl⟩ rfl rfl (Nat.le_of_ble_eq_true rfl) dL_joins_120 (c2 := 20) (s2 := 120) ⟨by first | rfl | (dsimp only; omega), by first | rfl | (dsimp only; omega)⟩ ⟨by show 20 ≤ 1498; omega, by show 120 ≤ 8988; omega⟩ (q_an (fun H locs hP hS => ?_))
                    refine q_nm (b := S (10 + z.toNat) 0 1) (((lv_0 h_A.2 (by decide) trivial).trans (pcC_1 rfl))) ?_
                    refine q_icmp_ne (tgt := 130) hx hb (rS _ _ _) (rS _ _ _) dL_joins_123 (by decide) (fun c_79 => (by exfalso; omega)) (fun c_79 => ?_)
                    refine lv_iconst (v := i32 (1)) hx hb dL_joins_126 rfl ?_
                    refine lv_goto (tgt := 131) hx hb dL_joins_127 (by decide) ?_
                    refine lv_istore (lv' := [(8, .int (i32 (1))), (7, .int (i32 (S (10 + x.toNat) 0 1))), (6, .int (i32 ((shC S (10 + x.toNat)) + (shC S (10 + z.toNat))))), (5, .int (i32 ((S (10 + x.toNat) 0 0) + (S (10 + z.toNat) 0 0)))), (4, .int (i32 (mcC S (10 + x.toNat) (10 + z.toNat)))), (0, .ref (ad 1 0)), (1, .ref (ad 3 3)), (2, .int (i32 (x))), (3, .int (i32 (z)))]) hx hb dL_joins_131 hl (by decide) rfl (fun ls hl => ?_)
                    refine lv_aload_n hx hb dL_joins_133 rfl (lv_at hl 5 rfl) ?_
                    refine lv_iload_n hx hb dL_joins_134 rfl (lv_at hl 7 rfl) ?_
                    refine lv_iconst (v := i32 (3)) hx hb dL_joins_135 rfl ?_
                    refine q_callH2 (As := [.ref (ad 1 0), .int (i32 (x)), .int (i32 (3))]) (rest := []) hx hb hml hl.1 hown hK hZ hP hS (c_L_pieceIs l g base ad S x ((3 : Int)) hfl hI.wc hrn ⟨by decide, by decide⟩) t_266 t_14 t_268 t_267 f_yL_pieceIs ⟨Nat.le_of_ble_eq_true rfl, Nat.le_of_ble_eq_true rfl⟩ rfl rfl (Nat.le_of_ble_eq_true rfl) dL_joins_136 (c2 := 22) (s2 := 132) ⟨by first | rfl | (dsimp only; omega), by first | rfl | (dsimp only; omega)⟩ ⟨by show 22 ≤ 1498; omega, by show 132 ≤ 8988; omega⟩ (q_an (fun H locs hP hS => ?_))
                    refine q_nm (b := 1) (((lv_0 h_A.1 (by decide) trivial).trans (pcC_3 rfl)).trans (b2_t h_D)) ?_
                    refine lv_aload_n hx hb dL_joins_139 rfl (lv_at hl 5 rfl) ?_
                    refine lv_iload_n hx hb dL_joins_140 rfl (lv_at hl 8 rfl) ?_
                    refine lv_iconst (v := i32 (3)) hx hb dL_joins_141 rfl ?_
                    refine q_callH2 (As := [.ref (ad 1 0), .int (i32 (z)), .int (i32 (3))]) (rest := [.int (i32 (1))]) hx hb hml hl.1 hown hK hZ hP hS (c_L_pieceIs l g base ad S z ((3 : Int)) hfl hI.wc hrn2 ⟨by decide, by decide⟩) t_266 t_14 t_268 t_267 f_yL_pieceIs ⟨Nat.le_of_ble_eq_true rfl, Nat.le_of_ble_eq_true rfl⟩ rfl rfl (Nat.le_of_ble_eq_true rfl) dL_joins_142 (c2 := 24) (s2 := 144) ⟨by first | rfl | (dsimp only; omega), by first | rfl | (dsimp only; omega)⟩ ⟨by show 24 ≤ 1498; omega, by show 144 ≤ 8988; omega⟩ (q_an (fun H locs hP hS => ?_))
                    refine q_nm (b := 1) (((lv_0 h_A.2 (by decide) trivial).trans (pcC_3 rfl)).trans (b2_t h_E)) ?_
                    refine q_iadd hx hb dL_joins_145 ?_
                    refine q_nm (show (1 + 1 : Int) = 2 from by decide) ?_
                    refine lv_iconst (v := i32 (2)) hx hb dL_joins_146 rfl ?_
                    refine q_icmp_ne (tgt := 154) hx hb ⟨by decide, by decide⟩ ⟨by decide, by decide⟩ dL_joins_147 (by decide) (fun c_80 => (by exfalso; omega)) (fun c_80 => ?_)
                    refine lv_iconst (v := i32 (1)) hx hb dL_joins_150 rfl ?_
                    refine lv_goto (tgt := 155) hx hb dL_joins_151 (by decide) ?_
                    refine lv_istore (lv' := [(9, .int (i32 (1))), (8, .int (i32 (1))), (7, .int (i32 (S (10 + x.toNat) 0 1))), (6, .int (i32 ((shC S (10 + x.toNat)) + (shC S (10 + z.toNat))))), (5, .int (i32 ((S (10 + x.toNat) 0 0) + (S (10 + z.toNat) 0 0)))), (4, .int (i32 (mcC S (10 + x.toNat) (10 + z.toNat)))), (0, .ref (ad 1 0)), (1, .ref (ad 3 3)), (2, .int (i32 (x))), (3, .int (i32 (z)))]) hx hb dL_joins_155 hl (by decide) rfl (fun ls hl => ?_)
                    refine lv_aload_n hx hb dL_joins_157 rfl (lv_at hl 6 rfl) ?_
                    refine lv_iload_n hx hb dL_joins_158 rfl (lv_at hl 8 rfl) ?_
                    refine q_callH2 (As := [.ref (ad 1 0), .int (i32 (x))]) (rest := []) hx hb hml hl.1 hown hK hZ hP hS (c_L_isTrue l g base ad S x hfl hI.wc hrn) t_516 t_14 t_518 t_517 f_yL_isTrue ⟨Nat.le_of_ble_eq_true rfl, Nat.le_of_ble_eq_true rfl⟩ rfl rfl (Nat.le_of_ble_eq_true rfl) dL_joins_159 (c2 := 25) (s2 := 150) ⟨by first | rfl | (dsimp only; omega), by first | rfl | (dsimp only; omega)⟩ ⟨by show 25 ≤ 1498; omega, by show 150 ≤ 8988; omega⟩ (q_an (fun H locs hP hS => ?_))
                    refine q_nm (b := 0) ((lv_0 h_A.1 trivial trivial).trans (b2_f h_T)) ?_
                    refine lv_aload_n hx hb dL_joins_162 rfl (lv_at hl 6 rfl) ?_
                    refine lv_iload_n hx hb dL_joins_163 rfl (lv_at hl 9 rfl) ?_
                    refine q_callH2 (As := [.ref (ad 1 0), .int (i32 (z))]) (rest := [.int (i32 (0))]) hx hb hml hl.1 hown hK hZ hP hS (c_L_isTrue l g base ad S z hfl hI.wc hrn2) t_516 t_14 t_518 t_517 f_yL_isTrue ⟨Nat.le_of_ble_eq_true rfl, Nat.le_of_ble_eq_true rfl⟩ rfl rfl (Nat.le_of_ble_eq_true rfl) dL_joins_164 (c2 := 26) (s2 := 156) ⟨by first | rfl | (dsimp only; omega), by first | rfl | (dsimp only; omega)⟩ ⟨by show 26 ≤ 1498; omega, by show 156 ≤ 8988; omega⟩ (q_an (fun H locs hP hS => ?_))
                    refine q_nm (b := 0) ((lv_0 h_A.2 trivial trivial).trans (b2_f h_U)) ?_
                    refine q_iadd hx hb dL_joins_167 ?_
                    refine q_nm (show (0 + 0 : Int) = 0 from by decide) ?_
                    refine lv_istore (lv' := [(10, .int (i32 (0))), (9, .int (i32 (1))), (8, .int (i32 (1))), (7, .int (i32 (S (10 + x.toNat) 0 1))), (6, .int (i32 ((shC S (10 + x.toNat)) + (shC S (10 + z.toNat))))), (5, .int (i32 ((S (10 + x.toNat) 0 0) + (S (10 + z.toNat) 0 0)))), (4, .int (i32 (mcC S (10 + x.toNat) (10 + z.toNat)))), (0, .ref (ad 1 0)), (1, .ref (ad 3 3)), (2, .int (i32 (x))), (3, .int (i32 (z)))]) hx hb dL_joins_168 hl (by decide) rfl (fun ls hl => ?_)
                    refine lv_aload_n hx hb dL_joins_170 rfl (lv_at hl 7 rfl) ?_
                    refine lv_iload_n hx hb dL_joins_171 rfl (lv_at hl 9 rfl) ?_
                    refine lv_iload_n hx hb dL_joins_172 rfl (lv_at hl 10 rfl) ?_
                    have w8 := IV_join hI h_A.1 h_A.2 h_B h_D h_E h_H h_W
                    refine q_callH2 (As := [.ref (ad 1 0), .int (i32 (x)), .int (i32 (z))]) (rest := []) hx hb hml hl.1 hown hK hZ hP hS (c_L_join l g base ad S x z hfl hI.wc hrn hrn2) t_604 t_14 t_606 t_605 f_yL_join ⟨Nat.le_of_ble_eq_true rfl, Nat.le_of_ble_eq_true rfl⟩ rfl rfl (Nat.le_of_ble_eq_true rfl) dL_joins_173 (c2 := 31) (s2 := 186) ⟨by first | rfl | (dsimp only; omega), by first | rfl | (dsimp only; omega)⟩ ⟨by show 31 ≤ 1498; omega, by show 186 ≤ 8988; omega⟩ (fun rr ad' S' H locs hQ hP hS => ?_)
                    have hc9 : (peC S x ∧ peC S z) ∧ (x ≠ z) ∧ (dnC S (10 + x.toNat) ∧ dnC S (10 + z.toNat) ∧ S (10 + x.toNat) 0 1 = S (10 + z.toNat) 0 1 ∧ S (10 + x.toNat) 0 0 + S (10 + z.toNat) 0 0 ≤ 24) := ⟨h_A, h_B, ⟨h_D, h_E, h_H, h_W⟩⟩
                    obtain ⟨⟨hr9, ek9⟩, hQ⟩ := hQ
                    have hs9 := (hQ.resolve_left (fun y9 => y9.1 hc9)).2
                    subst hr9
                    rw [ek9] at hP
                    rw [hs9] at hP
                    refine q_nm (b := 1) ((lv_0 hc9.1 hc9.2.1 hc9.2.2).trans (b2_t (w8.2.2.2.2.1.mpr h_J))) ?_
                    generalize eS81 : jnS S (10 + x.toNat) (10 + z.toNat) z = S81 at hP
                    have rS81 : ∀ (a1 b1 : Nat) (i1 : Int), rng (S81 a1 b1 i1) := fun a1 b1 i1 => hP.rg a1 b1 i1
                    have ivS81 : IV S81 := by rw [← eS81]; exact w8.1
                    have h3S81 : ∀ (b1 : Nat) (i1 : Int), S81 3 b1 i1 = S 3 b1 i1 := by rw [← eS81]; exact fun b i => w8.2.1.1.1 3 b i (by omega) (by omega)
                    rw [eS81] at w8
                    obtain ⟨-, ⟨⟨fr8, -⟩, ⟨j0, -, -⟩, -⟩, ⟨kx3, kz3⟩, jsh, -, jtr⟩ := w8
                    have lv8 : LV S81 := LV_k hV hI.k.1.2 (fun b i => fr8 _ _ _ (by omega) (by omega)) (fr8 _ _ _ (by omega) (by omega)) (fr8 _ _ _ (by omega) (by omega)) (fr8 _ _ _ (by omega) (by omega)) (fun j => fr8 _ _ _ (by omega) (by omega)) (fun a h1 h2 => ⟨fr8 _ _ _ (by omega) (by omega), fr8 _ _ _ (by omega) (by omega)⟩)
                    refine lv_istore (lv' := [(11, .int (i32 (1))), (10, .int (i32 (0))), (9, .int (i32 (1))), (8, .int (i32 (1))), (7, .int (i32 (S (10 + x.toNat) 0 1))), (6, .int (i32 ((shC S (10 + x.toNat)) + (shC S (10 + z.toNat))))), (5, .int (i32 ((S (10 + x.toNat) 0 0) + (S (10 + z.toNat) 0 0)))), (4, .int (i32 (mcC S (10 + x.toNat) (10 + z.toNat)))), (0, .ref (ad 1 0)), (1, .ref (ad 3 3)), (2, .int (i32 (x))), (3, .int (i32 (z)))]) hx hb dL_joins_176 hl (by decide) rfl (fun ls hl => ?_)
                    refine lv_iload hx hb dL_joins_178 (lv_at hl 2 rfl) ?_
                    refine q_if_eq (tgt := 195) hx hb ⟨by decide, by decide⟩ dL_joins_180 (by decide) (fun h => by omega) (fun _ => ?_)
                    refine lv_iload hx hb dL_joins_183 (lv_at hl 3 rfl) ?_
                    refine q_if_eq (tgt := 195) hx hb ⟨by decide, by decide⟩ dL_joins_185 (by decide) (fun h => by omega) (fun _ => ?_)
                    refine lv_iload hx hb dL_joins_188 (lv_at hl 6 rfl) ?_
                    refine lv_bipush (v := i32 (24)) hx hb dL_joins_190 (by decide) ?_
                    refine q_icmp_le (tgt := 249) hx hb ⟨by omega, by omega⟩ ⟨by decide, by decide⟩ dL_joins_192 (by decide) (fun c_82 => ?_) (fun c_82 => (by exfalso; omega))
                    refine lv_iload hx hb dL_joins_249 (lv_at hl 7 rfl) ?_
                    refine q_if_lt (tgt := 332) hx hb ⟨by omega, by omega⟩ dL_joins_251 (by decide) (fun c_83 => (by exfalso; omega)) (fun c_83 => ?_)
                    refine lv_iload hx hb dL_joins_254 (lv_at hl 7 rfl) ?_
                    refine lv_iload hx hb dL_joins_256 (lv_at hl 4 rfl) ?_
                    refine q_icmp_gt (tgt := 332) hx hb ⟨by omega, by omega⟩ (rS _ _ _) dL_joins_258 (by decide) (fun c_84 => (by exfalso; omega)) (fun c_84 => ?_)
                    refine lv_iload hx hb dL_joins_261 (lv_at hl 0 rfl) ?_
                    refine q_if_lt (tgt := 332) hx hb ⟨by decide, by decide⟩ dL_joins_263 (by decide) (fun h => by omega) (fun _ => ?_)
                    refine lv_aload_n hx hb dL_joins_266 rfl (lv_at hl 8 rfl) ?_
                    refine lv_iload_n hx hb dL_joins_267 rfl (lv_at hl 10 rfl) ?_
                    refine lv_iconst (v := i32 (0)) hx hb dL_joins_268 rfl ?_
                    refine q_callH2 (As := [.ref (ad 1 0), .int (i32 (x)), .int (i32 (0))]) (rest := []) hx hb hml hl.1 hown hK hZ hP hS (c_L_pieceIs l g base ad S81 x ((0 : Int)) hfl ivS81.wc hrn ⟨by decide, by decide⟩) t_266 t_14 t_268 t_267 f_yL_pieceIs ⟨Nat.le_of_ble_eq_true rfl, Nat.le_of_ble_eq_true rfl⟩ rfl rfl (Nat.le_of_ble_eq_true rfl) dL_joins_269 (c2 := 33) (s2 := 198) ⟨by first | rfl | (dsimp only; omega), by first | rfl | (dsimp only; omega)⟩ ⟨by show 33 ≤ 1498; omega, by show 198 ≤ 8988; omega⟩ (q_an (fun H locs hP hS => ?_))
                    refine q_nm (b := S (10 + x.toNat) 0 0 + S (10 + z.toNat) 0 0) (((lv_0 kx3 (by decide) trivial).trans (pcC_0 rfl)).trans j0) ?_
                    refine lv_iload hx hb dL_joins_272 (lv_at hl 6 rfl) ?_
                    refine q_icmp_ne (tgt := 332) hx hb ⟨by omega, by omega⟩ ⟨by omega, by omega⟩ dL_joins_274 (by decide) (fun c_85 => (by exfalso; omega)) (fun c_85 => ?_)
                    refine lv_aload_n hx hb dL_joins_277 rfl (lv_at hl 8 rfl) ?_
                    refine lv_iload_n hx hb dL_joins_278 rfl (lv_at hl 10 rfl) ?_
                    refine lv_iconst (v := i32 (5)) hx hb dL_joins_279 rfl ?_
                    refine q_callH2 (As := [.ref (ad 1 0), .int (i32 (x)), .int (i32 (5))]) (rest := []) hx hb hml hl.1 hown hK hZ hP hS (c_L_pieceIs l g base ad S81 x ((5 : Int)) hfl ivS81.wc hrn ⟨by decide, by decide⟩) t_266 t_14 t_268 t_267 f_yL_pieceIs ⟨Nat.le_of_ble_eq_true rfl, Nat.le_of_ble_eq_true rfl⟩ rfl rfl (Nat.le_of_ble_eq_true rfl) dL_joins_280 (c2 := 35) (s2 := 210) ⟨by first | rfl | (dsimp only; omega), by first | rfl | (dsimp only; omega)⟩ ⟨by show 35 ≤ 1498; omega, by show 210 ≤ 8988; omega⟩ (q_an (fun H locs hP hS => ?_))
                    refine q_nm (b := shC S (10 + x.toNat) + shC S (10 + z.toNat)) (((lv_0 kx3 (by decide) trivial).trans (pcC_5 rfl)).trans jsh) ?_
                    refine lv_iload hx hb dL_joins_283 (lv_at hl 5 rfl) ?_
                    refine q_icmp_ne (tgt := 332) hx hb ⟨by omega, by omega⟩ ⟨by omega, by omega⟩ dL_joins_285 (by decide) (fun c_86 => (by exfalso; omega)) (fun c_86 => ?_)
                    refine lv_aload_n hx hb dL_joins_288 rfl (lv_at hl 8 rfl) ?_
                    refine lv_iload_n hx hb dL_joins_289 rfl (lv_at hl 11 rfl) ?_
                    refine lv_iconst (v := i32 (0)) hx hb dL_joins_290 rfl ?_
                    refine q_callH2 (As := [.ref (ad 1 0), .int (i32 (z)), .int (i32 (0))]) (rest := []) hx hb hml hl.1 hown hK hZ hP hS (c_L_pieceIs l g base ad S81 z ((0 : Int)) hfl ivS81.wc hrn2 ⟨by decide, by decide⟩) t_266 t_14 t_268 t_267 f_yL_pieceIs ⟨Nat.le_of_ble_eq_true rfl, Nat.le_of_ble_eq_true rfl⟩ rfl rfl (Nat.le_of_ble_eq_true rfl) dL_joins_291 (c2 := 37) (s2 := 222) ⟨by first | rfl | (dsimp only; omega), by first | rfl | (dsimp only; omega)⟩ ⟨by show 37 ≤ 1498; omega, by show 222 ≤ 8988; omega⟩ (q_an (fun H locs hP hS => ?_))
                    refine q_nm (b := -1000001) (lv_1 kz3) ?_
                    refine q_ldc (z := -1000001) hx hb hown hK t_248 rfl dL_joins_294 ?_
                    refine q_icmp_ne (tgt := 332) hx hb ⟨by decide, by decide⟩ ⟨by decide, by decide⟩ dL_joins_296 (by decide) (fun c_87 => (by exfalso; omega)) (fun c_87 => ?_)
                    refine lv_aload_n hx hb dL_joins_299 rfl (lv_at hl 8 rfl) ?_
                    refine lv_iload_n hx hb dL_joins_300 rfl (lv_at hl 10 rfl) ?_
                    refine q_callH2 (As := [.ref (ad 1 0), .int (i32 (x))]) (rest := []) hx hb hml hl.1 hown hK hZ hP hS (c_L_isTrue l g base ad S81 x hfl ivS81.wc hrn) t_516 t_14 t_518 t_517 f_yL_isTrue ⟨Nat.le_of_ble_eq_true rfl, Nat.le_of_ble_eq_true rfl⟩ rfl rfl (Nat.le_of_ble_eq_true rfl) dL_joins_301 (c2 := 38) (s2 := 228) ⟨by first | rfl | (dsimp only; omega), by first | rfl | (dsimp only; omega)⟩ ⟨by show 38 ≤ 1498; omega, by show 228 ≤ 8988; omega⟩ (q_an (fun H locs hP hS => ?_))
                    refine q_nm (b := 0) ((lv_0 kx3 trivial trivial).trans (b2_f (fun y9 => (fun y : _ ∧ _ ∧ _ => h_T y.1) (jtr.mp y9)))) ?_
                    refine lv_iload hx hb dL_joins_304 (lv_at hl 1 rfl) ?_
                    refine lv_iconst (v := i32 (2)) hx hb dL_joins_306 rfl ?_
                    refine q_icmp_ne (tgt := 315) hx hb ⟨by decide, by decide⟩ ⟨by decide, by decide⟩ dL_joins_307 (by decide) (fun c_88 => ?_) (fun c_88 => (by exfalso; omega))
                    refine lv_iconst (v := i32 (0)) hx hb dL_joins_315 rfl ?_
                    refine q_icmp_ne (tgt := 332) hx hb ⟨by decide, by decide⟩ ⟨by decide, by decide⟩ dL_joins_316 (by decide) (fun c_89 => (by exfalso; omega)) (fun c_89 => ?_)
                    refine lv_aload_n hx hb dL_joins_319 rfl (lv_at hl 8 rfl) ?_
                    refine lv_aload_n hx hb dL_joins_320 rfl (lv_at hl 9 rfl) ?_
                    refine lv_iload_n hx hb dL_joins_321 rfl (lv_at hl 10 rfl) ?_
                    refine q_callS2 (As := [.ref (ad 1 0), .ref (ad 3 3), .int (i32 (x))]) (rest := []) hx hb hml hl.1 hown hK hZ hP hS (c_L_isPiece l g base ad S81 x hfl ivS81 kx3 lv8.2.2.2 hrn) t_329 (q_callB hK 328 14 330 t_328 t_14 t_330 f_yL_isPiece ⟨Nat.le_of_ble_eq_true rfl, Nat.le_of_ble_eq_true rfl⟩) rfl rfl (Nat.le_of_ble_eq_true rfl) dL_joins_322 (c2 := 1498) (s2 := 8988) ⟨by first | rfl | (dsimp only; omega), by first | rfl | (dsimp only; omega)⟩ ⟨by show 1498 ≤ 1498; omega, by show 8988 ≤ 8988; omega⟩ (q_an (fun H locs hP hS => ?_))
                    refine q_if_eq (tgt := 332) hx hb ⟨by decide, by decide⟩ dL_joins_325 (by decide) (fun h => by omega) (fun _ => ?_)
                    refine lv_iconst (v := i32 (1)) hx hb dL_joins_328 rfl ?_
                    refine lv_goto (tgt := 333) hx hb dL_joins_329 (by decide) ?_
                    subst hQm
                    exact q_zret hx hb hr hlocks hP hS (v := 1) (by decide) (by exact ⟨⟨rfl, (fun _ _ _ => rfl)⟩, ivS81, lv8⟩) (by show 1498 ≤ 1498; omega) (by show 8988 ≤ 8988; omega) dL_joins_333
                  · skip
                    obtain ⟨-, pw8, ph8, -⟩ := (hI.pp h_A.1).1
                    obtain ⟨-, pw9, ph9, -⟩ := (hI.pp h_A.2).1
                    have hsb8 := sh_b (hI.pp h_A.1)
                    have hsb9 := sh_b (hI.pp h_A.2)
                    have hmc := mc_b (S := S) (o := 10 + x.toNat) (n := 10 + z.toNat) (by omega)
                    refine lv_aload_n hx hb dL_joins_0 rfl (lv_at hl 0 rfl) ?_
                    refine lv_iload_n hx hb dL_joins_1 rfl (lv_at hl 2 rfl) ?_
                    refine lv_iload_n hx hb dL_joins_2 rfl (lv_at hl 3 rfl) ?_
                    refine q_callH2 (As := [.ref (ad 1 0), .int (i32 (x)), .int (i32 (z))]) (rest := []) hx hb hml hl.1 hown hK hZ hP hS (c_L_match l g base ad S x z hfl hI.wc hrn hrn2) t_585 t_14 t_587 t_586 f_yL_match ⟨Nat.le_of_ble_eq_true rfl, Nat.le_of_ble_eq_true rfl⟩ rfl rfl (Nat.le_of_ble_eq_true rfl) dL_joins_3 (c2 := 4) (s2 := 24) ⟨by first | rfl | (dsimp only; omega), by first | rfl | (dsimp only; omega)⟩ ⟨by show 4 ≤ 1498; omega, by show 24 ≤ 8988; omega⟩ (q_an (fun H locs hP hS => ?_))
                    refine q_nm (b := mcC S (10 + x.toNat) (10 + z.toNat)) ((lv_0 h_A h_B ⟨h_D, h_E⟩).trans (cif_t h_H)) ?_
                    refine lv_istore (lv' := [(4, .int (i32 (mcC S (10 + x.toNat) (10 + z.toNat)))), (0, .ref (ad 1 0)), (1, .ref (ad 3 3)), (2, .int (i32 (x))), (3, .int (i32 (z)))]) hx hb dL_joins_6 hl (by decide) rfl (fun ls hl => ?_)
                    refine lv_aload_n hx hb dL_joins_8 rfl (lv_at hl 1 rfl) ?_
                    refine lv_iload_n hx hb dL_joins_9 rfl (lv_at hl 3 rfl) ?_
                    refine q_callS2 (As := [.ref (ad 1 0), .int (i32 (x))]) (rest := []) hx hb hml hl.1 hown hK hZ hP hS (c_L_isThere l g base ad S x hfl hI hrn) t_264 (q_callB hK 263 14 265 t_263 t_14 t_265 f_yL_isThere ⟨Nat.le_of_ble_eq_true rfl, Nat.le_of_ble_eq_true rfl⟩) rfl rfl (Nat.le_of_ble_eq_true rfl) dL_joins_10 (c2 := 6) (s2 := 36) ⟨by first | rfl | (dsimp only; omega), by first | rfl | (dsimp only; omega)⟩ ⟨by show 6 ≤ 1498; omega, by show 36 ≤ 8988; omega⟩ (q_an (fun H locs hP hS => ?_))
                    refine q_if_eqb (tgt := 24) hx hb dL_joins_13 (by decide) (fun c_90 => (by exfalso; exact c_90 h_A.1)) (fun c_90 => ?_)
                    refine lv_aload_n hx hb dL_joins_16 rfl (lv_at hl 1 rfl) ?_
                    refine lv_iload_n hx hb dL_joins_17 rfl (lv_at hl 4 rfl) ?_
                    refine q_callS2 (As := [.ref (ad 1 0), .int (i32 (z))]) (rest := []) hx hb hml hl.1 hown hK hZ hP hS (c_L_isThere l g base ad S z hfl hI hrn2) t_264 (q_callB hK 263 14 265 t_263 t_14 t_265 f_yL_isThere ⟨Nat.le_of_ble_eq_true rfl, Nat.le_of_ble_eq_true rfl⟩) rfl rfl (Nat.le_of_ble_eq_true rfl) dL_joins_18 (c2 := 8) (s2 := 48) ⟨by first | rfl | (dsimp only; omega), by first | rfl | (dsimp only; omega)⟩ ⟨by show 8 ≤ 1498; omega, by show 48 ≤ 8988; omega⟩ (q_an (fun H locs hP hS => ?_))
                    refine q_if_neb (tgt := 48) hx hb dL_joins_21 (by decide) (fun c_91 => ?_) (fun c_91 => (by exfalso; exact c_91 h_A.2))
                    refine lv_iload_n hx hb dL_joins_48 rfl (lv_at hl 3 rfl) ?_
                    refine lv_iload_n hx hb dL_joins_49 rfl (lv_at hl 4 rfl) ?_
                    refine q_icmp_ne (tgt := 77) hx hb hrn hrn2 dL_joins_50 (by decide) (fun _ => ?_) (fun h => by first | exact absurd h_B h | exact absurd h h_B | omega)
                    refine lv_aload_n hx hb dL_joins_77 rfl (lv_at hl 1 rfl) ?_
                    refine lv_iload_n hx hb dL_joins_78 rfl (lv_at hl 3 rfl) ?_
                    refine lv_iconst (v := i32 (0)) hx hb dL_joins_79 rfl ?_
                    refine q_callH2 (As := [.ref (ad 1 0), .int (i32 (x)), .int (i32 (0))]) (rest := []) hx hb hml hl.1 hown hK hZ hP hS (c_L_pieceIs l g base ad S x ((0 : Int)) hfl hI.wc hrn ⟨by decide, by decide⟩) t_266 t_14 t_268 t_267 f_yL_pieceIs ⟨Nat.le_of_ble_eq_true rfl, Nat.le_of_ble_eq_true rfl⟩ rfl rfl (Nat.le_of_ble_eq_true rfl) dL_joins_80 (c2 := 10) (s2 := 60) ⟨by first | rfl | (dsimp only; omega), by first | rfl | (dsimp only; omega)⟩ ⟨by show 10 ≤ 1498; omega, by show 60 ≤ 8988; omega⟩ (q_an (fun H locs hP hS => ?_))
                    refine q_nm (b := S (10 + x.toNat) 0 0) (((lv_0 h_A.1 (by decide) trivial).trans (pcC_0 rfl))) ?_
                    refine lv_aload_n hx hb dL_joins_83 rfl (lv_at hl 1 rfl) ?_
                    refine lv_iload_n hx hb dL_joins_84 rfl (lv_at hl 4 rfl) ?_
                    refine lv_iconst (v := i32 (0)) hx hb dL_joins_85 rfl ?_
                    refine q_callH2 (As := [.ref (ad 1 0), .int (i32 (z)), .int (i32 (0))]) (rest := [.int (i32 (S (10 + x.toNat) 0 0))]) hx hb hml hl.1 hown hK hZ hP hS (c_L_pieceIs l g base ad S z ((0 : Int)) hfl hI.wc hrn2 ⟨by decide, by decide⟩) t_266 t_14 t_268 t_267 f_yL_pieceIs ⟨Nat.le_of_ble_eq_true rfl, Nat.le_of_ble_eq_true rfl⟩ rfl rfl (Nat.le_of_ble_eq_true rfl) dL_joins_86 (c2 := 12) (s2 := 72) ⟨by first | rfl | (dsimp only; omega), by first | rfl | (dsimp only; omega)⟩ ⟨by show 12 ≤ 1498; omega, by show 72 ≤ 8988; omega⟩ (q_an (fun H locs hP hS => ?_))
                    refine q_nm (b := S (10 + z.toNat) 0 0) (((lv_0 h_A.2 (by decide) trivial).trans (pcC_0 rfl))) ?_
                    refine q_iadd hx hb dL_joins_89 ?_
                    refine lv_istore (lv' := [(5, .int (i32 ((S (10 + x.toNat) 0 0) + (S (10 + z.toNat) 0 0)))), (4, .int (i32 (mcC S (10 + x.toNat) (10 + z.toNat)))), (0, .ref (ad 1 0)), (1, .ref (ad 3 3)), (2, .int (i32 (x))), (3, .int (i32 (z)))]) hx hb dL_joins_90 hl (by decide) rfl (fun ls hl => ?_)
                    refine lv_aload_n hx hb dL_joins_92 rfl (lv_at hl 2 rfl) ?_
                    refine lv_iload_n hx hb dL_joins_93 rfl (lv_at hl 4 rfl) ?_
                    refine lv_iconst (v := i32 (5)) hx hb dL_joins_94 rfl ?_
                    refine q_callH2 (As := [.ref (ad 1 0), .int (i32 (x)), .int (i32 (5))]) (rest := []) hx hb hml hl.1 hown hK hZ hP hS (c_L_pieceIs l g base ad S x ((5 : Int)) hfl hI.wc hrn ⟨by decide, by decide⟩) t_266 t_14 t_268 t_267 f_yL_pieceIs ⟨Nat.le_of_ble_eq_true rfl, Nat.le_of_ble_eq_true rfl⟩ rfl rfl (Nat.le_of_ble_eq_true rfl) dL_joins_95 (c2 := 14) (s2 := 84) ⟨by first | rfl | (dsimp only; omega), by first | rfl | (dsimp only; omega)⟩ ⟨by show 14 ≤ 1498; omega, by show 84 ≤ 8988; omega⟩ (q_an (fun H locs hP hS => ?_))
                    refine q_nm (b := shC S (10 + x.toNat)) (((lv_0 h_A.1 (by decide) trivial).trans (pcC_5 rfl))) ?_
                    refine lv_aload_n hx hb dL_joins_98 rfl (lv_at hl 2 rfl) ?_
                    refine lv_iload_n hx hb dL_joins_99 rfl (lv_at hl 5 rfl) ?_
                    refine lv_iconst (v := i32 (5)) hx hb dL_joins_100 rfl ?_
                    refine q_callH2 (As := [.ref (ad 1 0), .int (i32 (z)), .int (i32 (5))]) (rest := [.int (i32 (shC S (10 + x.toNat)))]) hx hb hml hl.1 hown hK hZ hP hS (c_L_pieceIs l g base ad S z ((5 : Int)) hfl hI.wc hrn2 ⟨by decide, by decide⟩) t_266 t_14 t_268 t_267 f_yL_pieceIs ⟨Nat.le_of_ble_eq_true rfl, Nat.le_of_ble_eq_true rfl⟩ rfl rfl (Nat.le_of_ble_eq_true rfl) dL_joins_101 (c2 := 16) (s2 := 96) ⟨by first | rfl | (dsimp only; omega), by first | rfl | (dsimp only; omega)⟩ ⟨by show 16 ≤ 1498; omega, by show 96 ≤ 8988; omega⟩ (q_an (fun H locs hP hS => ?_))
                    refine q_nm (b := shC S (10 + z.toNat)) (((lv_0 h_A.2 (by decide) trivial).trans (pcC_5 rfl))) ?_
                    refine q_iadd hx hb dL_joins_104 ?_
                    refine lv_istore (lv' := [(6, .int (i32 ((shC S (10 + x.toNat)) + (shC S (10 + z.toNat))))), (5, .int (i32 ((S (10 + x.toNat) 0 0) + (S (10 + z.toNat) 0 0)))), (4, .int (i32 (mcC S (10 + x.toNat) (10 + z.toNat)))), (0, .ref (ad 1 0)), (1, .ref (ad 3 3)), (2, .int (i32 (x))), (3, .int (i32 (z)))]) hx hb dL_joins_105 hl (by decide) rfl (fun ls hl => ?_)
                    refine lv_aload_n hx hb dL_joins_107 rfl (lv_at hl 3 rfl) ?_
                    refine lv_iload_n hx hb dL_joins_108 rfl (lv_at hl 5 rfl) ?_
                    refine lv_iconst (v := i32 (1)) hx hb dL_joins_109 rfl ?_
                    refine q_callH2 (As := [.ref (ad 1 0), .int (i32 (x)), .int (i32 (1))]) (rest := []) hx hb hml hl.1 hown hK hZ hP hS (c_L_pieceIs l g base ad S x ((1 : Int)) hfl hI.wc hrn ⟨by decide, by decide⟩) t_266 t_14 t_268 t_267 f_yL_pieceIs ⟨Nat.le_of_ble_eq_true rfl, Nat.le_of_ble_eq_true rfl⟩ rfl rfl (Nat.le_of_ble_eq_true rfl) dL_joins_110 (c2 := 18) (s2 := 108) ⟨by first | rfl | (dsimp only; omega), by first | rfl | (dsimp only; omega)⟩ ⟨by show 18 ≤ 1498; omega, by show 108 ≤ 8988; omega⟩ (q_an (fun H locs hP hS => ?_))
                    refine q_nm (b := S (10 + x.toNat) 0 1) (((lv_0 h_A.1 (by decide) trivial).trans (pcC_1 rfl))) ?_
                    refine lv_istore (lv' := [(7, .int (i32 (S (10 + x.toNat) 0 1))), (6, .int (i32 ((shC S (10 + x.toNat)) + (shC S (10 + z.toNat))))), (5, .int (i32 ((S (10 + x.toNat) 0 0) + (S (10 + z.toNat) 0 0)))), (4, .int (i32 (mcC S (10 + x.toNat) (10 + z.toNat)))), (0, .ref (ad 1 0)), (1, .ref (ad 3 3)), (2, .int (i32 (x))), (3, .int (i32 (z)))]) hx hb dL_joins_113 hl (by decide) rfl (fun ls hl => ?_)
                    refine lv_iload hx hb dL_joins_115 (lv_at hl 0 rfl) ?_
                    refine lv_aload_n hx hb dL_joins_117 rfl (lv_at hl 4 rfl) ?_
                    refine lv_iload_n hx hb dL_joins_118 rfl (lv_at hl 7 rfl) ?_
                    refine lv_iconst (v := i32 (1)) hx hb dL_joins_119 rfl ?_
                    refine q_callH2 (As := [.ref (ad 1 0), .int (i32 (z)), .int (i32 (1))]) (rest := [.int (i32 (S (10 + x.toNat) 0 1))]) hx hb hml hl.1 hown hK hZ hP hS (c_L_pieceIs l g base ad S z ((1 : Int)) hfl hI.wc hrn2 ⟨by decide, by decide⟩) t_266 t_14 t_268 t_267 f_yL_pieceIs ⟨Nat.le_of_ble_eq_true rfl, Nat.le_of_ble_eq_true rfl⟩ rfl rfl (Nat.le_of_ble_eq_true rfl) dL_joins_120 (c2 := 20) (s2 := 120) ⟨by first | rfl | (dsimp only; omega), by first | rfl | (dsimp only; omega)⟩ ⟨by show 20 ≤ 1498; omega, by show 120 ≤ 8988; omega⟩ (q_an (fun H locs hP hS => ?_))
                    refine q_nm (b := S (10 + z.toNat) 0 1) (((lv_0 h_A.2 (by decide) trivial).trans (pcC_1 rfl))) ?_
                    refine q_icmp_ne (tgt := 130) hx hb (rS _ _ _) (rS _ _ _) dL_joins_123 (by decide) (fun c_92 => (by exfalso; omega)) (fun c_92 => ?_)
                    refine lv_iconst (v := i32 (1)) hx hb dL_joins_126 rfl ?_
                    refine lv_goto (tgt := 131) hx hb dL_joins_127 (by decide) ?_
                    refine lv_istore (lv' := [(8, .int (i32 (1))), (7, .int (i32 (S (10 + x.toNat) 0 1))), (6, .int (i32 ((shC S (10 + x.toNat)) + (shC S (10 + z.toNat))))), (5, .int (i32 ((S (10 + x.toNat) 0 0) + (S (10 + z.toNat) 0 0)))), (4, .int (i32 (mcC S (10 + x.toNat) (10 + z.toNat)))), (0, .ref (ad 1 0)), (1, .ref (ad 3 3)), (2, .int (i32 (x))), (3, .int (i32 (z)))]) hx hb dL_joins_131 hl (by decide) rfl (fun ls hl => ?_)
                    refine lv_aload_n hx hb dL_joins_133 rfl (lv_at hl 5 rfl) ?_
                    refine lv_iload_n hx hb dL_joins_134 rfl (lv_at hl 7 rfl) ?_
                    refine lv_iconst (v := i32 (3)) hx hb dL_joins_135 rfl ?_
                    refine q_callH2 (As := [.ref (ad 1 0), .int (i32 (x)), .int (i32 (3))]) (rest := []) hx hb hml hl.1 hown hK hZ hP hS (c_L_pieceIs l g base ad S x ((3 : Int)) hfl hI.wc hrn ⟨by decide, by decide⟩) t_266 t_14 t_268 t_267 f_yL_pieceIs ⟨Nat.le_of_ble_eq_true rfl, Nat.le_of_ble_eq_true rfl⟩ rfl rfl (Nat.le_of_ble_eq_true rfl) dL_joins_136 (c2 := 22) (s2 := 132) ⟨by first | rfl | (dsimp only; omega), by first | rfl | (dsimp only; omega)⟩ ⟨by show 22 ≤ 1498; omega, by show 132 ≤ 8988; omega⟩ (q_an (fun H locs hP hS => ?_))
                    refine q_nm (b := 1) (((lv_0 h_A.1 (by decide) trivial).trans (pcC_3 rfl)).trans (b2_t h_D)) ?_
                    refine lv_aload_n hx hb dL_joins_139 rfl (lv_at hl 5 rfl) ?_
                    refine lv_iload_n hx hb dL_joins_140 rfl (lv_at hl 8 rfl) ?_
                    refine lv_iconst (v := i32 (3)) hx hb dL_joins_141 rfl ?_
                    refine q_callH2 (As := [.ref (ad 1 0), .int (i32 (z)), .int (i32 (3))]) (rest := [.int (i32 (1))]) hx hb hml hl.1 hown hK hZ hP hS (c_L_pieceIs l g base ad S z ((3 : Int)) hfl hI.wc hrn2 ⟨by decide, by decide⟩) t_266 t_14 t_268 t_267 f_yL_pieceIs ⟨Nat.le_of_ble_eq_true rfl, Nat.le_of_ble_eq_true rfl⟩ rfl rfl (Nat.le_of_ble_eq_true rfl) dL_joins_142 (c2 := 24) (s2 := 144) ⟨by first | rfl | (dsimp only; omega), by first | rfl | (dsimp only; omega)⟩ ⟨by show 24 ≤ 1498; omega, by show 144 ≤ 8988; omega⟩ (q_an (fun H locs hP hS => ?_))
                    refine q_nm (b := 1) (((lv_0 h_A.2 (by decide) trivial).trans (pcC_3 rfl)).trans (b2_t h_E)) ?_
                    refine q_iadd hx hb dL_joins_145 ?_
                    refine q_nm (show (1 + 1 : Int) = 2 from by decide) ?_
                    refine lv_iconst (v := i32 (2)) hx hb dL_joins_146 rfl ?_
                    refine q_icmp_ne (tgt := 154) hx hb ⟨by decide, by decide⟩ ⟨by decide, by decide⟩ dL_joins_147 (by decide) (fun c_93 => (by exfalso; omega)) (fun c_93 => ?_)
                    refine lv_iconst (v := i32 (1)) hx hb dL_joins_150 rfl ?_
                    refine lv_goto (tgt := 155) hx hb dL_joins_151 (by decide) ?_
                    refine lv_istore (lv' := [(9, .int (i32 (1))), (8, .int (i32 (1))), (7, .int (i32 (S (10 + x.toNat) 0 1))), (6, .int (i32 ((shC S (10 + x.toNat)) + (shC S (10 + z.toNat))))), (5, .int (i32 ((S (10 + x.toNat) 0 0) + (S (10 + z.toNat) 0 0)))), (4, .int (i32 (mcC S (10 + x.toNat) (10 + z.toNat)))), (0, .ref (ad 1 0)), (1, .ref (ad 3 3)), (2, .int (i32 (x))), (3, .int (i32 (z)))]) hx hb dL_joins_155 hl (by decide) rfl (fun ls hl => ?_)
                    refine lv_aload_n hx hb dL_joins_157 rfl (lv_at hl 6 rfl) ?_
                    refine lv_iload_n hx hb dL_joins_158 rfl (lv_at hl 8 rfl) ?_
                    refine q_callH2 (As := [.ref (ad 1 0), .int (i32 (x))]) (rest := []) hx hb hml hl.1 hown hK hZ hP hS (c_L_isTrue l g base ad S x hfl hI.wc hrn) t_516 t_14 t_518 t_517 f_yL_isTrue ⟨Nat.le_of_ble_eq_true rfl, Nat.le_of_ble_eq_true rfl⟩ rfl rfl (Nat.le_of_ble_eq_true rfl) dL_joins_159 (c2 := 25) (s2 := 150) ⟨by first | rfl | (dsimp only; omega), by first | rfl | (dsimp only; omega)⟩ ⟨by show 25 ≤ 1498; omega, by show 150 ≤ 8988; omega⟩ (q_an (fun H locs hP hS => ?_))
                    refine q_nm (b := 0) ((lv_0 h_A.1 trivial trivial).trans (b2_f h_T)) ?_
                    refine lv_aload_n hx hb dL_joins_162 rfl (lv_at hl 6 rfl) ?_
                    refine lv_iload_n hx hb dL_joins_163 rfl (lv_at hl 9 rfl) ?_
                    refine q_callH2 (As := [.ref (ad 1 0), .int (i32 (z))]) (rest := [.int (i32 (0))]) hx hb hml hl.1 hown hK hZ hP hS (c_L_isTrue l g base ad S z hfl hI.wc hrn2) t_516 t_14 t_518 t_517 f_yL_isTrue ⟨Nat.le_of_ble_eq_true rfl, Nat.le_of_ble_eq_true rfl⟩ rfl rfl (Nat.le_of_ble_eq_true rfl) dL_joins_164 (c2 := 26) (s2 := 156) ⟨by first | rfl | (dsimp only; omega), by first | rfl | (dsimp only; omega)⟩ ⟨by show 26 ≤ 1498; omega, by show 156 ≤ 8988; omega⟩ (q_an (fun H locs hP hS => ?_))
                    refine q_nm (b := 0) ((lv_0 h_A.2 trivial trivial).trans (b2_f h_U)) ?_
                    refine q_iadd hx hb dL_joins_167 ?_
                    refine q_nm (show (0 + 0 : Int) = 0 from by decide) ?_
                    refine lv_istore (lv' := [(10, .int (i32 (0))), (9, .int (i32 (1))), (8, .int (i32 (1))), (7, .int (i32 (S (10 + x.toNat) 0 1))), (6, .int (i32 ((shC S (10 + x.toNat)) + (shC S (10 + z.toNat))))), (5, .int (i32 ((S (10 + x.toNat) 0 0) + (S (10 + z.toNat) 0 0)))), (4, .int (i32 (mcC S (10 + x.toNat) (10 + z.toNat)))), (0, .ref (ad 1 0)), (1, .ref (ad 3 3)), (2, .int (i32 (x))), (3, .int (i32 (z)))]) hx hb dL_joins_168 hl (by decide) rfl (fun ls hl => ?_)
                    refine lv_aload_n hx hb dL_joins_170 rfl (lv_at hl 7 rfl) ?_
                    refine lv_iload_n hx hb dL_joins_171 rfl (lv_at hl 9 rfl) ?_
                    refine lv_iload_n hx hb dL_joins_172 rfl (lv_at hl 10 rfl) ?_
                    have w8 := IV_join hI h_A.1 h_A.2 h_B h_D h_E h_H h_W
                    refine q_callH2 (As := [.ref (ad 1 0), .int (i32 (x)), .int (i32 (z))]) (rest := []) hx hb hml hl.1 hown hK hZ hP hS (c_L_join l g base ad S x z hfl hI.wc hrn hrn2) t_604 t_14 t_606 t_605 f_yL_join ⟨Nat.le_of_ble_eq_true rfl, Nat.le_of_ble_eq_true rfl⟩ rfl rfl (Nat.le_of_ble_eq_true rfl) dL_joins_173 (c2 := 31) (s2 := 186) ⟨by first | rfl | (dsimp only; omega), by first | rfl | (dsimp only; omega)⟩ ⟨by show 31 ≤ 1498; omega, by show 186 ≤ 8988; omega⟩ (fun rr ad' S' H locs hQ hP hS => ?_)
                    have hc9 : (peC S x ∧ peC S z) ∧ (x ≠ z) ∧ (dnC S (10 + x.toNat) ∧ dnC S (10 + z.toNat) ∧ S (10 + x.toNat) 0 1 = S (10 + z.toNat) 0 1 ∧ S (10 + x.toNat) 0 0 + S (10 + z.toNat) 0 0 ≤ 24) := ⟨h_A, h_B, ⟨h_D, h_E, h_H, h_W⟩⟩
                    obtain ⟨⟨hr9, ek9⟩, hQ⟩ := hQ
                    have hs9 := (hQ.resolve_left (fun y9 => y9.1 hc9)).2
                    subst hr9
                    rw [ek9] at hP
                    rw [hs9] at hP
                    refine q_nm (b := 0) ((lv_0 hc9.1 hc9.2.1 hc9.2.2).trans (b2_f (fun y => h_J (w8.2.2.2.2.1.mp y)))) ?_
                    generalize eS94 : jnS S (10 + x.toNat) (10 + z.toNat) z = S94 at hP
                    have rS94 : ∀ (a1 b1 : Nat) (i1 : Int), rng (S94 a1 b1 i1) := fun a1 b1 i1 => hP.rg a1 b1 i1
                    have ivS94 : IV S94 := by rw [← eS94]; exact w8.1
                    have h3S94 : ∀ (b1 : Nat) (i1 : Int), S94 3 b1 i1 = S 3 b1 i1 := by rw [← eS94]; exact fun b i => w8.2.1.1.1 3 b i (by omega) (by omega)
                    rw [eS94] at w8
                    obtain ⟨-, ⟨⟨fr8, -⟩, ⟨j0, -, -⟩, -⟩, ⟨kx3, kz3⟩, jsh, -, jtr⟩ := w8
                    have lv8 : LV S94 := LV_k hV hI.k.1.2 (fun b i => fr8 _ _ _ (by omega) (by omega)) (fr8 _ _ _ (by omega) (by omega)) (fr8 _ _ _ (by omega) (by omega)) (fr8 _ _ _ (by omega) (by omega)) (fun j => fr8 _ _ _ (by omega) (by omega)) (fun a h1 h2 => ⟨fr8 _ _ _ (by omega) (by omega), fr8 _ _ _ (by omega) (by omega)⟩)
                    refine lv_istore (lv' := [(11, .int (i32 (0))), (10, .int (i32 (0))), (9, .int (i32 (1))), (8, .int (i32 (1))), (7, .int (i32 (S (10 + x.toNat) 0 1))), (6, .int (i32 ((shC S (10 + x.toNat)) + (shC S (10 + z.toNat))))), (5, .int (i32 ((S (10 + x.toNat) 0 0) + (S (10 + z.toNat) 0 0)))), (4, .int (i32 (mcC S (10 + x.toNat) (10 + z.toNat)))), (0, .ref (ad 1 0)), (1, .ref (ad 3 3)), (2, .int (i32 (x))), (3, .int (i32 (z)))]) hx hb dL_joins_176 hl (by decide) rfl (fun ls hl => ?_)
                    refine lv_iload hx hb dL_joins_178 (lv_at hl 2 rfl) ?_
                    refine q_if_eq (tgt := 195) hx hb ⟨by decide, by decide⟩ dL_joins_180 (by decide) (fun h => by omega) (fun _ => ?_)
                    refine lv_iload hx hb dL_joins_183 (lv_at hl 3 rfl) ?_
                    refine q_if_eq (tgt := 195) hx hb ⟨by decide, by decide⟩ dL_joins_185 (by decide) (fun h => by omega) (fun _ => ?_)
                    refine lv_iload hx hb dL_joins_188 (lv_at hl 6 rfl) ?_
                    refine lv_bipush (v := i32 (24)) hx hb dL_joins_190 (by decide) ?_
                    refine q_icmp_le (tgt := 249) hx hb ⟨by omega, by omega⟩ ⟨by decide, by decide⟩ dL_joins_192 (by decide) (fun c_95 => ?_) (fun c_95 => (by exfalso; omega))
                    refine lv_iload hx hb dL_joins_249 (lv_at hl 7 rfl) ?_
                    refine q_if_lt (tgt := 332) hx hb ⟨by omega, by omega⟩ dL_joins_251 (by decide) (fun c_96 => (by exfalso; omega)) (fun c_96 => ?_)
                    refine lv_iload hx hb dL_joins_254 (lv_at hl 7 rfl) ?_
                    refine lv_iload hx hb dL_joins_256 (lv_at hl 4 rfl) ?_
                    refine q_icmp_gt (tgt := 332) hx hb ⟨by omega, by omega⟩ (rS _ _ _) dL_joins_258 (by decide) (fun c_97 => (by exfalso; omega)) (fun c_97 => ?_)
                    refine lv_iload hx hb dL_joins_261 (lv_at hl 0 rfl) ?_
                    refine q_if_lt (tgt := 332) hx hb ⟨by decide, by decide⟩ dL_joins_263 (by decide) (fun h => by omega) (fun _ => ?_)
                    refine lv_aload_n hx hb dL_joins_266 rfl (lv_at hl 8 rfl) ?_
                    refine lv_iload_n hx hb dL_joins_267 rfl (lv_at hl 10 rfl) ?_
                    refine lv_iconst (v := i32 (0)) hx hb dL_joins_268 rfl ?_
                    refine q_callH2 (As := [.ref (ad 1 0), .int (i32 (x)), .int (i32 (0))]) (rest := []) hx hb hml hl.1 hown hK hZ hP hS (c_L_pieceIs l g base ad S94 x ((0 : Int)) hfl ivS94.wc hrn ⟨by decide, by decide⟩) t_266 t_14 t_268 t_267 f_yL_pieceIs ⟨Nat.le_of_ble_eq_true rfl, Nat.le_of_ble_eq_true rfl⟩ rfl rfl (Nat.le_of_ble_eq_true rfl) dL_joins_269 (c2 := 33) (s2 := 198) ⟨by first | rfl | (dsimp only; omega), by first | rfl | (dsimp only; omega)⟩ ⟨by show 33 ≤ 1498; omega, by show 198 ≤ 8988; omega⟩ (q_an (fun H locs hP hS => ?_))
                    refine q_nm (b := S (10 + x.toNat) 0 0 + S (10 + z.toNat) 0 0) (((lv_0 kx3 (by decide) trivial).trans (pcC_0 rfl)).trans j0) ?_
                    refine lv_iload hx hb dL_joins_272 (lv_at hl 6 rfl) ?_
                    refine q_icmp_ne (tgt := 332) hx hb ⟨by omega, by omega⟩ ⟨by omega, by omega⟩ dL_joins_274 (by decide) (fun c_98 => (by exfalso; omega)) (fun c_98 => ?_)
                    refine lv_aload_n hx hb dL_joins_277 rfl (lv_at hl 8 rfl) ?_
                    refine lv_iload_n hx hb dL_joins_278 rfl (lv_at hl 10 rfl) ?_
                    refine lv_iconst (v := i32 (5)) hx hb dL_joins_279 rfl ?_
                    refine q_callH2 (As := [.ref (ad 1 0), .int (i32 (x)), .int (i32 (5))]) (rest := []) hx hb hml hl.1 hown hK hZ hP hS (c_L_pieceIs l g base ad S94 x ((5 : Int)) hfl ivS94.wc hrn ⟨by decide, by decide⟩) t_266 t_14 t_268 t_267 f_yL_pieceIs ⟨Nat.le_of_ble_eq_true rfl, Nat.le_of_ble_eq_true rfl⟩ rfl rfl (Nat.le_of_ble_eq_true rfl) dL_joins_280 (c2 := 35) (s2 := 210) ⟨by first | rfl | (dsimp only; omega), by first | rfl | (dsimp only; omega)⟩ ⟨by show 35 ≤ 1498; omega, by show 210 ≤ 8988; omega⟩ (q_an (fun H locs hP hS => ?_))
                    refine q_nm (b := shC S (10 + x.toNat) + shC S (10 + z.toNat)) (((lv_0 kx3 (by decide) trivial).trans (pcC_5 rfl)).trans jsh) ?_
                    refine lv_iload hx hb dL_joins_283 (lv_at hl 5 rfl) ?_
                    refine q_icmp_ne (tgt := 332) hx hb ⟨by omega, by omega⟩ ⟨by omega, by omega⟩ dL_joins_285 (by decide) (fun c_99 => (by exfalso; omega)) (fun c_99 => ?_)
                    refine lv_aload_n hx hb dL_joins_288 rfl (lv_at hl 8 rfl) ?_
                    refine lv_iload_n hx hb dL_joins_289 rfl (lv_at hl 11 rfl) ?_
                    refine lv_iconst (v := i32 (0)) hx hb dL_joins_290 rfl ?_
                    refine q_callH2 (As := [.ref (ad 1 0), .int (i32 (z)), .int (i32 (0))]) (rest := []) hx hb hml hl.1 hown hK hZ hP hS (c_L_pieceIs l g base ad S94 z ((0 : Int)) hfl ivS94.wc hrn2 ⟨by decide, by decide⟩) t_266 t_14 t_268 t_267 f_yL_pieceIs ⟨Nat.le_of_ble_eq_true rfl, Nat.le_of_ble_eq_true rfl⟩ rfl rfl (Nat.le_of_ble_eq_true rfl) dL_joins_291 (c2 := 37) (s2 := 222) ⟨by first | rfl | (dsimp only; omega), by first | rfl | (dsimp only; omega)⟩ ⟨by show 37 ≤ 1498; omega, by show 222 ≤ 8988; omega⟩ (q_an (fun H locs hP hS => ?_))
                    refine q_nm (b := -1000001) (lv_1 kz3) ?_
                    refine q_ldc (z := -1000001) hx hb hown hK t_248 rfl dL_joins_294 ?_
                    refine q_icmp_ne (tgt := 332) hx hb ⟨by decide, by decide⟩ ⟨by decide, by decide⟩ dL_joins_296 (by decide) (fun c_100 => (by exfalso; omega)) (fun c_100 => ?_)
                    refine lv_aload_n hx hb dL_joins_299 rfl (lv_at hl 8 rfl) ?_
                    refine lv_iload_n hx hb dL_joins_300 rfl (lv_at hl 10 rfl) ?_
                    refine q_callH2 (As := [.ref (ad 1 0), .int (i32 (x))]) (rest := []) hx hb hml hl.1 hown hK hZ hP hS (c_L_isTrue l g base ad S94 x hfl ivS94.wc hrn) t_516 t_14 t_518 t_517 f_yL_isTrue ⟨Nat.le_of_ble_eq_true rfl, Nat.le_of_ble_eq_true rfl⟩ rfl rfl (Nat.le_of_ble_eq_true rfl) dL_joins_301 (c2 := 38) (s2 := 228) ⟨by first | rfl | (dsimp only; omega), by first | rfl | (dsimp only; omega)⟩ ⟨by show 38 ≤ 1498; omega, by show 228 ≤ 8988; omega⟩ (q_an (fun H locs hP hS => ?_))
                    refine q_nm (b := 0) ((lv_0 kx3 trivial trivial).trans (b2_f (fun y9 => (fun y : _ ∧ _ ∧ _ => h_J y.2.2) (jtr.mp y9)))) ?_
                    refine lv_iload hx hb dL_joins_304 (lv_at hl 1 rfl) ?_
                    refine lv_iconst (v := i32 (2)) hx hb dL_joins_306 rfl ?_
                    refine q_icmp_ne (tgt := 315) hx hb ⟨by decide, by decide⟩ ⟨by decide, by decide⟩ dL_joins_307 (by decide) (fun c_101 => ?_) (fun c_101 => (by exfalso; omega))
                    refine lv_iconst (v := i32 (0)) hx hb dL_joins_315 rfl ?_
                    refine q_icmp_ne (tgt := 332) hx hb ⟨by decide, by decide⟩ ⟨by decide, by decide⟩ dL_joins_316 (by decide) (fun c_102 => (by exfalso; omega)) (fun c_102 => ?_)
                    refine lv_aload_n hx hb dL_joins_319 rfl (lv_at hl 8 rfl) ?_
                    refine lv_aload_n hx hb dL_joins_320 rfl (lv_at hl 9 rfl) ?_
                    refine lv_iload_n hx hb dL_joins_321 rfl (lv_at hl 10 rfl) ?_
                    refine q_callS2 (As := [.ref (ad 1 0), .ref (ad 3 3), .int (i32 (x))]) (rest := []) hx hb hml hl.1 hown hK hZ hP hS (c_L_isPiece l g base ad S94 x hfl ivS94 kx3 lv8.2.2.2 hrn) t_329 (q_callB hK 328 14 330 t_328 t_14 t_330 f_yL_isPiece ⟨Nat.le_of_ble_eq_true rfl, Nat.le_of_ble_eq_true rfl⟩) rfl rfl (Nat.le_of_ble_eq_true rfl) dL_joins_322 (c2 := 1498) (s2 := 8988) ⟨by first | rfl | (dsimp only; omega), by first | rfl | (dsimp only; omega)⟩ ⟨by show 1498 ≤ 1498; omega, by show 8988 ≤ 8988; omega⟩ (q_an (fun H locs hP hS => ?_))
                    refine q_if_eq (tgt := 332) hx hb ⟨by decide, by decide⟩ dL_joins_325 (by decide) (fun h => by omega) (fun _ => ?_)
                    refine lv_iconst (v := i32 (1)) hx hb dL_joins_328 rfl ?_
                    refine lv_goto (tgt := 333) hx hb dL_joins_329 (by decide) ?_
                    subst hQm
                    exact q_zret hx hb hr hlocks hP hS (v := 1) (by decide) (by exact ⟨⟨rfl, (fun _ _ _ => rfl)⟩, ivS94, lv8⟩) (by show 1498 ≤ 1498; omega) (by show 8988 ≤ 8988; omega) dL_joins_333
            · skip
              obtain ⟨-, pw8, ph8, -⟩ := (hI.pp h_A.1).1
              obtain ⟨-, pw9, ph9, -⟩ := (hI.pp h_A.2).1
              have hsb8 := sh_b (hI.pp h_A.1)
              have hsb9 := sh_b (hI.pp h_A.2)
              have hmc := mc_b (S := S) (o := 10 + x.toNat) (n := 10 + z.toNat) (by omega)
              refine lv_aload_n hx hb dL_joins_0 rfl (lv_at hl 0 rfl) ?_
              refine lv_iload_n hx hb dL_joins_1 rfl (lv_at hl 2 rfl) ?_
              refine lv_iload_n hx hb dL_joins_2 rfl (lv_at hl 3 rfl) ?_
              refine q_callH2 (As := [.ref (ad 1 0), .int (i32 (x)), .int (i32 (z))]) (rest := []) hx hb hml hl.1 hown hK hZ hP hS (c_L_match l g base ad S x z hfl hI.wc hrn hrn2) t_585 t_14 t_587 t_586 f_yL_match ⟨Nat.le_of_ble_eq_true rfl, Nat.le_of_ble_eq_true rfl⟩ rfl rfl (Nat.le_of_ble_eq_true rfl) dL_joins_3 (c2 := 4) (s2 := 24) ⟨by first | rfl | (dsimp only; omega), by first | rfl | (dsimp only; omega)⟩ ⟨by show 4 ≤ 1498; omega, by show 24 ≤ 8988; omega⟩ (q_an (fun H locs hP hS => ?_))
              refine q_nm (b := mcC S (10 + x.toNat) (10 + z.toNat)) ((lv_0 h_A h_B ⟨h_D, h_E⟩).trans (cif_t h_H)) ?_
              refine lv_istore (lv' := [(4, .int (i32 (mcC S (10 + x.toNat) (10 + z.toNat)))), (0, .ref (ad 1 0)), (1, .ref (ad 3 3)), (2, .int (i32 (x))), (3, .int (i32 (z)))]) hx hb dL_joins_6 hl (by decide) rfl (fun ls hl => ?_)
              refine lv_aload_n hx hb dL_joins_8 rfl (lv_at hl 1 rfl) ?_
              refine lv_iload_n hx hb dL_joins_9 rfl (lv_at hl 3 rfl) ?_
              refine q_callS2 (As := [.ref (ad 1 0), .int (i32 (x))]) (rest := []) hx hb hml hl.1 hown hK hZ hP hS (c_L_isThere l g base ad S x hfl hI hrn) t_264 (q_callB hK 263 14 265 t_263 t_14 t_265 f_yL_isThere ⟨Nat.le_of_ble_eq_true rfl, Nat.le_of_ble_eq_true rfl⟩) rfl rfl (Nat.le_of_ble_eq_true rfl) dL_joins_10 (c2 := 6) (s2 := 36) ⟨by first | rfl | (dsimp only; omega), by first | rfl | (dsimp only; omega)⟩ ⟨by show 6 ≤ 1498; omega, by show 36 ≤ 8988; omega⟩ (q_an (fun H locs hP hS => ?_))
              refine q_if_eqb (tgt := 24) hx hb dL_joins_13 (by decide) (fun c_103 => (by exfalso; exact c_103 h_A.1)) (fun c_103 => ?_)
              refine lv_aload_n hx hb dL_joins_16 rfl (lv_at hl 1 rfl) ?_
              refine lv_iload_n hx hb dL_joins_17 rfl (lv_at hl 4 rfl) ?_
              refine q_callS2 (As := [.ref (ad 1 0), .int (i32 (z))]) (rest := []) hx hb hml hl.1 hown hK hZ hP hS (c_L_isThere l g base ad S z hfl hI hrn2) t_264 (q_callB hK 263 14 265 t_263 t_14 t_265 f_yL_isThere ⟨Nat.le_of_ble_eq_true rfl, Nat.le_of_ble_eq_true rfl⟩) rfl rfl (Nat.le_of_ble_eq_true rfl) dL_joins_18 (c2 := 8) (s2 := 48) ⟨by first | rfl | (dsimp only; omega), by first | rfl | (dsimp only; omega)⟩ ⟨by show 8 ≤ 1498; omega, by show 48 ≤ 8988; omega⟩ (q_an (fun H locs hP hS => ?_))
              refine q_if_neb (tgt := 48) hx hb dL_joins_21 (by decide) (fun c_104 => ?_) (fun c_104 => (by exfalso; exact c_104 h_A.2))
              refine lv_iload_n hx hb dL_joins_48 rfl (lv_at hl 3 rfl) ?_
              refine lv_iload_n hx hb dL_joins_49 rfl (lv_at hl 4 rfl) ?_
              refine q_icmp_ne (tgt := 77) hx hb hrn hrn2 dL_joins_50 (by decide) (fun _ => ?_) (fun h => by first | exact absurd h_B h | exact absurd h h_B | omega)
              refine lv_aload_n hx hb dL_joins_77 rfl (lv_at hl 1 rfl) ?_
              refine lv_iload_n hx hb dL_joins_78 rfl (lv_at hl 3 rfl) ?_
              refine lv_iconst (v := i32 (0)) hx hb dL_joins_79 rfl ?_
              refine q_callH2 (As := [.ref (ad 1 0), .int (i32 (x)), .int (i32 (0))]) (rest := []) hx hb hml hl.1 hown hK hZ hP hS (c_L_pieceIs l g base ad S x ((0 : Int)) hfl hI.wc hrn ⟨by decide, by decide⟩) t_266 t_14 t_268 t_267 f_yL_pieceIs ⟨Nat.le_of_ble_eq_true rfl, Nat.le_of_ble_eq_true rfl⟩ rfl rfl (Nat.le_of_ble_eq_true rfl) dL_joins_80 (c2 := 10) (s2 := 60) ⟨by first | rfl | (dsimp only; omega), by first | rfl | (dsimp only; omega)⟩ ⟨by show 10 ≤ 1498; omega, by show 60 ≤ 8988; omega⟩ (q_an (fun H locs hP hS => ?_))
              refine q_nm (b := S (10 + x.toNat) 0 0) (((lv_0 h_A.1 (by decide) trivial).trans (pcC_0 rfl))) ?_
              refine lv_aload_n hx hb dL_joins_83 rfl (lv_at hl 1 rfl) ?_
              refine lv_iload_n hx hb dL_joins_84 rfl (lv_at hl 4 rfl) ?_
              refine lv_iconst (v := i32 (0)) hx hb dL_joins_85 rfl ?_
              refine q_callH2 (As := [.ref (ad 1 0), .int (i32 (z)), .int (i32 (0))]) (rest := [.int (i32 (S (10 + x.toNat) 0 0))]) hx hb hml hl.1 hown hK hZ hP hS (c_L_pieceIs l g base ad S z ((0 : Int)) hfl hI.wc hrn2 ⟨by decide, by decide⟩) t_266 t_14 t_268 t_267 f_yL_pieceIs ⟨Nat.le_of_ble_eq_true rfl, Nat.le_of_ble_eq_true rfl⟩ rfl rfl (Nat.le_of_ble_eq_true rfl) dL_joins_86 (c2 := 12) (s2 := 72) ⟨by first | rfl | (dsimp only; omega), by first | rfl | (dsimp only; omega)⟩ ⟨by show 12 ≤ 1498; omega, by show 72 ≤ 8988; omega⟩ (q_an (fun H locs hP hS => ?_))
              refine q_nm (b := S (10 + z.toNat) 0 0) (((lv_0 h_A.2 (by decide) trivial).trans (pcC_0 rfl))) ?_
              refine q_iadd hx hb dL_joins_89 ?_
              refine lv_istore (lv' := [(5, .int (i32 ((S (10 + x.toNat) 0 0) + (S (10 + z.toNat) 0 0)))), (4, .int (i32 (mcC S (10 + x.toNat) (10 + z.toNat)))), (0, .ref (ad 1 0)), (1, .ref (ad 3 3)), (2, .int (i32 (x))), (3, .int (i32 (z)))]) hx hb dL_joins_90 hl (by decide) rfl (fun ls hl => ?_)
              refine lv_aload_n hx hb dL_joins_92 rfl (lv_at hl 2 rfl) ?_
              refine lv_iload_n hx hb dL_joins_93 rfl (lv_at hl 4 rfl) ?_
              refine lv_iconst (v := i32 (5)) hx hb dL_joins_94 rfl ?_
              refine q_callH2 (As := [.ref (ad 1 0), .int (i32 (x)), .int (i32 (5))]) (rest := []) hx hb hml hl.1 hown hK hZ hP hS (c_L_pieceIs l g base ad S x ((5 : Int)) hfl hI.wc hrn ⟨by decide, by decide⟩) t_266 t_14 t_268 t_267 f_yL_pieceIs ⟨Nat.le_of_ble_eq_true rfl, Nat.le_of_ble_eq_true rfl⟩ rfl rfl (Nat.le_of_ble_eq_true rfl) dL_joins_95 (c2 := 14) (s2 := 84) ⟨by first | rfl | (dsimp only; omega), by first | rfl | (dsimp only; omega)⟩ ⟨by show 14 ≤ 1498; omega, by show 84 ≤ 8988; omega⟩ (q_an (fun H locs hP hS => ?_))
              refine q_nm (b := shC S (10 + x.toNat)) (((lv_0 h_A.1 (by decide) trivial).trans (pcC_5 rfl))) ?_
              refine lv_aload_n hx hb dL_joins_98 rfl (lv_at hl 2 rfl) ?_
              refine lv_iload_n hx hb dL_joins_99 rfl (lv_at hl 5 rfl) ?_
              refine lv_iconst (v := i32 (5)) hx hb dL_joins_100 rfl ?_
              refine q_callH2 (As := [.ref (ad 1 0), .int (i32 (z)), .int (i32 (5))]) (rest := [.int (i32 (shC S (10 + x.toNat)))]) hx hb hml hl.1 hown hK hZ hP hS (c_L_pieceIs l g base ad S z ((5 : Int)) hfl hI.wc hrn2 ⟨by decide, by decide⟩) t_266 t_14 t_268 t_267 f_yL_pieceIs ⟨Nat.le_of_ble_eq_true rfl, Nat.le_of_ble_eq_true rfl⟩ rfl rfl (Nat.le_of_ble_eq_true rfl) dL_joins_101 (c2 := 16) (s2 := 96) ⟨by first | rfl | (dsimp only; omega), by first | rfl | (dsimp only; omega)⟩ ⟨by show 16 ≤ 1498; omega, by show 96 ≤ 8988; omega⟩ (q_an (fun H locs hP hS => ?_))
              refine q_nm (b := shC S (10 + z.toNat)) (((lv_0 h_A.2 (by decide) trivial).trans (pcC_5 rfl))) ?_
              refine q_iadd hx hb dL_joins_104 ?_
              refine lv_istore (lv' := [(6, .int (i32 ((shC S (10 + x.toNat)) + (shC S (10 + z.toNat))))), (5, .int (i32 ((S (10 + x.toNat) 0 0) + (S (10 + z.toNat) 0 0)))), (4, .int (i32 (mcC S (10 + x.toNat) (10 + z.toNat)))), (0, .ref (ad 1 0)), (1, .ref (ad 3 3)), (2, .int (i32 (x))), (3, .int (i32 (z)))]) hx hb dL_joins_105 hl (by decide) rfl (fun ls hl => ?_)
              refine lv_aload_n hx hb dL_joins_107 rfl (lv_at hl 3 rfl) ?_
              refine lv_iload_n hx hb dL_joins_108 rfl (lv_at hl 5 rfl) ?_
              refine lv_iconst (v := i32 (1)) hx hb dL_joins_109 rfl ?_
              refine q_callH2 (As := [.ref (ad 1 0), .int (i32 (x)), .int (i32 (1))]) (rest := []) hx hb hml hl.1 hown hK hZ hP hS (c_L_pieceIs l g base ad S x ((1 : Int)) hfl hI.wc hrn ⟨by decide, by decide⟩) t_266 t_14 t_268 t_267 f_yL_pieceIs ⟨Nat.le_of_ble_eq_true rfl, Nat.le_of_ble_eq_true rfl⟩ rfl rfl (Nat.le_of_ble_eq_true rfl) dL_joins_110 (c2 := 18) (s2 := 108) ⟨by first | rfl | (dsimp only; omega), by first | rfl | (dsimp only; omega)⟩ ⟨by show 18 ≤ 1498; omega, by show 108 ≤ 8988; omega⟩ (q_an (fun H locs hP hS => ?_))
              refine q_nm (b := S (10 + x.toNat) 0 1) (((lv_0 h_A.1 (by decide) trivial).trans (pcC_1 rfl))) ?_
              refine lv_istore (lv' := [(7, .int (i32 (S (10 + x.toNat) 0 1))), (6, .int (i32 ((shC S (10 + x.toNat)) + (shC S (10 + z.toNat))))), (5, .int (i32 ((S (10 + x.toNat) 0 0) + (S (10 + z.toNat) 0 0)))), (4, .int (i32 (mcC S (10 + x.toNat) (10 + z.toNat)))), (0, .ref (ad 1 0)), (1, .ref (ad 3 3)), (2, .int (i32 (x))), (3, .int (i32 (z)))]) hx hb dL_joins_113 hl (by decide) rfl (fun ls hl => ?_)
              refine lv_iload hx hb dL_joins_115 (lv_at hl 0 rfl) ?_
              refine lv_aload_n hx hb dL_joins_117 rfl (lv_at hl 4 rfl) ?_
              refine lv_iload_n hx hb dL_joins_118 rfl (lv_at hl 7 rfl) ?_
              refine lv_iconst (v := i32 (1)) hx hb dL_joins_119 rfl ?_
              refine q_callH2 (As := [.ref (ad 1 0), .int (i32 (z)), .int (i32 (1))]) (rest := [.int (i32 (S (10 + x.toNat) 0 1))]) hx hb hml hl.1 hown hK hZ hP hS (c_L_pieceIs l g base ad S z ((1 : Int)) hfl hI.wc hrn2 ⟨by decide, by decide⟩) t_266 t_14 t_268 t_267 f_yL_pieceIs ⟨Nat.le_of_ble_eq_true rfl, Nat.le_of_ble_eq_true rfl⟩ rfl rfl (Nat.le_of_ble_eq_true rfl) dL_joins_120 (c2 := 20) (s2 := 120) ⟨by first | rfl | (dsimp only; omega), by first | rfl | (dsimp only; omega)⟩ ⟨by show 20 ≤ 1498; omega, by show 120 ≤ 8988; omega⟩ (q_an (fun H locs hP hS => ?_))
              refine q_nm (b := S (10 + z.toNat) 0 1) (((lv_0 h_A.2 (by decide) trivial).trans (pcC_1 rfl))) ?_
              refine q_icmp_ne (tgt := 130) hx hb (rS _ _ _) (rS _ _ _) dL_joins_123 (by decide) (fun c_105 => (by exfalso; omega)) (fun c_105 => ?_)
              refine lv_iconst (v := i32 (1)) hx hb dL_joins_126 rfl ?_
              refine lv_goto (tgt := 131) hx hb dL_joins_127 (by decide) ?_
              refine lv_istore (lv' := [(8, .int (i32 (1))), (7, .int (i32 (S (10 + x.toNat) 0 1))), (6, .int (i32 ((shC S (10 + x.toNat)) + (shC S (10 + z.toNat))))), (5, .int (i32 ((S (10 + x.toNat) 0 0) + (S (10 + z.toNat) 0 0)))), (4, .int (i32 (mcC S (10 + x.toNat) (10 + z.toNat)))), (0, .ref (ad 1 0)), (1, .ref (ad 3 3)), (2, .int (i32 (x))), (3, .int (i32 (z)))]) hx hb dL_joins_131 hl (by decide) rfl (fun ls hl => ?_)
              refine lv_aload_n hx hb dL_joins_133 rfl (lv_at hl 5 rfl) ?_
              refine lv_iload_n hx hb dL_joins_134 rfl (lv_at hl 7 rfl) ?_
              refine lv_iconst (v := i32 (3)) hx hb dL_joins_135 rfl ?_
              refine q_callH2 (As := [.ref (ad 1 0), .int (i32 (x)), .int (i32 (3))]) (rest := []) hx hb hml hl.1 hown hK hZ hP hS (c_L_pieceIs l g base ad S x ((3 : Int)) hfl hI.wc hrn ⟨by decide, by decide⟩) t_266 t_14 t_268 t_267 f_yL_pieceIs ⟨Nat.le_of_ble_eq_true rfl, Nat.le_of_ble_eq_true rfl⟩ rfl rfl (Nat.le_of_ble_eq_true rfl) dL_joins_136 (c2 := 22) (s2 := 132) ⟨by first | rfl | (dsimp only; omega), by first | rfl | (dsimp only; omega)⟩ ⟨by show 22 ≤ 1498; omega, by show 132 ≤ 8988; omega⟩ (q_an (fun H locs hP hS => ?_))
              refine q_nm (b := 1) (((lv_0 h_A.1 (by decide) trivial).trans (pcC_3 rfl)).trans (b2_t h_D)) ?_
              refine lv_aload_n hx hb dL_joins_139 rfl (lv_at hl 5 rfl) ?_
              refine lv_iload_n hx hb dL_joins_140 rfl (lv_at hl 8 rfl) ?_
              refine lv_iconst (v := i32 (3)) hx hb dL_joins_141 rfl ?_
              refine q_callH2 (As := [.ref (ad 1 0), .int (i32 (z)), .int (i32 (3))]) (rest := [.int (i32 (1))]) hx hb hml hl.1 hown hK hZ hP hS (c_L_pieceIs l g base ad S z ((3 : Int)) hfl hI.wc hrn2 ⟨by decide, by decide⟩) t_266 t_14 t_268 t_267 f_yL_pieceIs ⟨Nat.le_of_ble_eq_true rfl, Nat.le_of_ble_eq_true rfl⟩ rfl rfl (Nat.le_of_ble_eq_true rfl) dL_joins_142 (c2 := 24) (s2 := 144) ⟨by first | rfl | (dsimp only; omega), by first | rfl | (dsimp only; omega)⟩ ⟨by show 24 ≤ 1498; omega, by show 144 ≤ 8988; omega⟩ (q_an (fun H locs hP hS => ?_))
              refine q_nm (b := 1) (((lv_0 h_A.2 (by decide) trivial).trans (pcC_3 rfl)).trans (b2_t h_E)) ?_
              refine q_iadd hx hb dL_joins_145 ?_
              refine q_nm (show (1 + 1 : Int) = 2 from by decide) ?_
              refine lv_iconst (v := i32 (2)) hx hb dL_joins_146 rfl ?_
              refine q_icmp_ne (tgt := 154) hx hb ⟨by decide, by decide⟩ ⟨by decide, by decide⟩ dL_joins_147 (by decide) (fun c_106 => (by exfalso; omega)) (fun c_106 => ?_)
              refine lv_iconst (v := i32 (1)) hx hb dL_joins_150 rfl ?_
              refine lv_goto (tgt := 155) hx hb dL_joins_151 (by decide) ?_
              refine lv_istore (lv' := [(9, .int (i32 (1))), (8, .int (i32 (1))), (7, .int (i32 (S (10 + x.toNat) 0 1))), (6, .int (i32 ((shC S (10 + x.toNat)) + (shC S (10 + z.toNat))))), (5, .int (i32 ((S (10 + x.toNat) 0 0) + (S (10 + z.toNat) 0 0)))), (4, .int (i32 (mcC S (10 + x.toNat) (10 + z.toNat)))), (0, .ref (ad 1 0)), (1, .ref (ad 3 3)), (2, .int (i32 (x))), (3, .int (i32 (z)))]) hx hb dL_joins_155 hl (by decide) rfl (fun ls hl => ?_)
              refine lv_aload_n hx hb dL_joins_157 rfl (lv_at hl 6 rfl) ?_
              refine lv_iload_n hx hb dL_joins_158 rfl (lv_at hl 8 rfl) ?_
              refine q_callH2 (As := [.ref (ad 1 0), .int (i32 (x))]) (rest := []) hx hb hml hl.1 hown hK hZ hP hS (c_L_isTrue l g base ad S x hfl hI.wc hrn) t_516 t_14 t_518 t_517 f_yL_isTrue ⟨Nat.le_of_ble_eq_true rfl, Nat.le_of_ble_eq_true rfl⟩ rfl rfl (Nat.le_of_ble_eq_true rfl) dL_joins_159 (c2 := 25) (s2 := 150) ⟨by first | rfl | (dsimp only; omega), by first | rfl | (dsimp only; omega)⟩ ⟨by show 25 ≤ 1498; omega, by show 150 ≤ 8988; omega⟩ (q_an (fun H locs hP hS => ?_))
              refine q_nm (b := b2 (trC S (10 + x.toNat))) (lv_0 h_A.1 trivial trivial) ?_
              refine lv_aload_n hx hb dL_joins_162 rfl (lv_at hl 6 rfl) ?_
              refine lv_iload_n hx hb dL_joins_163 rfl (lv_at hl 9 rfl) ?_
              refine q_callH2 (As := [.ref (ad 1 0), .int (i32 (z))]) (rest := [.int (i32 (b2 (trC S (10 + x.toNat))))]) hx hb hml hl.1 hown hK hZ hP hS (c_L_isTrue l g base ad S z hfl hI.wc hrn2) t_516 t_14 t_518 t_517 f_yL_isTrue ⟨Nat.le_of_ble_eq_true rfl, Nat.le_of_ble_eq_true rfl⟩ rfl rfl (Nat.le_of_ble_eq_true rfl) dL_joins_164 (c2 := 26) (s2 := 156) ⟨by first | rfl | (dsimp only; omega), by first | rfl | (dsimp only; omega)⟩ ⟨by show 26 ≤ 1498; omega, by show 156 ≤ 8988; omega⟩ (q_an (fun H locs hP hS => ?_))
              refine q_nm (b := b2 (trC S (10 + z.toNat))) (lv_0 h_A.2 trivial trivial) ?_
              refine q_iadd hx hb dL_joins_167 ?_
              refine lv_istore (lv' := [(10, .int (i32 ((b2 (trC S (10 + x.toNat))) + (b2 (trC S (10 + z.toNat)))))), (9, .int (i32 (1))), (8, .int (i32 (1))), (7, .int (i32 (S (10 + x.toNat) 0 1))), (6, .int (i32 ((shC S (10 + x.toNat)) + (shC S (10 + z.toNat))))), (5, .int (i32 ((S (10 + x.toNat) 0 0) + (S (10 + z.toNat) 0 0)))), (4, .int (i32 (mcC S (10 + x.toNat) (10 + z.toNat)))), (0, .ref (ad 1 0)), (1, .ref (ad 3 3)), (2, .int (i32 (x))), (3, .int (i32 (z)))]) hx hb dL_joins_168 hl (by decide) rfl (fun ls hl => ?_)
              refine lv_aload_n hx hb dL_joins_170 rfl (lv_at hl 7 rfl) ?_
              refine lv_iload_n hx hb dL_joins_171 rfl (lv_at hl 9 rfl) ?_
              refine lv_iload_n hx hb dL_joins_172 rfl (lv_at hl 10 rfl) ?_
              refine q_callH2 (As := [.ref (ad 1 0), .int (i32 (x)), .int (i32 (z))]) (rest := []) hx hb hml hl.1 hown hK hZ hP hS (c_L_join l g base ad S x z hfl hI.wc hrn hrn2) t_604 t_14 t_606 t_605 f_yL_join ⟨Nat.le_of_ble_eq_true rfl, Nat.le_of_ble_eq_true rfl⟩ rfl rfl (Nat.le_of_ble_eq_true rfl) dL_joins_173 (c2 := 31) (s2 := 186) ⟨by first | rfl | (dsimp only; omega), by first | rfl | (dsimp only; omega)⟩ ⟨by show 31 ≤ 1498; omega, by show 186 ≤ 8988; omega⟩ (fun rr ad' S' H locs hQ hP hS => ?_)
              obtain ⟨⟨hr9, ek9⟩, hQ⟩ := hQ
              have hc9_1 : peC S x ∧ peC S z := h_A
              have hc9_2 : x ≠ z := h_B
              have hc9_3 : ¬ (dnC S (10 + x.toNat) ∧ dnC S (10 + z.toNat) ∧ S (10 + x.toNat) 0 1 = S (10 + z.toNat) 0 1 ∧ S (10 + x.toNat) 0 0 + S (10 + z.toNat) 0 0 ≤ 24) := fun y => h_W y.2.2.2
              have hs9 := (hQ.resolve_right (fun y9 => hc9_3 y9.1.2.2)).2
              subst hr9
              rw [ek9] at hP
              rw [hs9] at hP
              refine q_nm (lv_3 hc9_1 hc9_2 hc9_3) ?_
              refine lv_istore (lv' := [(11, .int (i32 (-1000003))), (10, .int (i32 ((b2 (trC S (10 + x.toNat))) + (b2 (trC S (10 + z.toNat)))))), (9, .int (i32 (1))), (8, .int (i32 (1))), (7, .int (i32 (S (10 + x.toNat) 0 1))), (6, .int (i32 ((shC S (10 + x.toNat)) + (shC S (10 + z.toNat))))), (5, .int (i32 ((S (10 + x.toNat) 0 0) + (S (10 + z.toNat) 0 0)))), (4, .int (i32 (mcC S (10 + x.toNat) (10 + z.toNat)))), (0, .ref (ad 1 0)), (1, .ref (ad 3 3)), (2, .int (i32 (x))), (3, .int (i32 (z)))]) hx hb dL_joins_176 hl (by decide) rfl (fun ls hl => ?_)
              refine lv_iload hx hb dL_joins_178 (lv_at hl 2 rfl) ?_
              refine q_if_eq (tgt := 195) hx hb ⟨by decide, by decide⟩ dL_joins_180 (by decide) (fun h => by omega) (fun _ => ?_)
              refine lv_iload hx hb dL_joins_183 (lv_at hl 3 rfl) ?_
              refine q_if_eq (tgt := 195) hx hb ⟨by decide, by decide⟩ dL_joins_185 (by decide) (fun h => by omega) (fun _ => ?_)
              refine lv_iload hx hb dL_joins_188 (lv_at hl 6 rfl) ?_
              refine lv_bipush (v := i32 (24)) hx hb dL_joins_190 (by decide) ?_
              refine q_icmp_le (tgt := 249) hx hb ⟨by omega, by omega⟩ ⟨by decide, by decide⟩ dL_joins_192 (by decide) (fun c_107 => (by exfalso; omega)) (fun c_107 => ?_)
              refine lv_iload hx hb dL_joins_195 (lv_at hl 0 rfl) ?_
              refine q_ldc (z := -1000003) hx hb hown hK t_250 rfl dL_joins_197 ?_
              refine q_icmp_ne (tgt := 247) hx hb ⟨by decide, by decide⟩ ⟨by decide, by decide⟩ dL_joins_199 (by decide) (fun c_108 => (by exfalso; omega)) (fun c_108 => ?_)
              refine lv_iload hx hb dL_joins_202 (lv_at hl 2 rfl) ?_
              refine q_if_ne (tgt := 217) hx hb ⟨by decide, by decide⟩ dL_joins_204 (by decide) (fun _ => ?_) (fun h => by omega)
              refine lv_iload hx hb dL_joins_217 (lv_at hl 3 rfl) ?_
              refine q_if_eq (tgt := 237) hx hb ⟨by decide, by decide⟩ dL_joins_219 (by decide) (fun h => by omega) (fun _ => ?_)
              refine lv_iload hx hb dL_joins_222 (lv_at hl 7 rfl) ?_
              refine q_if_lt (tgt := 247) hx hb ⟨by omega, by omega⟩ dL_joins_224 (by decide) (fun c_109 => (by exfalso; omega)) (fun c_109 => ?_)
              refine lv_iload hx hb dL_joins_227 (lv_at hl 7 rfl) ?_
              refine lv_iload hx hb dL_joins_229 (lv_at hl 4 rfl) ?_
              refine q_icmp_gt (tgt := 247) hx hb ⟨by omega, by omega⟩ (rS _ _ _) dL_joins_231 (by decide) (fun c_110 => (by exfalso; omega)) (fun c_110 => ?_)
              refine lv_goto (tgt := 243) hx hb dL_joins_234 (by decide) ?_
              refine lv_iconst (v := i32 (1)) hx hb dL_joins_243 rfl ?_
              refine lv_goto (tgt := 248) hx hb dL_joins_244 (by decide) ?_
              subst hQm
              exact q_zret hx hb hr hlocks hP hS (v := 1) (by decide) (by exact ⟨⟨rfl, (fun _ _ _ => rfl)⟩, hI, hV⟩) (by show 31 ≤ 1498; omega) (by show 186 ≤ 8988; omega) dL_joins_248
          · skip
            obtain ⟨-, pw8, ph8, -⟩ := (hI.pp h_A.1).1
            obtain ⟨-, pw9, ph9, -⟩ := (hI.pp h_A.2).1
            have hsb8 := sh_b (hI.pp h_A.1)
            have hsb9 := sh_b (hI.pp h_A.2)
            have hmc := mc_b (S := S) (o := 10 + x.toNat) (n := 10 + z.toNat) (by omega)
            refine lv_aload_n hx hb dL_joins_0 rfl (lv_at hl 0 rfl) ?_
            refine lv_iload_n hx hb dL_joins_1 rfl (lv_at hl 2 rfl) ?_
            refine lv_iload_n hx hb dL_joins_2 rfl (lv_at hl 3 rfl) ?_
            refine q_callH2 (As := [.ref (ad 1 0), .int (i32 (x)), .int (i32 (z))]) (rest := []) hx hb hml hl.1 hown hK hZ hP hS (c_L_match l g base ad S x z hfl hI.wc hrn hrn2) t_585 t_14 t_587 t_586 f_yL_match ⟨Nat.le_of_ble_eq_true rfl, Nat.le_of_ble_eq_true rfl⟩ rfl rfl (Nat.le_of_ble_eq_true rfl) dL_joins_3 (c2 := 4) (s2 := 24) ⟨by first | rfl | (dsimp only; omega), by first | rfl | (dsimp only; omega)⟩ ⟨by show 4 ≤ 1498; omega, by show 24 ≤ 8988; omega⟩ (q_an (fun H locs hP hS => ?_))
            refine q_nm (b := -1) ((lv_0 h_A h_B ⟨h_D, h_E⟩).trans (cif_f h_H)) ?_
            refine lv_istore (lv' := [(4, .int (i32 (-1))), (0, .ref (ad 1 0)), (1, .ref (ad 3 3)), (2, .int (i32 (x))), (3, .int (i32 (z)))]) hx hb dL_joins_6 hl (by decide) rfl (fun ls hl => ?_)
            refine lv_aload_n hx hb dL_joins_8 rfl (lv_at hl 1 rfl) ?_
            refine lv_iload_n hx hb dL_joins_9 rfl (lv_at hl 3 rfl) ?_
            refine q_callS2 (As := [.ref (ad 1 0), .int (i32 (x))]) (rest := []) hx hb hml hl.1 hown hK hZ hP hS (c_L_isThere l g base ad S x hfl hI hrn) t_264 (q_callB hK 263 14 265 t_263 t_14 t_265 f_yL_isThere ⟨Nat.le_of_ble_eq_true rfl, Nat.le_of_ble_eq_true rfl⟩) rfl rfl (Nat.le_of_ble_eq_true rfl) dL_joins_10 (c2 := 6) (s2 := 36) ⟨by first | rfl | (dsimp only; omega), by first | rfl | (dsimp only; omega)⟩ ⟨by show 6 ≤ 1498; omega, by show 36 ≤ 8988; omega⟩ (q_an (fun H locs hP hS => ?_))
            refine q_if_eqb (tgt := 24) hx hb dL_joins_13 (by decide) (fun c_111 => (by exfalso; exact c_111 h_A.1)) (fun c_111 => ?_)
            refine lv_aload_n hx hb dL_joins_16 rfl (lv_at hl 1 rfl) ?_
            refine lv_iload_n hx hb dL_joins_17 rfl (lv_at hl 4 rfl) ?_
            refine q_callS2 (As := [.ref (ad 1 0), .int (i32 (z))]) (rest := []) hx hb hml hl.1 hown hK hZ hP hS (c_L_isThere l g base ad S z hfl hI hrn2) t_264 (q_callB hK 263 14 265 t_263 t_14 t_265 f_yL_isThere ⟨Nat.le_of_ble_eq_true rfl, Nat.le_of_ble_eq_true rfl⟩) rfl rfl (Nat.le_of_ble_eq_true rfl) dL_joins_18 (c2 := 8) (s2 := 48) ⟨by first | rfl | (dsimp only; omega), by first | rfl | (dsimp only; omega)⟩ ⟨by show 8 ≤ 1498; omega, by show 48 ≤ 8988; omega⟩ (q_an (fun H locs hP hS => ?_))
            refine q_if_neb (tgt := 48) hx hb dL_joins_21 (by decide) (fun c_112 => ?_) (fun c_112 => (by exfalso; exact c_112 h_A.2))
            refine lv_iload_n hx hb dL_joins_48 rfl (lv_at hl 3 rfl) ?_
            refine lv_iload_n hx hb dL_joins_49 rfl (lv_at hl 4 rfl) ?_
            refine q_icmp_ne (tgt := 77) hx hb hrn hrn2 dL_joins_50 (by decide) (fun _ => ?_) (fun h => by first | exact absurd h_B h | exact absurd h h_B | omega)
            refine lv_aload_n hx hb dL_joins_77 rfl (lv_at hl 1 rfl) ?_
            refine lv_iload_n hx hb dL_joins_78 rfl (lv_at hl 3 rfl) ?_
            refine lv_iconst (v := i32 (0)) hx hb dL_joins_79 rfl ?_
            refine q_callH2 (As := [.ref (ad 1 0), .int (i32 (x)), .int (i32 (0))]) (rest := []) hx hb hml hl.1 hown hK hZ hP hS (c_L_pieceIs l g base ad S x ((0 : Int)) hfl hI.wc hrn ⟨by decide, by decide⟩) t_266 t_14 t_268 t_267 f_yL_pieceIs ⟨Nat.le_of_ble_eq_true rfl, Nat.le_of_ble_eq_true rfl⟩ rfl rfl (Nat.le_of_ble_eq_true rfl) dL_joins_80 (c2 := 10) (s2 := 60) ⟨by first | rfl | (dsimp only; omega), by first | rfl | (dsimp only; omega)⟩ ⟨by show 10 ≤ 1498; omega, by show 60 ≤ 8988; omega⟩ (q_an (fun H locs hP hS => ?_))
            refine q_nm (b := S (10 + x.toNat) 0 0) (((lv_0 h_A.1 (by decide) trivial).trans (pcC_0 rfl))) ?_
            refine lv_aload_n hx hb dL_joins_83 rfl (lv_at hl 1 rfl) ?_
            refine lv_iload_n hx hb dL_joins_84 rfl (lv_at hl 4 rfl) ?_
            refine lv_iconst (v := i32 (0)) hx hb dL_joins_85 rfl ?_
            refine q_callH2 (As := [.ref (ad 1 0), .int (i32 (z)), .int (i32 (0))]) (rest := [.int (i32 (S (10 + x.toNat) 0 0))]) hx hb hml hl.1 hown hK hZ hP hS (c_L_pieceIs l g base ad S z ((0 : Int)) hfl hI.wc hrn2 ⟨by decide, by decide⟩) t_266 t_14 t_268 t_267 f_yL_pieceIs ⟨Nat.le_of_ble_eq_true rfl, Nat.le_of_ble_eq_true rfl⟩ rfl rfl (Nat.le_of_ble_eq_true rfl) dL_joins_86 (c2 := 12) (s2 := 72) ⟨by first | rfl | (dsimp only; omega), by first | rfl | (dsimp only; omega)⟩ ⟨by show 12 ≤ 1498; omega, by show 72 ≤ 8988; omega⟩ (q_an (fun H locs hP hS => ?_))
            refine q_nm (b := S (10 + z.toNat) 0 0) (((lv_0 h_A.2 (by decide) trivial).trans (pcC_0 rfl))) ?_
            refine q_iadd hx hb dL_joins_89 ?_
            refine lv_istore (lv' := [(5, .int (i32 ((S (10 + x.toNat) 0 0) + (S (10 + z.toNat) 0 0)))), (4, .int (i32 (-1))), (0, .ref (ad 1 0)), (1, .ref (ad 3 3)), (2, .int (i32 (x))), (3, .int (i32 (z)))]) hx hb dL_joins_90 hl (by decide) rfl (fun ls hl => ?_)
            refine lv_aload_n hx hb dL_joins_92 rfl (lv_at hl 2 rfl) ?_
            refine lv_iload_n hx hb dL_joins_93 rfl (lv_at hl 4 rfl) ?_
            refine lv_iconst (v := i32 (5)) hx hb dL_joins_94 rfl ?_
            refine q_callH2 (As := [.ref (ad 1 0), .int (i32 (x)), .int (i32 (5))]) (rest := []) hx hb hml hl.1 hown hK hZ hP hS (c_L_pieceIs l g base ad S x ((5 : Int)) hfl hI.wc hrn ⟨by decide, by decide⟩) t_266 t_14 t_268 t_267 f_yL_pieceIs ⟨Nat.le_of_ble_eq_true rfl, Nat.le_of_ble_eq_true rfl⟩ rfl rfl (Nat.le_of_ble_eq_true rfl) dL_joins_95 (c2 := 14) (s2 := 84) ⟨by first | rfl | (dsimp only; omega), by first | rfl | (dsimp only; omega)⟩ ⟨by show 14 ≤ 1498; omega, by show 84 ≤ 8988; omega⟩ (q_an (fun H locs hP hS => ?_))
            refine q_nm (b := shC S (10 + x.toNat)) (((lv_0 h_A.1 (by decide) trivial).trans (pcC_5 rfl))) ?_
            refine lv_aload_n hx hb dL_joins_98 rfl (lv_at hl 2 rfl) ?_
            refine lv_iload_n hx hb dL_joins_99 rfl (lv_at hl 5 rfl) ?_
            refine lv_iconst (v := i32 (5)) hx hb dL_joins_100 rfl ?_
            refine q_callH2 (As := [.ref (ad 1 0), .int (i32 (z)), .int (i32 (5))]) (rest := [.int (i32 (shC S (10 + x.toNat)))]) hx hb hml hl.1 hown hK hZ hP hS (c_L_pieceIs l g base ad S z ((5 : Int)) hfl hI.wc hrn2 ⟨by decide, by decide⟩) t_266 t_14 t_268 t_267 f_yL_pieceIs ⟨Nat.le_of_ble_eq_true rfl, Nat.le_of_ble_eq_true rfl⟩ rfl rfl (Nat.le_of_ble_eq_true rfl) dL_joins_101 (c2 := 16) (s2 := 96) ⟨by first | rfl | (dsimp only; omega), by first | rfl | (dsimp only; omega)⟩ ⟨by show 16 ≤ 1498; omega, by show 96 ≤ 8988; omega⟩ (q_an (fun H locs hP hS => ?_))
            refine q_nm (b := shC S (10 + z.toNat)) (((lv_0 h_A.2 (by decide) trivial).trans (pcC_5 rfl))) ?_
            refine q_iadd hx hb dL_joins_104 ?_
            refine lv_istore (lv' := [(6, .int (i32 ((shC S (10 + x.toNat)) + (shC S (10 + z.toNat))))), (5, .int (i32 ((S (10 + x.toNat) 0 0) + (S (10 + z.toNat) 0 0)))), (4, .int (i32 (-1))), (0, .ref (ad 1 0)), (1, .ref (ad 3 3)), (2, .int (i32 (x))), (3, .int (i32 (z)))]) hx hb dL_joins_105 hl (by decide) rfl (fun ls hl => ?_)
            refine lv_aload_n hx hb dL_joins_107 rfl (lv_at hl 3 rfl) ?_
            refine lv_iload_n hx hb dL_joins_108 rfl (lv_at hl 5 rfl) ?_
            refine lv_iconst (v := i32 (1)) hx hb dL_joins_109 rfl ?_
            refine q_callH2 (As := [.ref (ad 1 0), .int (i32 (x)), .int (i32 (1))]) (rest := []) hx hb hml hl.1 hown hK hZ hP hS (c_L_pieceIs l g base ad S x ((1 : Int)) hfl hI.wc hrn ⟨by decide, by decide⟩) t_266 t_14 t_268 t_267 f_yL_pieceIs ⟨Nat.le_of_ble_eq_true rfl, Nat.le_of_ble_eq_true rfl⟩ rfl rfl (Nat.le_of_ble_eq_true rfl) dL_joins_110 (c2 := 18) (s2 := 108) ⟨by first | rfl | (dsimp only; omega), by first | rfl | (dsimp only; omega)⟩ ⟨by show 18 ≤ 1498; omega, by show 108 ≤ 8988; omega⟩ (q_an (fun H locs hP hS => ?_))
            refine q_nm (b := S (10 + x.toNat) 0 1) (((lv_0 h_A.1 (by decide) trivial).trans (pcC_1 rfl))) ?_
            refine lv_istore (lv' := [(7, .int (i32 (S (10 + x.toNat) 0 1))), (6, .int (i32 ((shC S (10 + x.toNat)) + (shC S (10 + z.toNat))))), (5, .int (i32 ((S (10 + x.toNat) 0 0) + (S (10 + z.toNat) 0 0)))), (4, .int (i32 (-1))), (0, .ref (ad 1 0)), (1, .ref (ad 3 3)), (2, .int (i32 (x))), (3, .int (i32 (z)))]) hx hb dL_joins_113 hl (by decide) rfl (fun ls hl => ?_)
            refine lv_iload hx hb dL_joins_115 (lv_at hl 0 rfl) ?_
            refine lv_aload_n hx hb dL_joins_117 rfl (lv_at hl 4 rfl) ?_
            refine lv_iload_n hx hb dL_joins_118 rfl (lv_at hl 7 rfl) ?_
            refine lv_iconst (v := i32 (1)) hx hb dL_joins_119 rfl ?_
            refine q_callH2 (As := [.ref (ad 1 0), .int (i32 (z)), .int (i32 (1))]) (rest := [.int (i32 (S (10 + x.toNat) 0 1))]) hx hb hml hl.1 hown hK hZ hP hS (c_L_pieceIs l g base ad S z ((1 : Int)) hfl hI.wc hrn2 ⟨by decide, by decide⟩) t_266 t_14 t_268 t_267 f_yL_pieceIs ⟨Nat.le_of_ble_eq_true rfl, Nat.le_of_ble_eq_true rfl⟩ rfl rfl (Nat.le_of_ble_eq_true rfl) dL_joins_120 (c2 := 20) (s2 := 120) ⟨by first | rfl | (dsimp only; omega), by first | rfl | (dsimp only; omega)⟩ ⟨by show 20 ≤ 1498; omega, by show 120 ≤ 8988; omega⟩ (q_an (fun H locs hP hS => ?_))
            refine q_nm (b := S (10 + z.toNat) 0 1) (((lv_0 h_A.2 (by decide) trivial).trans (pcC_1 rfl))) ?_
            refine q_icmp_ne (tgt := 130) hx hb (rS _ _ _) (rS _ _ _) dL_joins_123 (by decide) (fun c_113 => ?_) (fun c_113 => (by exfalso; omega))
            refine lv_iconst (v := i32 (0)) hx hb dL_joins_130 rfl ?_
            refine lv_istore (lv' := [(8, .int (i32 (0))), (7, .int (i32 (S (10 + x.toNat) 0 1))), (6, .int (i32 ((shC S (10 + x.toNat)) + (shC S (10 + z.toNat))))), (5, .int (i32 ((S (10 + x.toNat) 0 0) + (S (10 + z.toNat) 0 0)))), (4, .int (i32 (-1))), (0, .ref (ad 1 0)), (1, .ref (ad 3 3)), (2, .int (i32 (x))), (3, .int (i32 (z)))]) hx hb dL_joins_131 hl (by decide) rfl (fun ls hl => ?_)
            refine lv_aload_n hx hb dL_joins_133 rfl (lv_at hl 5 rfl) ?_
            refine lv_iload_n hx hb dL_joins_134 rfl (lv_at hl 7 rfl) ?_
            refine lv_iconst (v := i32 (3)) hx hb dL_joins_135 rfl ?_
            refine q_callH2 (As := [.ref (ad 1 0), .int (i32 (x)), .int (i32 (3))]) (rest := []) hx hb hml hl.1 hown hK hZ hP hS (c_L_pieceIs l g base ad S x ((3 : Int)) hfl hI.wc hrn ⟨by decide, by decide⟩) t_266 t_14 t_268 t_267 f_yL_pieceIs ⟨Nat.le_of_ble_eq_true rfl, Nat.le_of_ble_eq_true rfl⟩ rfl rfl (Nat.le_of_ble_eq_true rfl) dL_joins_136 (c2 := 22) (s2 := 132) ⟨by first | rfl | (dsimp only; omega), by first | rfl | (dsimp only; omega)⟩ ⟨by show 22 ≤ 1498; omega, by show 132 ≤ 8988; omega⟩ (q_an (fun H locs hP hS => ?_))
            refine q_nm (b := 1) (((lv_0 h_A.1 (by decide) trivial).trans (pcC_3 rfl)).trans (b2_t h_D)) ?_
            refine lv_aload_n hx hb dL_joins_139 rfl (lv_at hl 5 rfl) ?_
            refine lv_iload_n hx hb dL_joins_140 rfl (lv_at hl 8 rfl) ?_
            refine lv_iconst (v := i32 (3)) hx hb dL_joins_141 rfl ?_
            refine q_callH2 (As := [.ref (ad 1 0), .int (i32 (z)), .int (i32 (3))]) (rest := [.int (i32 (1))]) hx hb hml hl.1 hown hK hZ hP hS (c_L_pieceIs l g base ad S z ((3 : Int)) hfl hI.wc hrn2 ⟨by decide, by decide⟩) t_266 t_14 t_268 t_267 f_yL_pieceIs ⟨Nat.le_of_ble_eq_true rfl, Nat.le_of_ble_eq_true rfl⟩ rfl rfl (Nat.le_of_ble_eq_true rfl) dL_joins_142 (c2 := 24) (s2 := 144) ⟨by first | rfl | (dsimp only; omega), by first | rfl | (dsimp only; omega)⟩ ⟨by show 24 ≤ 1498; omega, by show 144 ≤ 8988; omega⟩ (q_an (fun H locs hP hS => ?_))
            refine q_nm (b := 1) (((lv_0 h_A.2 (by decide) trivial).trans (pcC_3 rfl)).trans (b2_t h_E)) ?_
            refine q_iadd hx hb dL_joins_145 ?_
            refine q_nm (show (1 + 1 : Int) = 2 from by decide) ?_
            refine lv_iconst (v := i32 (2)) hx hb dL_joins_146 rfl ?_
            refine q_icmp_ne (tgt := 154) hx hb ⟨by decide, by decide⟩ ⟨by decide, by decide⟩ dL_joins_147 (by decide) (fun c_114 => (by exfalso; omega)) (fun c_114 => ?_)
            refine lv_iconst (v := i32 (1)) hx hb dL_joins_150 rfl ?_
            refine lv_goto (tgt := 155) hx hb dL_joins_151 (by decide) ?_
            refine lv_istore (lv' := [(9, .int (i32 (1))), (8, .int (i32 (0))), (7, .int (i32 (S (10 + x.toNat) 0 1))), (6, .int (i32 ((shC S (10 + x.toNat)) + (shC S (10 + z.toNat))))), (5, .int (i32 ((S (10 + x.toNat) 0 0) + (S (10 + z.toNat) 0 0)))), (4, .int (i32 (-1))), (0, .ref (ad 1 0)), (1, .ref (ad 3 3)), (2, .int (i32 (x))), (3, .int (i32 (z)))]) hx hb dL_joins_155 hl (by decide) rfl (fun ls hl => ?_)
            refine lv_aload_n hx hb dL_joins_157 rfl (lv_at hl 6 rfl) ?_
            refine lv_iload_n hx hb dL_joins_158 rfl (lv_at hl 8 rfl) ?_
            refine q_callH2 (As := [.ref (ad 1 0), .int (i32 (x))]) (rest := []) hx hb hml hl.1 hown hK hZ hP hS (c_L_isTrue l g base ad S x hfl hI.wc hrn) t_516 t_14 t_518 t_517 f_yL_isTrue ⟨Nat.le_of_ble_eq_true rfl, Nat.le_of_ble_eq_true rfl⟩ rfl rfl (Nat.le_of_ble_eq_true rfl) dL_joins_159 (c2 := 25) (s2 := 150) ⟨by first | rfl | (dsimp only; omega), by first | rfl | (dsimp only; omega)⟩ ⟨by show 25 ≤ 1498; omega, by show 150 ≤ 8988; omega⟩ (q_an (fun H locs hP hS => ?_))
            refine q_nm (b := b2 (trC S (10 + x.toNat))) (lv_0 h_A.1 trivial trivial) ?_
            refine lv_aload_n hx hb dL_joins_162 rfl (lv_at hl 6 rfl) ?_
            refine lv_iload_n hx hb dL_joins_163 rfl (lv_at hl 9 rfl) ?_
            refine q_callH2 (As := [.ref (ad 1 0), .int (i32 (z))]) (rest := [.int (i32 (b2 (trC S (10 + x.toNat))))]) hx hb hml hl.1 hown hK hZ hP hS (c_L_isTrue l g base ad S z hfl hI.wc hrn2) t_516 t_14 t_518 t_517 f_yL_isTrue ⟨Nat.le_of_ble_eq_true rfl, Nat.le_of_ble_eq_true rfl⟩ rfl rfl (Nat.le_of_ble_eq_true rfl) dL_joins_164 (c2 := 26) (s2 := 156) ⟨by first | rfl | (dsimp only; omega), by first | rfl | (dsimp only; omega)⟩ ⟨by show 26 ≤ 1498; omega, by show 156 ≤ 8988; omega⟩ (q_an (fun H locs hP hS => ?_))
            refine q_nm (b := b2 (trC S (10 + z.toNat))) (lv_0 h_A.2 trivial trivial) ?_
            refine q_iadd hx hb dL_joins_167 ?_
            refine lv_istore (lv' := [(10, .int (i32 ((b2 (trC S (10 + x.toNat))) + (b2 (trC S (10 + z.toNat)))))), (9, .int (i32 (1))), (8, .int (i32 (0))), (7, .int (i32 (S (10 + x.toNat) 0 1))), (6, .int (i32 ((shC S (10 + x.toNat)) + (shC S (10 + z.toNat))))), (5, .int (i32 ((S (10 + x.toNat) 0 0) + (S (10 + z.toNat) 0 0)))), (4, .int (i32 (-1))), (0, .ref (ad 1 0)), (1, .ref (ad 3 3)), (2, .int (i32 (x))), (3, .int (i32 (z)))]) hx hb dL_joins_168 hl (by decide) rfl (fun ls hl => ?_)
            refine lv_aload_n hx hb dL_joins_170 rfl (lv_at hl 7 rfl) ?_
            refine lv_iload_n hx hb dL_joins_171 rfl (lv_at hl 9 rfl) ?_
            refine lv_iload_n hx hb dL_joins_172 rfl (lv_at hl 10 rfl) ?_
            refine q_callH2 (As := [.ref (ad 1 0), .int (i32 (x)), .int (i32 (z))]) (rest := []) hx hb hml hl.1 hown hK hZ hP hS (c_L_join l g base ad S x z hfl hI.wc hrn hrn2) t_604 t_14 t_606 t_605 f_yL_join ⟨Nat.le_of_ble_eq_true rfl, Nat.le_of_ble_eq_true rfl⟩ rfl rfl (Nat.le_of_ble_eq_true rfl) dL_joins_173 (c2 := 31) (s2 := 186) ⟨by first | rfl | (dsimp only; omega), by first | rfl | (dsimp only; omega)⟩ ⟨by show 31 ≤ 1498; omega, by show 186 ≤ 8988; omega⟩ (fun rr ad' S' H locs hQ hP hS => ?_)
            obtain ⟨⟨hr9, ek9⟩, hQ⟩ := hQ
            have hc9_1 : peC S x ∧ peC S z := h_A
            have hc9_2 : x ≠ z := h_B
            have hc9_3 : ¬ (dnC S (10 + x.toNat) ∧ dnC S (10 + z.toNat) ∧ S (10 + x.toNat) 0 1 = S (10 + z.toNat) 0 1 ∧ S (10 + x.toNat) 0 0 + S (10 + z.toNat) 0 0 ≤ 24) := fun y => h_H y.2.2.1
            have hs9 := (hQ.resolve_right (fun y9 => hc9_3 y9.1.2.2)).2
            subst hr9
            rw [ek9] at hP
            rw [hs9] at hP
            refine q_nm (lv_3 hc9_1 hc9_2 hc9_3) ?_
            refine lv_istore (lv' := [(11, .int (i32 (-1000003))), (10, .int (i32 ((b2 (trC S (10 + x.toNat))) + (b2 (trC S (10 + z.toNat)))))), (9, .int (i32 (1))), (8, .int (i32 (0))), (7, .int (i32 (S (10 + x.toNat) 0 1))), (6, .int (i32 ((shC S (10 + x.toNat)) + (shC S (10 + z.toNat))))), (5, .int (i32 ((S (10 + x.toNat) 0 0) + (S (10 + z.toNat) 0 0)))), (4, .int (i32 (-1))), (0, .ref (ad 1 0)), (1, .ref (ad 3 3)), (2, .int (i32 (x))), (3, .int (i32 (z)))]) hx hb dL_joins_176 hl (by decide) rfl (fun ls hl => ?_)
            refine lv_iload hx hb dL_joins_178 (lv_at hl 2 rfl) ?_
            refine q_if_eq (tgt := 195) hx hb ⟨by decide, by decide⟩ dL_joins_180 (by decide) (fun h => by omega) (fun _ => ?_)
            refine lv_iload hx hb dL_joins_183 (lv_at hl 3 rfl) ?_
            refine q_if_eq (tgt := 195) hx hb ⟨by decide, by decide⟩ dL_joins_185 (by decide) (fun _ => ?_) (fun h => by omega)
            refine lv_iload hx hb dL_joins_195 (lv_at hl 0 rfl) ?_
            refine q_ldc (z := -1000003) hx hb hown hK t_250 rfl dL_joins_197 ?_
            refine q_icmp_ne (tgt := 247) hx hb ⟨by decide, by decide⟩ ⟨by decide, by decide⟩ dL_joins_199 (by decide) (fun c_115 => (by exfalso; omega)) (fun c_115 => ?_)
            refine lv_iload hx hb dL_joins_202 (lv_at hl 2 rfl) ?_
            refine q_if_ne (tgt := 217) hx hb ⟨by decide, by decide⟩ dL_joins_204 (by decide) (fun _ => ?_) (fun h => by omega)
            refine lv_iload hx hb dL_joins_217 (lv_at hl 3 rfl) ?_
            refine q_if_eq (tgt := 237) hx hb ⟨by decide, by decide⟩ dL_joins_219 (by decide) (fun _ => ?_) (fun h => by omega)
            refine lv_iload hx hb dL_joins_237 (lv_at hl 7 rfl) ?_
            refine lv_iconst (v := i32 (-1)) hx hb dL_joins_239 rfl ?_
            refine q_icmp_ne (tgt := 247) hx hb ⟨by decide, by decide⟩ ⟨by decide, by decide⟩ dL_joins_240 (by decide) (fun c_116 => (by exfalso; omega)) (fun c_116 => ?_)
            refine lv_iconst (v := i32 (1)) hx hb dL_joins_243 rfl ?_
            refine lv_goto (tgt := 248) hx hb dL_joins_244 (by decide) ?_
            subst hQm
            exact q_zret hx hb hr hlocks hP hS (v := 1) (by decide) (by exact ⟨⟨rfl, (fun _ _ _ => rfl)⟩, hI, hV⟩) (by show 31 ≤ 1498; omega) (by show 186 ≤ 8988; omega) dL_joins_248
        · skip
          by_cases h_H : S (10 + x.toNat) 0 1 = S (10 + z.toNat) 0 1
          · skip
            obtain ⟨-, pw8, ph8, -⟩ := (hI.pp h_A.1).1
            obtain ⟨-, pw9, ph9, -⟩ := (hI.pp h_A.2).1
            have hsb8 := sh_b (hI.pp h_A.1)
            have hsb9 := sh_b (hI.pp h_A.2)
            have hmc := mc_b (S := S) (o := 10 + x.toNat) (n := 10 + z.toNat) (by omega)
            refine lv_aload_n hx hb dL_joins_0 rfl (lv_at hl 0 rfl) ?_
            refine lv_iload_n hx hb dL_joins_1 rfl (lv_at hl 2 rfl) ?_
            refine lv_iload_n hx hb dL_joins_2 rfl (lv_at hl 3 rfl) ?_
            refine q_callH2 (As := [.ref (ad 1 0), .int (i32 (x)), .int (i32 (z))]) (rest := []) hx hb hml hl.1 hown hK hZ hP hS (c_L_match l g base ad S x z hfl hI.wc hrn hrn2) t_585 t_14 t_587 t_586 f_yL_match ⟨Nat.le_of_ble_eq_true rfl, Nat.le_of_ble_eq_true rfl⟩ rfl rfl (Nat.le_of_ble_eq_true rfl) dL_joins_3 (c2 := 4) (s2 := 24) ⟨by first | rfl | (dsimp only; omega), by first | rfl | (dsimp only; omega)⟩ ⟨by show 4 ≤ 1498; omega, by show 24 ≤ 8988; omega⟩ (q_an (fun H locs hP hS => ?_))
            refine q_nm (b := -1000003) (lv_3 h_A h_B (fun y => h_E y.2)) ?_
            refine lv_istore (lv' := [(4, .int (i32 (-1000003))), (0, .ref (ad 1 0)), (1, .ref (ad 3 3)), (2, .int (i32 (x))), (3, .int (i32 (z)))]) hx hb dL_joins_6 hl (by decide) rfl (fun ls hl => ?_)
            refine lv_aload_n hx hb dL_joins_8 rfl (lv_at hl 1 rfl) ?_
            refine lv_iload_n hx hb dL_joins_9 rfl (lv_at hl 3 rfl) ?_
            refine q_callS2 (As := [.ref (ad 1 0), .int (i32 (x))]) (rest := []) hx hb hml hl.1 hown hK hZ hP hS (c_L_isThere l g base ad S x hfl hI hrn) t_264 (q_callB hK 263 14 265 t_263 t_14 t_265 f_yL_isThere ⟨Nat.le_of_ble_eq_true rfl, Nat.le_of_ble_eq_true rfl⟩) rfl rfl (Nat.le_of_ble_eq_true rfl) dL_joins_10 (c2 := 6) (s2 := 36) ⟨by first | rfl | (dsimp only; omega), by first | rfl | (dsimp only; omega)⟩ ⟨by show 6 ≤ 1498; omega, by show 36 ≤ 8988; omega⟩ (q_an (fun H locs hP hS => ?_))
            refine q_if_eqb (tgt := 24) hx hb dL_joins_13 (by decide) (fun c_117 => (by exfalso; exact c_117 h_A.1)) (fun c_117 => ?_)
            refine lv_aload_n hx hb dL_joins_16 rfl (lv_at hl 1 rfl) ?_
            refine lv_iload_n hx hb dL_joins_17 rfl (lv_at hl 4 rfl) ?_
            refine q_callS2 (As := [.ref (ad 1 0), .int (i32 (z))]) (rest := []) hx hb hml hl.1 hown hK hZ hP hS (c_L_isThere l g base ad S z hfl hI hrn2) t_264 (q_callB hK 263 14 265 t_263 t_14 t_265 f_yL_isThere ⟨Nat.le_of_ble_eq_true rfl, Nat.le_of_ble_eq_true rfl⟩) rfl rfl (Nat.le_of_ble_eq_true rfl) dL_joins_18 (c2 := 8) (s2 := 48) ⟨by first | rfl | (dsimp only; omega), by first | rfl | (dsimp only; omega)⟩ ⟨by show 8 ≤ 1498; omega, by show 48 ≤ 8988; omega⟩ (q_an (fun H locs hP hS => ?_))
            refine q_if_neb (tgt := 48) hx hb dL_joins_21 (by decide) (fun c_118 => ?_) (fun c_118 => (by exfalso; exact c_118 h_A.2))
            refine lv_iload_n hx hb dL_joins_48 rfl (lv_at hl 3 rfl) ?_
            refine lv_iload_n hx hb dL_joins_49 rfl (lv_at hl 4 rfl) ?_
            refine q_icmp_ne (tgt := 77) hx hb hrn hrn2 dL_joins_50 (by decide) (fun _ => ?_) (fun h => by first | exact absurd h_B h | exact absurd h h_B | omega)
            refine lv_aload_n hx hb dL_joins_77 rfl (lv_at hl 1 rfl) ?_
            refine lv_iload_n hx hb dL_joins_78 rfl (lv_at hl 3 rfl) ?_
            refine lv_iconst (v := i32 (0)) hx hb dL_joins_79 rfl ?_
            refine q_callH2 (As := [.ref (ad 1 0), .int (i32 (x)), .int (i32 (0))]) (rest := []) hx hb hml hl.1 hown hK hZ hP hS (c_L_pieceIs l g base ad S x ((0 : Int)) hfl hI.wc hrn ⟨by decide, by decide⟩) t_266 t_14 t_268 t_267 f_yL_pieceIs ⟨Nat.le_of_ble_eq_true rfl, Nat.le_of_ble_eq_true rfl⟩ rfl rfl (Nat.le_of_ble_eq_true rfl) dL_joins_80 (c2 := 10) (s2 := 60) ⟨by first | rfl | (dsimp only; omega), by first | rfl | (dsimp only; omega)⟩ ⟨by show 10 ≤ 1498; omega, by show 60 ≤ 8988; omega⟩ (q_an (fun H locs hP hS => ?_))
            refine q_nm (b := S (10 + x.toNat) 0 0) (((lv_0 h_A.1 (by decide) trivial).trans (pcC_0 rfl))) ?_
            refine lv_aload_n hx hb dL_joins_83 rfl (lv_at hl 1 rfl) ?_
            refine lv_iload_n hx hb dL_joins_84 rfl (lv_at hl 4 rfl) ?_
            refine lv_iconst (v := i32 (0)) hx hb dL_joins_85 rfl ?_
            refine q_callH2 (As := [.ref (ad 1 0), .int (i32 (z)), .int (i32 (0))]) (rest := [.int (i32 (S (10 + x.toNat) 0 0))]) hx hb hml hl.1 hown hK hZ hP hS (c_L_pieceIs l g base ad S z ((0 : Int)) hfl hI.wc hrn2 ⟨by decide, by decide⟩) t_266 t_14 t_268 t_267 f_yL_pieceIs ⟨Nat.le_of_ble_eq_true rfl, Nat.le_of_ble_eq_true rfl⟩ rfl rfl (Nat.le_of_ble_eq_true rfl) dL_joins_86 (c2 := 12) (s2 := 72) ⟨by first | rfl | (dsimp only; omega), by first | rfl | (dsimp only; omega)⟩ ⟨by show 12 ≤ 1498; omega, by show 72 ≤ 8988; omega⟩ (q_an (fun H locs hP hS => ?_))
            refine q_nm (b := S (10 + z.toNat) 0 0) (((lv_0 h_A.2 (by decide) trivial).trans (pcC_0 rfl))) ?_
            refine q_iadd hx hb dL_joins_89 ?_
            refine lv_istore (lv' := [(5, .int (i32 ((S (10 + x.toNat) 0 0) + (S (10 + z.toNat) 0 0)))), (4, .int (i32 (-1000003))), (0, .ref (ad 1 0)), (1, .ref (ad 3 3)), (2, .int (i32 (x))), (3, .int (i32 (z)))]) hx hb dL_joins_90 hl (by decide) rfl (fun ls hl => ?_)
            refine lv_aload_n hx hb dL_joins_92 rfl (lv_at hl 2 rfl) ?_
            refine lv_iload_n hx hb dL_joins_93 rfl (lv_at hl 4 rfl) ?_
            refine lv_iconst (v := i32 (5)) hx hb dL_joins_94 rfl ?_
            refine q_callH2 (As := [.ref (ad 1 0), .int (i32 (x)), .int (i32 (5))]) (rest := []) hx hb hml hl.1 hown hK hZ hP hS (c_L_pieceIs l g base ad S x ((5 : Int)) hfl hI.wc hrn ⟨by decide, by decide⟩) t_266 t_14 t_268 t_267 f_yL_pieceIs ⟨Nat.le_of_ble_eq_true rfl, Nat.le_of_ble_eq_true rfl⟩ rfl rfl (Nat.le_of_ble_eq_true rfl) dL_joins_95 (c2 := 14) (s2 := 84) ⟨by first | rfl | (dsimp only; omega), by first | rfl | (dsimp only; omega)⟩ ⟨by show 14 ≤ 1498; omega, by show 84 ≤ 8988; omega⟩ (q_an (fun H locs hP hS => ?_))
            refine q_nm (b := shC S (10 + x.toNat)) (((lv_0 h_A.1 (by decide) trivial).trans (pcC_5 rfl))) ?_
            refine lv_aload_n hx hb dL_joins_98 rfl (lv_at hl 2 rfl) ?_
            refine lv_iload_n hx hb dL_joins_99 rfl (lv_at hl 5 rfl) ?_
            refine lv_iconst (v := i32 (5)) hx hb dL_joins_100 rfl ?_
            refine q_callH2 (As := [.ref (ad 1 0), .int (i32 (z)), .int (i32 (5))]) (rest := [.int (i32 (shC S (10 + x.toNat)))]) hx hb hml hl.1 hown hK hZ hP hS (c_L_pieceIs l g base ad S z ((5 : Int)) hfl hI.wc hrn2 ⟨by decide, by decide⟩) t_266 t_14 t_268 t_267 f_yL_pieceIs ⟨Nat.le_of_ble_eq_true rfl, Nat.le_of_ble_eq_true rfl⟩ rfl rfl (Nat.le_of_ble_eq_true rfl) dL_joins_101 (c2 := 16) (s2 := 96) ⟨by first | rfl | (dsimp only; omega), by first | rfl | (dsimp only; omega)⟩ ⟨by show 16 ≤ 1498; omega, by show 96 ≤ 8988; omega⟩ (q_an (fun H locs hP hS => ?_))
            refine q_nm (b := shC S (10 + z.toNat)) (((lv_0 h_A.2 (by decide) trivial).trans (pcC_5 rfl))) ?_
            refine q_iadd hx hb dL_joins_104 ?_
            refine lv_istore (lv' := [(6, .int (i32 ((shC S (10 + x.toNat)) + (shC S (10 + z.toNat))))), (5, .int (i32 ((S (10 + x.toNat) 0 0) + (S (10 + z.toNat) 0 0)))), (4, .int (i32 (-1000003))), (0, .ref (ad 1 0)), (1, .ref (ad 3 3)), (2, .int (i32 (x))), (3, .int (i32 (z)))]) hx hb dL_joins_105 hl (by decide) rfl (fun ls hl => ?_)
            refine lv_aload_n hx hb dL_joins_107 rfl (lv_at hl 3 rfl) ?_
            refine lv_iload_n hx hb dL_joins_108 rfl (lv_at hl 5 rfl) ?_
            refine lv_iconst (v := i32 (1)) hx hb dL_joins_109 rfl ?_
            refine q_callH2 (As := [.ref (ad 1 0), .int (i32 (x)), .int (i32 (1))]) (rest := []) hx hb hml hl.1 hown hK hZ hP hS (c_L_pieceIs l g base ad S x ((1 : Int)) hfl hI.wc hrn ⟨by decide, by decide⟩) t_266 t_14 t_268 t_267 f_yL_pieceIs ⟨Nat.le_of_ble_eq_true rfl, Nat.le_of_ble_eq_true rfl⟩ rfl rfl (Nat.le_of_ble_eq_true rfl) dL_joins_110 (c2 := 18) (s2 := 108) ⟨by first | rfl | (dsimp only; omega), by first | rfl | (dsimp only; omega)⟩ ⟨by show 18 ≤ 1498; omega, by show 108 ≤ 8988; omega⟩ (q_an (fun H locs hP hS => ?_))
            refine q_nm (b := S (10 + x.toNat) 0 1) (((lv_0 h_A.1 (by decide) trivial).trans (pcC_1 rfl))) ?_
            refine lv_istore (lv' := [(7, .int (i32 (S (10 + x.toNat) 0 1))), (6, .int (i32 ((shC S (10 + x.toNat)) + (shC S (10 + z.toNat))))), (5, .int (i32 ((S (10 + x.toNat) 0 0) + (S (10 + z.toNat) 0 0)))), (4, .int (i32 (-1000003))), (0, .ref (ad 1 0)), (1, .ref (ad 3 3)), (2, .int (i32 (x))), (3, .int (i32 (z)))]) hx hb dL_joins_113 hl (by decide) rfl (fun ls hl => ?_)
            refine lv_iload hx hb dL_joins_115 (lv_at hl 0 rfl) ?_
            refine lv_aload_n hx hb dL_joins_117 rfl (lv_at hl 4 rfl) ?_
            refine lv_iload_n hx hb dL_joins_118 rfl (lv_at hl 7 rfl) ?_
            refine lv_iconst (v := i32 (1)) hx hb dL_joins_119 rfl ?_
            refine q_callH2 (As := [.ref (ad 1 0), .int (i32 (z)), .int (i32 (1))]) (rest := [.int (i32 (S (10 + x.toNat) 0 1))]) hx hb hml hl.1 hown hK hZ hP hS (c_L_pieceIs l g base ad S z ((1 : Int)) hfl hI.wc hrn2 ⟨by decide, by decide⟩) t_266 t_14 t_268 t_267 f_yL_pieceIs ⟨Nat.le_of_ble_eq_true rfl, Nat.le_of_ble_eq_true rfl⟩ rfl rfl (Nat.le_of_ble_eq_true rfl) dL_joins_120 (c2 := 20) (s2 := 120) ⟨by first | rfl | (dsimp only; omega), by first | rfl | (dsimp only; omega)⟩ ⟨by show 20 ≤ 1498; omega, by show 120 ≤ 8988; omega⟩ (q_an (fun H locs hP hS => ?_))
            refine q_nm (b := S (10 + z.toNat) 0 1) (((lv_0 h_A.2 (by decide) trivial).trans (pcC_1 rfl))) ?_
            refine q_icmp_ne (tgt := 130) hx hb (rS _ _ _) (rS _ _ _) dL_joins_123 (by decide) (fun c_119 => (by exfalso; omega)) (fun c_119 => ?_)
            refine lv_iconst (v := i32 (1)) hx hb dL_joins_126 rfl ?_
            refine lv_goto (tgt := 131) hx hb dL_joins_127 (by decide) ?_
            refine lv_istore (lv' := [(8, .int (i32 (1))), (7, .int (i32 (S (10 + x.toNat) 0 1))), (6, .int (i32 ((shC S (10 + x.toNat)) + (shC S (10 + z.toNat))))), (5, .int (i32 ((S (10 + x.toNat) 0 0) + (S (10 + z.toNat) 0 0)))), (4, .int (i32 (-1000003))), (0, .ref (ad 1 0)), (1, .ref (ad 3 3)), (2, .int (i32 (x))), (3, .int (i32 (z)))]) hx hb dL_joins_131 hl (by decide) rfl (fun ls hl => ?_)
            refine lv_aload_n hx hb dL_joins_133 rfl (lv_at hl 5 rfl) ?_
            refine lv_iload_n hx hb dL_joins_134 rfl (lv_at hl 7 rfl) ?_
            refine lv_iconst (v := i32 (3)) hx hb dL_joins_135 rfl ?_
            refine q_callH2 (As := [.ref (ad 1 0), .int (i32 (x)), .int (i32 (3))]) (rest := []) hx hb hml hl.1 hown hK hZ hP hS (c_L_pieceIs l g base ad S x ((3 : Int)) hfl hI.wc hrn ⟨by decide, by decide⟩) t_266 t_14 t_268 t_267 f_yL_pieceIs ⟨Nat.le_of_ble_eq_true rfl, Nat.le_of_ble_eq_true rfl⟩ rfl rfl (Nat.le_of_ble_eq_true rfl) dL_joins_136 (c2 := 22) (s2 := 132) ⟨by first | rfl | (dsimp only; omega), by first | rfl | (dsimp only; omega)⟩ ⟨by show 22 ≤ 1498; omega, by show 132 ≤ 8988; omega⟩ (q_an (fun H locs hP hS => ?_))
            refine q_nm (b := 1) (((lv_0 h_A.1 (by decide) trivial).trans (pcC_3 rfl)).trans (b2_t h_D)) ?_
            refine lv_aload_n hx hb dL_joins_139 rfl (lv_at hl 5 rfl) ?_
            refine lv_iload_n hx hb dL_joins_140 rfl (lv_at hl 8 rfl) ?_
            refine lv_iconst (v := i32 (3)) hx hb dL_joins_141 rfl ?_
            refine q_callH2 (As := [.ref (ad 1 0), .int (i32 (z)), .int (i32 (3))]) (rest := [.int (i32 (1))]) hx hb hml hl.1 hown hK hZ hP hS (c_L_pieceIs l g base ad S z ((3 : Int)) hfl hI.wc hrn2 ⟨by decide, by decide⟩) t_266 t_14 t_268 t_267 f_yL_pieceIs ⟨Nat.le_of_ble_eq_true rfl, Nat.le_of_ble_eq_true rfl⟩ rfl rfl (Nat.le_of_ble_eq_true rfl) dL_joins_142 (c2 := 24) (s2 := 144) ⟨by first | rfl | (dsimp only; omega), by first | rfl | (dsimp only; omega)⟩ ⟨by show 24 ≤ 1498; omega, by show 144 ≤ 8988; omega⟩ (q_an (fun H locs hP hS => ?_))
            refine q_nm (b := 0) (((lv_0 h_A.2 (by decide) trivial).trans (pcC_3 rfl)).trans (b2_f h_E)) ?_
            refine q_iadd hx hb dL_joins_145 ?_
            refine q_nm (show (1 + 0 : Int) = 1 from by decide) ?_
            refine lv_iconst (v := i32 (2)) hx hb dL_joins_146 rfl ?_
            refine q_icmp_ne (tgt := 154) hx hb ⟨by decide, by decide⟩ ⟨by decide, by decide⟩ dL_joins_147 (by decide) (fun c_120 => ?_) (fun c_120 => (by exfalso; omega))
            refine lv_iconst (v := i32 (0)) hx hb dL_joins_154 rfl ?_
            refine lv_istore (lv' := [(9, .int (i32 (0))), (8, .int (i32 (1))), (7, .int (i32 (S (10 + x.toNat) 0 1))), (6, .int (i32 ((shC S (10 + x.toNat)) + (shC S (10 + z.toNat))))), (5, .int (i32 ((S (10 + x.toNat) 0 0) + (S (10 + z.toNat) 0 0)))), (4, .int (i32 (-1000003))), (0, .ref (ad 1 0)), (1, .ref (ad 3 3)), (2, .int (i32 (x))), (3, .int (i32 (z)))]) hx hb dL_joins_155 hl (by decide) rfl (fun ls hl => ?_)
            refine lv_aload_n hx hb dL_joins_157 rfl (lv_at hl 6 rfl) ?_
            refine lv_iload_n hx hb dL_joins_158 rfl (lv_at hl 8 rfl) ?_
            refine q_callH2 (As := [.ref (ad 1 0), .int (i32 (x))]) (rest := []) hx hb hml hl.1 hown hK hZ hP hS (c_L_isTrue l g base ad S x hfl hI.wc hrn) t_516 t_14 t_518 t_517 f_yL_isTrue ⟨Nat.le_of_ble_eq_true rfl, Nat.le_of_ble_eq_true rfl⟩ rfl rfl (Nat.le_of_ble_eq_true rfl) dL_joins_159 (c2 := 25) (s2 := 150) ⟨by first | rfl | (dsimp only; omega), by first | rfl | (dsimp only; omega)⟩ ⟨by show 25 ≤ 1498; omega, by show 150 ≤ 8988; omega⟩ (q_an (fun H locs hP hS => ?_))
            refine q_nm (b := b2 (trC S (10 + x.toNat))) (lv_0 h_A.1 trivial trivial) ?_
            refine lv_aload_n hx hb dL_joins_162 rfl (lv_at hl 6 rfl) ?_
            refine lv_iload_n hx hb dL_joins_163 rfl (lv_at hl 9 rfl) ?_
            refine q_callH2 (As := [.ref (ad 1 0), .int (i32 (z))]) (rest := [.int (i32 (b2 (trC S (10 + x.toNat))))]) hx hb hml hl.1 hown hK hZ hP hS (c_L_isTrue l g base ad S z hfl hI.wc hrn2) t_516 t_14 t_518 t_517 f_yL_isTrue ⟨Nat.le_of_ble_eq_true rfl, Nat.le_of_ble_eq_true rfl⟩ rfl rfl (Nat.le_of_ble_eq_true rfl) dL_joins_164 (c2 := 26) (s2 := 156) ⟨by first | rfl | (dsimp only; omega), by first | rfl | (dsimp only; omega)⟩ ⟨by show 26 ≤ 1498; omega, by show 156 ≤ 8988; omega⟩ (q_an (fun H locs hP hS => ?_))
            refine q_nm (b := b2 (trC S (10 + z.toNat))) (lv_0 h_A.2 trivial trivial) ?_
            refine q_iadd hx hb dL_joins_167 ?_
            refine lv_istore (lv' := [(10, .int (i32 ((b2 (trC S (10 + x.toNat))) + (b2 (trC S (10 + z.toNat)))))), (9, .int (i32 (0))), (8, .int (i32 (1))), (7, .int (i32 (S (10 + x.toNat) 0 1))), (6, .int (i32 ((shC S (10 + x.toNat)) + (shC S (10 + z.toNat))))), (5, .int (i32 ((S (10 + x.toNat) 0 0) + (S (10 + z.toNat) 0 0)))), (4, .int (i32 (-1000003))), (0, .ref (ad 1 0)), (1, .ref (ad 3 3)), (2, .int (i32 (x))), (3, .int (i32 (z)))]) hx hb dL_joins_168 hl (by decide) rfl (fun ls hl => ?_)
            refine lv_aload_n hx hb dL_joins_170 rfl (lv_at hl 7 rfl) ?_
            refine lv_iload_n hx hb dL_joins_171 rfl (lv_at hl 9 rfl) ?_
            refine lv_iload_n hx hb dL_joins_172 rfl (lv_at hl 10 rfl) ?_
            refine q_callH2 (As := [.ref (ad 1 0), .int (i32 (x)), .int (i32 (z))]) (rest := []) hx hb hml hl.1 hown hK hZ hP hS (c_L_join l g base ad S x z hfl hI.wc hrn hrn2) t_604 t_14 t_606 t_605 f_yL_join ⟨Nat.le_of_ble_eq_true rfl, Nat.le_of_ble_eq_true rfl⟩ rfl rfl (Nat.le_of_ble_eq_true rfl) dL_joins_173 (c2 := 31) (s2 := 186) ⟨by first | rfl | (dsimp only; omega), by first | rfl | (dsimp only; omega)⟩ ⟨by show 31 ≤ 1498; omega, by show 186 ≤ 8988; omega⟩ (fun rr ad' S' H locs hQ hP hS => ?_)
            obtain ⟨⟨hr9, ek9⟩, hQ⟩ := hQ
            have hc9_1 : peC S x ∧ peC S z := h_A
            have hc9_2 : x ≠ z := h_B
            have hc9_3 : ¬ (dnC S (10 + x.toNat) ∧ dnC S (10 + z.toNat) ∧ S (10 + x.toNat) 0 1 = S (10 + z.toNat) 0 1 ∧ S (10 + x.toNat) 0 0 + S (10 + z.toNat) 0 0 ≤ 24) := fun y => h_E y.2.1
            have hs9 := (hQ.resolve_right (fun y9 => hc9_3 y9.1.2.2)).2
            subst hr9
            rw [ek9] at hP
            rw [hs9] at hP
            refine q_nm (lv_3 hc9_1 hc9_2 hc9_3) ?_
            refine lv_istore (lv' := [(11, .int (i32 (-1000003))), (10, .int (i32 ((b2 (trC S (10 + x.toNat))) + (b2 (trC S (10 + z.toNat)))))), (9, .int (i32 (0))), (8, .int (i32 (1))), (7, .int (i32 (S (10 + x.toNat) 0 1))), (6, .int (i32 ((shC S (10 + x.toNat)) + (shC S (10 + z.toNat))))), (5, .int (i32 ((S (10 + x.toNat) 0 0) + (S (10 + z.toNat) 0 0)))), (4, .int (i32 (-1000003))), (0, .ref (ad 1 0)), (1, .ref (ad 3 3)), (2, .int (i32 (x))), (3, .int (i32 (z)))]) hx hb dL_joins_176 hl (by decide) rfl (fun ls hl => ?_)
            refine lv_iload hx hb dL_joins_178 (lv_at hl 2 rfl) ?_
            refine q_if_eq (tgt := 195) hx hb ⟨by decide, by decide⟩ dL_joins_180 (by decide) (fun _ => ?_) (fun h => by omega)
            refine lv_iload hx hb dL_joins_195 (lv_at hl 0 rfl) ?_
            refine q_ldc (z := -1000003) hx hb hown hK t_250 rfl dL_joins_197 ?_
            refine q_icmp_ne (tgt := 247) hx hb ⟨by decide, by decide⟩ ⟨by decide, by decide⟩ dL_joins_199 (by decide) (fun c_121 => (by exfalso; omega)) (fun c_121 => ?_)
            refine lv_iload hx hb dL_joins_202 (lv_at hl 2 rfl) ?_
            refine q_if_ne (tgt := 217) hx hb ⟨by decide, by decide⟩ dL_joins_204 (by decide) (fun h => by omega) (fun _ => ?_)
            refine lv_iload hx hb dL_joins_207 (lv_at hl 7 rfl) ?_
            refine q_ldc (z := -1000003) hx hb hown hK t_250 rfl dL_joins_209 ?_
            refine q_icmp_ne (tgt := 247) hx hb ⟨by decide, by decide⟩ ⟨by decide, by decide⟩ dL_joins_211 (by decide) (fun h => by first | exact absurd c_121 h | exact absurd h c_121 | omega) (fun _ => ?_)
            refine lv_goto (tgt := 243) hx hb dL_joins_214 (by decide) ?_
            refine lv_iconst (v := i32 (1)) hx hb dL_joins_243 rfl ?_
            refine lv_goto (tgt := 248) hx hb dL_joins_244 (by decide) ?_
            subst hQm
            exact q_zret hx hb hr hlocks hP hS (v := 1) (by decide) (by exact ⟨⟨rfl, (fun _ _ _ => rfl)⟩, hI, hV⟩) (by show 31 ≤ 1498; omega) (by show 186 ≤ 8988; omega) dL_joins_248
          · skip
            obtain ⟨-, pw8, ph8, -⟩ := (hI.pp h_A.1).1
            obtain ⟨-, pw9, ph9, -⟩ := (hI.pp h_A.2).1
            have hsb8 := sh_b (hI.pp h_A.1)
            have hsb9 := sh_b (hI.pp h_A.2)
            have hmc := mc_b (S := S) (o := 10 + x.toNat) (n := 10 + z.toNat) (by omega)
            refine lv_aload_n hx hb dL_joins_0 rfl (lv_at hl 0 rfl) ?_
            refine lv_iload_n hx hb dL_joins_1 rfl (lv_at hl 2 rfl) ?_
            refine lv_iload_n hx hb dL_joins_2 rfl (lv_at hl 3 rfl) ?_
            refine q_callH2 (As := [.ref (ad 1 0), .int (i32 (x)), .int (i32 (z))]) (rest := []) hx hb hml hl.1 hown hK hZ hP hS (c_L_match l g base ad S x z hfl hI.wc hrn hrn2) t_585 t_14 t_587 t_586 f_yL_match ⟨Nat.le_of_ble_eq_true rfl, Nat.le_of_ble_eq_true rfl⟩ rfl rfl (Nat.le_of_ble_eq_true rfl) dL_joins_3 (c2 := 4) (s2 := 24) ⟨by first | rfl | (dsimp only; omega), by first | rfl | (dsimp only; omega)⟩ ⟨by show 4 ≤ 1498; omega, by show 24 ≤ 8988; omega⟩ (q_an (fun H locs hP hS => ?_))
            refine q_nm (b := -1000003) (lv_3 h_A h_B (fun y => h_E y.2)) ?_
            refine lv_istore (lv' := [(4, .int (i32 (-1000003))), (0, .ref (ad 1 0)), (1, .ref (ad 3 3)), (2, .int (i32 (x))), (3, .int (i32 (z)))]) hx hb dL_joins_6 hl (by decide) rfl (fun ls hl => ?_)
            refine lv_aload_n hx hb dL_joins_8 rfl (lv_at hl 1 rfl) ?_
            refine lv_iload_n hx hb dL_joins_9 rfl (lv_at hl 3 rfl) ?_
            refine q_callS2 (As := [.ref (ad 1 0), .int (i32 (x))]) (rest := []) hx hb hml hl.1 hown hK hZ hP hS (c_L_isThere l g base ad S x hfl hI hrn) t_264 (q_callB hK 263 14 265 t_263 t_14 t_265 f_yL_isThere ⟨Nat.le_of_ble_eq_true rfl, Nat.le_of_ble_eq_true rfl⟩) rfl rfl (Nat.le_of_ble_eq_true rfl) dL_joins_10 (c2 := 6) (s2 := 36) ⟨by first | rfl | (dsimp only; omega), by first | rfl | (dsimp only; omega)⟩ ⟨by show 6 ≤ 1498; omega, by show 36 ≤ 8988; omega⟩ (q_an (fun H locs hP hS => ?_))
            refine q_if_eqb (tgt := 24) hx hb dL_joins_13 (by decide) (fun c_122 => (by exfalso; exact c_122 h_A.1)) (fun c_122 => ?_)
            refine lv_aload_n hx hb dL_joins_16 rfl (lv_at hl 1 rfl) ?_
            refine lv_iload_n hx hb dL_joins_17 rfl (lv_at hl 4 rfl) ?_
            refine q_callS2 (As := [.ref (ad 1 0), .int (i32 (z))]) (rest := []) hx hb hml hl.1 hown hK hZ hP hS (c_L_isThere l g base ad S z hfl hI hrn2) t_264 (q_callB hK 263 14 265 t_263 t_14 t_265 f_yL_isThere ⟨Nat.le_of_ble_eq_true rfl, Nat.le_of_ble_eq_true rfl⟩) rfl rfl (Nat.le_of_ble_eq_true rfl) dL_joins_18 (c2 := 8) (s2 := 48) ⟨by first | rfl | (dsimp only; omega), by first | rfl | (dsimp only; omega)⟩ ⟨by show 8 ≤ 1498; omega, by show 48 ≤ 8988; omega⟩ (q_an (fun H locs hP hS => ?_))
            refine q_if_neb (tgt := 48) hx hb dL_joins_21 (by decide) (fun c_123 => ?_) (fun c_123 => (by exfalso; exact c_123 h_A.2))
            refine lv_iload_n hx hb dL_joins_48 rfl (lv_at hl 3 rfl) ?_
            refine lv_iload_n hx hb dL_joins_49 rfl (lv_at hl 4 rfl) ?_
            refine q_icmp_ne (tgt := 77) hx hb hrn hrn2 dL_joins_50 (by decide) (fun _ => ?_) (fun h => by first | exact absurd h_B h | exact absurd h h_B | omega)
            refine lv_aload_n hx hb dL_joins_77 rfl (lv_at hl 1 rfl) ?_
            refine lv_iload_n hx hb dL_joins_78 rfl (lv_at hl 3 rfl) ?_
            refine lv_iconst (v := i32 (0)) hx hb dL_joins_79 rfl ?_
            refine q_callH2 (As := [.ref (ad 1 0), .int (i32 (x)), .int (i32 (0))]) (rest := []) hx hb hml hl.1 hown hK hZ hP hS (c_L_pieceIs l g base ad S x ((0 : Int)) hfl hI.wc hrn ⟨by decide, by decide⟩) t_266 t_14 t_268 t_267 f_yL_pieceIs ⟨Nat.le_of_ble_eq_true rfl, Nat.le_of_ble_eq_true rfl⟩ rfl rfl (Nat.le_of_ble_eq_true rfl) dL_joins_80 (c2 := 10) (s2 := 60) ⟨by first | rfl | (dsimp only; omega), by first | rfl | (dsimp only; omega)⟩ ⟨by show 10 ≤ 1498; omega, by show 60 ≤ 8988; omega⟩ (q_an (fun H locs hP hS => ?_))
            refine q_nm (b := S (10 + x.toNat) 0 0) (((lv_0 h_A.1 (by decide) trivial).trans (pcC_0 rfl))) ?_
            refine lv_aload_n hx hb dL_joins_83 rfl (lv_at hl 1 rfl) ?_
            refine lv_iload_n hx hb dL_joins_84 rfl (lv_at hl 4 rfl) ?_
            refine lv_iconst (v := i32 (0)) hx hb dL_joins_85 rfl ?_
            refine q_callH2 (As := [.ref (ad 1 0), .int (i32 (z)), .int (i32 (0))]) (rest := [.int (i32 (S (10 + x.toNat) 0 0))]) hx hb hml hl.1 hown hK hZ hP hS (c_L_pieceIs l g base ad S z ((0 : Int)) hfl hI.wc hrn2 ⟨by decide, by decide⟩) t_266 t_14 t_268 t_267 f_yL_pieceIs ⟨Nat.le_of_ble_eq_true rfl, Nat.le_of_ble_eq_true rfl⟩ rfl rfl (Nat.le_of_ble_eq_true rfl) dL_joins_86 (c2 := 12) (s2 := 72) ⟨by first | rfl | (dsimp only; omega), by first | rfl | (dsimp only; omega)⟩ ⟨by show 12 ≤ 1498; omega, by show 72 ≤ 8988; omega⟩ (q_an (fun H locs hP hS => ?_))
            refine q_nm (b := S (10 + z.toNat) 0 0) (((lv_0 h_A.2 (by decide) trivial).trans (pcC_0 rfl))) ?_
            refine q_iadd hx hb dL_joins_89 ?_
            refine lv_istore (lv' := [(5, .int (i32 ((S (10 + x.toNat) 0 0) + (S (10 + z.toNat) 0 0)))), (4, .int (i32 (-1000003))), (0, .ref (ad 1 0)), (1, .ref (ad 3 3)), (2, .int (i32 (x))), (3, .int (i32 (z)))]) hx hb dL_joins_90 hl (by decide) rfl (fun ls hl => ?_)
            refine lv_aload_n hx hb dL_joins_92 rfl (lv_at hl 2 rfl) ?_
            refine lv_iload_n hx hb dL_joins_93 rfl (lv_at hl 4 rfl) ?_
            refine lv_iconst (v := i32 (5)) hx hb dL_joins_94 rfl ?_
            refine q_callH2 (As := [.ref (ad 1 0), .int (i32 (x)), .int (i32 (5))]) (rest := []) hx hb hml hl.1 hown hK hZ hP hS (c_L_pieceIs l g base ad S x ((5 : Int)) hfl hI.wc hrn ⟨by decide, by decide⟩) t_266 t_14 t_268 t_267 f_yL_pieceIs ⟨Nat.le_of_ble_eq_true rfl, Nat.le_of_ble_eq_true rfl⟩ rfl rfl (Nat.le_of_ble_eq_true rfl) dL_joins_95 (c2 := 14) (s2 := 84) ⟨by first | rfl | (dsimp only; omega), by first | rfl | (dsimp only; omega)⟩ ⟨by show 14 ≤ 1498; omega, by show 84 ≤ 8988; omega⟩ (q_an (fun H locs hP hS => ?_))
            refine q_nm (b := shC S (10 + x.toNat)) (((lv_0 h_A.1 (by decide) trivial).trans (pcC_5 rfl))) ?_
            refine lv_aload_n hx hb dL_joins_98 rfl (lv_at hl 2 rfl) ?_
            refine lv_iload_n hx hb dL_joins_99 rfl (lv_at hl 5 rfl) ?_
            refine lv_iconst (v := i32 (5)) hx hb dL_joins_100 rfl ?_
            refine q_callH2 (As := [.ref (ad 1 0), .int (i32 (z)), .int (i32 (5))]) (rest := [.int (i32 (shC S (10 + x.toNat)))]) hx hb hml hl.1 hown hK hZ hP hS (c_L_pieceIs l g base ad S z ((5 : Int)) hfl hI.wc hrn2 ⟨by decide, by decide⟩) t_266 t_14 t_268 t_267 f_yL_pieceIs ⟨Nat.le_of_ble_eq_true rfl, Nat.le_of_ble_eq_true rfl⟩ rfl rfl (Nat.le_of_ble_eq_true rfl) dL_joins_101 (c2 := 16) (s2 := 96) ⟨by first | rfl | (dsimp only; omega), by first | rfl | (dsimp only; omega)⟩ ⟨by show 16 ≤ 1498; omega, by show 96 ≤ 8988; omega⟩ (q_an (fun H locs hP hS => ?_))
            refine q_nm (b := shC S (10 + z.toNat)) (((lv_0 h_A.2 (by decide) trivial).trans (pcC_5 rfl))) ?_
            refine q_iadd hx hb dL_joins_104 ?_
            refine lv_istore (lv' := [(6, .int (i32 ((shC S (10 + x.toNat)) + (shC S (10 + z.toNat))))), (5, .int (i32 ((S (10 + x.toNat) 0 0) + (S (10 + z.toNat) 0 0)))), (4, .int (i32 (-1000003))), (0, .ref (ad 1 0)), (1, .ref (ad 3 3)), (2, .int (i32 (x))), (3, .int (i32 (z)))]) hx hb dL_joins_105 hl (by decide) rfl (fun ls hl => ?_)
            refine lv_aload_n hx hb dL_joins_107 rfl (lv_at hl 3 rfl) ?_
            refine lv_iload_n hx hb dL_joins_108 rfl (lv_at hl 5 rfl) ?_
            refine lv_iconst (v := i32 (1)) hx hb dL_joins_109 rfl ?_
            refine q_callH2 (As := [.ref (ad 1 0), .int (i32 (x)), .int (i32 (1))]) (rest := []) hx hb hml hl.1 hown hK hZ hP hS (c_L_pieceIs l g base ad S x ((1 : Int)) hfl hI.wc hrn ⟨by decide, by decide⟩) t_266 t_14 t_268 t_267 f_yL_pieceIs ⟨Nat.le_of_ble_eq_true rfl, Nat.le_of_ble_eq_true rfl⟩ rfl rfl (Nat.le_of_ble_eq_true rfl) dL_joins_110 (c2 := 18) (s2 := 108) ⟨by first | rfl | (dsimp only; omega), by first | rfl | (dsimp only; omega)⟩ ⟨by show 18 ≤ 1498; omega, by show 108 ≤ 8988; omega⟩ (q_an (fun H locs hP hS => ?_))
            refine q_nm (b := S (10 + x.toNat) 0 1) (((lv_0 h_A.1 (by decide) trivial).trans (pcC_1 rfl))) ?_
            refine lv_istore (lv' := [(7, .int (i32 (S (10 + x.toNat) 0 1))), (6, .int (i32 ((shC S (10 + x.toNat)) + (shC S (10 + z.toNat))))), (5, .int (i32 ((S (10 + x.toNat) 0 0) + (S (10 + z.toNat) 0 0)))), (4, .int (i32 (-1000003))), (0, .ref (ad 1 0)), (1, .ref (ad 3 3)), (2, .int (i32 (x))), (3, .int (i32 (z)))]) hx hb dL_joins_113 hl (by decide) rfl (fun ls hl => ?_)
            refine lv_iload hx hb dL_joins_115 (lv_at hl 0 rfl) ?_
            refine lv_aload_n hx hb dL_joins_117 rfl (lv_at hl 4 rfl) ?_
            refine lv_iload_n hx hb dL_joins_118 rfl (lv_at hl 7 rfl) ?_
            refine lv_iconst (v := i32 (1)) hx hb dL_joins_119 rfl ?_
            refine q_callH2 (As := [.ref (ad 1 0), .int (i32 (z)), .int (i32 (1))]) (rest := [.int (i32 (S (10 + x.toNat) 0 1))]) hx hb hml hl.1 hown hK hZ hP hS (c_L_pieceIs l g base ad S z ((1 : Int)) hfl hI.wc hrn2 ⟨by decide, by decide⟩) t_266 t_14 t_268 t_267 f_yL_pieceIs ⟨Nat.le_of_ble_eq_true rfl, Nat.le_of_ble_eq_true rfl⟩ rfl rfl (Nat.le_of_ble_eq_true rfl) dL_joins_120 (c2 := 20) (s2 := 120) ⟨by first | rfl | (dsimp only; omega), by first | rfl | (dsimp only; omega)⟩ ⟨by show 20 ≤ 1498; omega, by show 120 ≤ 8988; omega⟩ (q_an (fun H locs hP hS => ?_))
            refine q_nm (b := S (10 + z.toNat) 0 1) (((lv_0 h_A.2 (by decide) trivial).trans (pcC_1 rfl))) ?_
            refine q_icmp_ne (tgt := 130) hx hb (rS _ _ _) (rS _ _ _) dL_joins_123 (by decide) (fun c_124 => ?_) (fun c_124 => (by exfalso; omega))
            refine lv_iconst (v := i32 (0)) hx hb dL_joins_130 rfl ?_
            refine lv_istore (lv' := [(8, .int (i32 (0))), (7, .int (i32 (S (10 + x.toNat) 0 1))), (6, .int (i32 ((shC S (10 + x.toNat)) + (shC S (10 + z.toNat))))), (5, .int (i32 ((S (10 + x.toNat) 0 0) + (S (10 + z.toNat) 0 0)))), (4, .int (i32 (-1000003))), (0, .ref (ad 1 0)), (1, .ref (ad 3 3)), (2, .int (i32 (x))), (3, .int (i32 (z)))]) hx hb dL_joins_131 hl (by decide) rfl (fun ls hl => ?_)
            refine lv_aload_n hx hb dL_joins_133 rfl (lv_at hl 5 rfl) ?_
            refine lv_iload_n hx hb dL_joins_134 rfl (lv_at hl 7 rfl) ?_
            refine lv_iconst (v := i32 (3)) hx hb dL_joins_135 rfl ?_
            refine q_callH2 (As := [.ref (ad 1 0), .int (i32 (x)), .int (i32 (3))]) (rest := []) hx hb hml hl.1 hown hK hZ hP hS (c_L_pieceIs l g base ad S x ((3 : Int)) hfl hI.wc hrn ⟨by decide, by decide⟩) t_266 t_14 t_268 t_267 f_yL_pieceIs ⟨Nat.le_of_ble_eq_true rfl, Nat.le_of_ble_eq_true rfl⟩ rfl rfl (Nat.le_of_ble_eq_true rfl) dL_joins_136 (c2 := 22) (s2 := 132) ⟨by first | rfl | (dsimp only; omega), by first | rfl | (dsimp only; omega)⟩ ⟨by show 22 ≤ 1498; omega, by show 132 ≤ 8988; omega⟩ (q_an (fun H locs hP hS => ?_))
            refine q_nm (b := 1) (((lv_0 h_A.1 (by decide) trivial).trans (pcC_3 rfl)).trans (b2_t h_D)) ?_
            refine lv_aload_n hx hb dL_joins_139 rfl (lv_at hl 5 rfl) ?_
            refine lv_iload_n hx hb dL_joins_140 rfl (lv_at hl 8 rfl) ?_
            refine lv_iconst (v := i32 (3)) hx hb dL_joins_141 rfl ?_
            refine q_callH2 (As := [.ref (ad 1 0), .int (i32 (z)), .int (i32 (3))]) (rest := [.int (i32 (1))]) hx hb hml hl.1 hown hK hZ hP hS (c_L_pieceIs l g base ad S z ((3 : Int)) hfl hI.wc hrn2 ⟨by decide, by decide⟩) t_266 t_14 t_268 t_267 f_yL_pieceIs ⟨Nat.le_of_ble_eq_true rfl, Nat.le_of_ble_eq_true rfl⟩ rfl rfl (Nat.le_of_ble_eq_true rfl) dL_joins_142 (c2 := 24) (s2 := 144) ⟨by first | rfl | (dsimp only; omega), by first | rfl | (dsimp only; omega)⟩ ⟨by show 24 ≤ 1498; omega, by show 144 ≤ 8988; omega⟩ (q_an (fun H locs hP hS => ?_))
            refine q_nm (b := 0) (((lv_0 h_A.2 (by decide) trivial).trans (pcC_3 rfl)).trans (b2_f h_E)) ?_
            refine q_iadd hx hb dL_joins_145 ?_
            refine q_nm (show (1 + 0 : Int) = 1 from by decide) ?_
            refine lv_iconst (v := i32 (2)) hx hb dL_joins_146 rfl ?_
            refine q_icmp_ne (tgt := 154) hx hb ⟨by decide, by decide⟩ ⟨by decide, by decide⟩ dL_joins_147 (by decide) (fun c_125 => ?_) (fun c_125 => (by exfalso; omega))
            refine lv_iconst (v := i32 (0)) hx hb dL_joins_154 rfl ?_
            refine lv_istore (lv' := [(9, .int (i32 (0))), (8, .int (i32 (0))), (7, .int (i32 (S (10 + x.toNat) 0 1))), (6, .int (i32 ((shC S (10 + x.toNat)) + (shC S (10 + z.toNat))))), (5, .int (i32 ((S (10 + x.toNat) 0 0) + (S (10 + z.toNat) 0 0)))), (4, .int (i32 (-1000003))), (0, .ref (ad 1 0)), (1, .ref (ad 3 3)), (2, .int (i32 (x))), (3, .int (i32 (z)))]) hx hb dL_joins_155 hl (by decide) rfl (fun ls hl => ?_)
            refine lv_aload_n hx hb dL_joins_157 rfl (lv_at hl 6 rfl) ?_
            refine lv_iload_n hx hb dL_joins_158 rfl (lv_at hl 8 rfl) ?_
            refine q_callH2 (As := [.ref (ad 1 0), .int (i32 (x))]) (rest := []) hx hb hml hl.1 hown hK hZ hP hS (c_L_isTrue l g base ad S x hfl hI.wc hrn) t_516 t_14 t_518 t_517 f_yL_isTrue ⟨Nat.le_of_ble_eq_true rfl, Nat.le_of_ble_eq_true rfl⟩ rfl rfl (Nat.le_of_ble_eq_true rfl) dL_joins_159 (c2 := 25) (s2 := 150) ⟨by first | rfl | (dsimp only; omega), by first | rfl | (dsimp only; omega)⟩ ⟨by show 25 ≤ 1498; omega, by show 150 ≤ 8988; omega⟩ (q_an (fun H locs hP hS => ?_))
            refine q_nm (b := b2 (trC S (10 + x.toNat))) (lv_0 h_A.1 trivial trivial) ?_
            refine lv_aload_n hx hb dL_joins_162 rfl (lv_at hl 6 rfl) ?_
            refine lv_iload_n hx hb dL_joins_163 rfl (lv_at hl 9 rfl) ?_
            refine q_callH2 (As := [.ref (ad 1 0), .int (i32 (z))]) (rest := [.int (i32 (b2 (trC S (10 + x.toNat))))]) hx hb hml hl.1 hown hK hZ hP hS (c_L_isTrue l g base ad S z hfl hI.wc hrn2) t_516 t_14 t_518 t_517 f_yL_isTrue ⟨Nat.le_of_ble_eq_true rfl, Nat.le_of_ble_eq_true rfl⟩ rfl rfl (Nat.le_of_ble_eq_true rfl) dL_joins_164 (c2 := 26) (s2 := 156) ⟨by first | rfl | (dsimp only; omega), by first | rfl | (dsimp only; omega)⟩ ⟨by show 26 ≤ 1498; omega, by show 156 ≤ 8988; omega⟩ (q_an (fun H locs hP hS => ?_))
            refine q_nm (b := b2 (trC S (10 + z.toNat))) (lv_0 h_A.2 trivial trivial) ?_
            refine q_iadd hx hb dL_joins_167 ?_
            refine lv_istore (lv' := [(10, .int (i32 ((b2 (trC S (10 + x.toNat))) + (b2 (trC S (10 + z.toNat)))))), (9, .int (i32 (0))), (8, .int (i32 (0))), (7, .int (i32 (S (10 + x.toNat) 0 1))), (6, .int (i32 ((shC S (10 + x.toNat)) + (shC S (10 + z.toNat))))), (5, .int (i32 ((S (10 + x.toNat) 0 0) + (S (10 + z.toNat) 0 0)))), (4, .int (i32 (-1000003))), (0, .ref (ad 1 0)), (1, .ref (ad 3 3)), (2, .int (i32 (x))), (3, .int (i32 (z)))]) hx hb dL_joins_168 hl (by decide) rfl (fun ls hl => ?_)
            refine lv_aload_n hx hb dL_joins_170 rfl (lv_at hl 7 rfl) ?_
            refine lv_iload_n hx hb dL_joins_171 rfl (lv_at hl 9 rfl) ?_
            refine lv_iload_n hx hb dL_joins_172 rfl (lv_at hl 10 rfl) ?_
            refine q_callH2 (As := [.ref (ad 1 0), .int (i32 (x)), .int (i32 (z))]) (rest := []) hx hb hml hl.1 hown hK hZ hP hS (c_L_join l g base ad S x z hfl hI.wc hrn hrn2) t_604 t_14 t_606 t_605 f_yL_join ⟨Nat.le_of_ble_eq_true rfl, Nat.le_of_ble_eq_true rfl⟩ rfl rfl (Nat.le_of_ble_eq_true rfl) dL_joins_173 (c2 := 31) (s2 := 186) ⟨by first | rfl | (dsimp only; omega), by first | rfl | (dsimp only; omega)⟩ ⟨by show 31 ≤ 1498; omega, by show 186 ≤ 8988; omega⟩ (fun rr ad' S' H locs hQ hP hS => ?_)
            obtain ⟨⟨hr9, ek9⟩, hQ⟩ := hQ
            have hc9_1 : peC S x ∧ peC S z := h_A
            have hc9_2 : x ≠ z := h_B
            have hc9_3 : ¬ (dnC S (10 + x.toNat) ∧ dnC S (10 + z.toNat) ∧ S (10 + x.toNat) 0 1 = S (10 + z.toNat) 0 1 ∧ S (10 + x.toNat) 0 0 + S (10 + z.toNat) 0 0 ≤ 24) := fun y => h_E y.2.1
            have hs9 := (hQ.resolve_right (fun y9 => hc9_3 y9.1.2.2)).2
            subst hr9
            rw [ek9] at hP
            rw [hs9] at hP
            refine q_nm (lv_3 hc9_1 hc9_2 hc9_3) ?_
            refine lv_istore (lv' := [(11, .int (i32 (-1000003))), (10, .int (i32 ((b2 (trC S (10 + x.toNat))) + (b2 (trC S (10 + z.toNat)))))), (9, .int (i32 (0))), (8, .int (i32 (0))), (7, .int (i32 (S (10 + x.toNat) 0 1))), (6, .int (i32 ((shC S (10 + x.toNat)) + (shC S (10 + z.toNat))))), (5, .int (i32 ((S (10 + x.toNat) 0 0) + (S (10 + z.toNat) 0 0)))), (4, .int (i32 (-1000003))), (0, .ref (ad 1 0)), (1, .ref (ad 3 3)), (2, .int (i32 (x))), (3, .int (i32 (z)))]) hx hb dL_joins_176 hl (by decide) rfl (fun ls hl => ?_)
            refine lv_iload hx hb dL_joins_178 (lv_at hl 2 rfl) ?_
            refine q_if_eq (tgt := 195) hx hb ⟨by decide, by decide⟩ dL_joins_180 (by decide) (fun _ => ?_) (fun h => by omega)
            refine lv_iload hx hb dL_joins_195 (lv_at hl 0 rfl) ?_
            refine q_ldc (z := -1000003) hx hb hown hK t_250 rfl dL_joins_197 ?_
            refine q_icmp_ne (tgt := 247) hx hb ⟨by decide, by decide⟩ ⟨by decide, by decide⟩ dL_joins_199 (by decide) (fun c_126 => (by exfalso; omega)) (fun c_126 => ?_)
            refine lv_iload hx hb dL_joins_202 (lv_at hl 2 rfl) ?_
            refine q_if_ne (tgt := 217) hx hb ⟨by decide, by decide⟩ dL_joins_204 (by decide) (fun h => by omega) (fun _ => ?_)
            refine lv_iload hx hb dL_joins_207 (lv_at hl 7 rfl) ?_
            refine q_ldc (z := -1000003) hx hb hown hK t_250 rfl dL_joins_209 ?_
            refine q_icmp_ne (tgt := 247) hx hb ⟨by decide, by decide⟩ ⟨by decide, by decide⟩ dL_joins_211 (by decide) (fun h => by first | exact absurd c_126 h | exact absurd h c_126 | omega) (fun _ => ?_)
            refine lv_goto (tgt := 243) hx hb dL_joins_214 (by decide) ?_
            refine lv_iconst (v := i32 (1)) hx hb dL_joins_243 rfl ?_
            refine lv_goto (tgt := 248) hx hb dL_joins_244 (by decide) ?_
            subst hQm
            exact q_zret hx hb hr hlocks hP hS (v := 1) (by decide) (by exact ⟨⟨rfl, (fun _ _ _ => rfl)⟩, hI, hV⟩) (by show 31 ≤ 1498; omega) (by show 186 ≤ 8988; omega) dL_joins_248
      · skip
        by_cases h_H : S (10 + x.toNat) 0 1 = S (10 + z.toNat) 0 1
        · skip
          obtain ⟨-, pw8, ph8, -⟩ := (hI.pp h_A.1).1
          obtain ⟨-, pw9, ph9, -⟩ := (hI.pp h_A.2).1
          have hsb8 := sh_b (hI.pp h_A.1)
          have hsb9 := sh_b (hI.pp h_A.2)
          have hmc := mc_b (S := S) (o := 10 + x.toNat) (n := 10 + z.toNat) (by omega)
          refine lv_aload_n hx hb dL_joins_0 rfl (lv_at hl 0 rfl) ?_
          refine lv_iload_n hx hb dL_joins_1 rfl (lv_at hl 2 rfl) ?_
          refine lv_iload_n hx hb dL_joins_2 rfl (lv_at hl 3 rfl) ?_
          refine q_callH2 (As := [.ref (ad 1 0), .int (i32 (x)), .int (i32 (z))]) (rest := []) hx hb hml hl.1 hown hK hZ hP hS (c_L_match l g base ad S x z hfl hI.wc hrn hrn2) t_585 t_14 t_587 t_586 f_yL_match ⟨Nat.le_of_ble_eq_true rfl, Nat.le_of_ble_eq_true rfl⟩ rfl rfl (Nat.le_of_ble_eq_true rfl) dL_joins_3 (c2 := 4) (s2 := 24) ⟨by first | rfl | (dsimp only; omega), by first | rfl | (dsimp only; omega)⟩ ⟨by show 4 ≤ 1498; omega, by show 24 ≤ 8988; omega⟩ (q_an (fun H locs hP hS => ?_))
          refine q_nm (b := -1000003) (lv_3 h_A h_B (fun y => h_D y.1)) ?_
          refine lv_istore (lv' := [(4, .int (i32 (-1000003))), (0, .ref (ad 1 0)), (1, .ref (ad 3 3)), (2, .int (i32 (x))), (3, .int (i32 (z)))]) hx hb dL_joins_6 hl (by decide) rfl (fun ls hl => ?_)
          refine lv_aload_n hx hb dL_joins_8 rfl (lv_at hl 1 rfl) ?_
          refine lv_iload_n hx hb dL_joins_9 rfl (lv_at hl 3 rfl) ?_
          refine q_callS2 (As := [.ref (ad 1 0), .int (i32 (x))]) (rest := []) hx hb hml hl.1 hown hK hZ hP hS (c_L_isThere l g base ad S x hfl hI hrn) t_264 (q_callB hK 263 14 265 t_263 t_14 t_265 f_yL_isThere ⟨Nat.le_of_ble_eq_true rfl, Nat.le_of_ble_eq_true rfl⟩) rfl rfl (Nat.le_of_ble_eq_true rfl) dL_joins_10 (c2 := 6) (s2 := 36) ⟨by first | rfl | (dsimp only; omega), by first | rfl | (dsimp only; omega)⟩ ⟨by show 6 ≤ 1498; omega, by show 36 ≤ 8988; omega⟩ (q_an (fun H locs hP hS => ?_))
          refine q_if_eqb (tgt := 24) hx hb dL_joins_13 (by decide) (fun c_127 => (by exfalso; exact c_127 h_A.1)) (fun c_127 => ?_)
          refine lv_aload_n hx hb dL_joins_16 rfl (lv_at hl 1 rfl) ?_
          refine lv_iload_n hx hb dL_joins_17 rfl (lv_at hl 4 rfl) ?_
          refine q_callS2 (As := [.ref (ad 1 0), .int (i32 (z))]) (rest := []) hx hb hml hl.1 hown hK hZ hP hS (c_L_isThere l g base ad S z hfl hI hrn2) t_264 (q_callB hK 263 14 265 t_263 t_14 t_265 f_yL_isThere ⟨Nat.le_of_ble_eq_true rfl, Nat.le_of_ble_eq_true rfl⟩) rfl rfl (Nat.le_of_ble_eq_true rfl) dL_joins_18 (c2 := 8) (s2 := 48) ⟨by first | rfl | (dsimp only; omega), by first | rfl | (dsimp only; omega)⟩ ⟨by show 8 ≤ 1498; omega, by show 48 ≤ 8988; omega⟩ (q_an (fun H locs hP hS => ?_))
          refine q_if_neb (tgt := 48) hx hb dL_joins_21 (by decide) (fun c_128 => ?_) (fun c_128 => (by exfalso; exact c_128 h_A.2))
          refine lv_iload_n hx hb dL_joins_48 rfl (lv_at hl 3 rfl) ?_
          refine lv_iload_n hx hb dL_joins_49 rfl (lv_at hl 4 rfl) ?_
          refine q_icmp_ne (tgt := 77) hx hb hrn hrn2 dL_joins_50 (by decide) (fun _ => ?_) (fun h => by first | exact absurd h_B h | exact absurd h h_B | omega)
          refine lv_aload_n hx hb dL_joins_77 rfl (lv_at hl 1 rfl) ?_
          refine lv_iload_n hx hb dL_joins_78 rfl (lv_at hl 3 rfl) ?_
          refine lv_iconst (v := i32 (0)) hx hb dL_joins_79 rfl ?_
          refine q_callH2 (As := [.ref (ad 1 0), .int (i32 (x)), .int (i32 (0))]) (rest := []) hx hb hml hl.1 hown hK hZ hP hS (c_L_pieceIs l g base ad S x ((0 : Int)) hfl hI.wc hrn ⟨by decide, by decide⟩) t_266 t_14 t_268 t_267 f_yL_pieceIs ⟨Nat.le_of_ble_eq_true rfl, Nat.le_of_ble_eq_true rfl⟩ rfl rfl (Nat.le_of_ble_eq_true rfl) dL_joins_80 (c2 := 10) (s2 := 60) ⟨by first | rfl | (dsimp only; omega), by first | rfl | (dsimp only; omega)⟩ ⟨by show 10 ≤ 1498; omega, by show 60 ≤ 8988; omega⟩ (q_an (fun H locs hP hS => ?_))
          refine q_nm (b := S (10 + x.toNat) 0 0) (((lv_0 h_A.1 (by decide) trivial).trans (pcC_0 rfl))) ?_
          refine lv_aload_n hx hb dL_joins_83 rfl (lv_at hl 1 rfl) ?_
          refine lv_iload_n hx hb dL_joins_84 rfl (lv_at hl 4 rfl) ?_
          refine lv_iconst (v := i32 (0)) hx hb dL_joins_85 rfl ?_
          refine q_callH2 (As := [.ref (ad 1 0), .int (i32 (z)), .int (i32 (0))]) (rest := [.int (i32 (S (10 + x.toNat) 0 0))]) hx hb hml hl.1 hown hK hZ hP hS (c_L_pieceIs l g base ad S z ((0 : Int)) hfl hI.wc hrn2 ⟨by decide, by decide⟩) t_266 t_14 t_268 t_267 f_yL_pieceIs ⟨Nat.le_of_ble_eq_true rfl, Nat.le_of_ble_eq_true rfl⟩ rfl rfl (Nat.le_of_ble_eq_true rfl) dL_joins_86 (c2 := 12) (s2 := 72) ⟨by first | rfl | (dsimp only; omega), by first | rfl | (dsimp only; omega)⟩ ⟨by show 12 ≤ 1498; omega, by show 72 ≤ 8988; omega⟩ (q_an (fun H locs hP hS => ?_))
          refine q_nm (b := S (10 + z.toNat) 0 0) (((lv_0 h_A.2 (by decide) trivial).trans (pcC_0 rfl))) ?_
          refine q_iadd hx hb dL_joins_89 ?_
          refine lv_istore (lv' := [(5, .int (i32 ((S (10 + x.toNat) 0 0) + (S (10 + z.toNat) 0 0)))), (4, .int (i32 (-1000003))), (0, .ref (ad 1 0)), (1, .ref (ad 3 3)), (2, .int (i32 (x))), (3, .int (i32 (z)))]) hx hb dL_joins_90 hl (by decide) rfl (fun ls hl => ?_)
          refine lv_aload_n hx hb dL_joins_92 rfl (lv_at hl 2 rfl) ?_
          refine lv_iload_n hx hb dL_joins_93 rfl (lv_at hl 4 rfl) ?_
          refine lv_iconst (v := i32 (5)) hx hb dL_joins_94 rfl ?_
          refine q_callH2 (As := [.ref (ad 1 0), .int (i32 (x)), .int (i32 (5))]) (rest := []) hx hb hml hl.1 hown hK hZ hP hS (c_L_pieceIs l g base ad S x ((5 : Int)) hfl hI.wc hrn ⟨by decide, by decide⟩) t_266 t_14 t_268 t_267 f_yL_pieceIs ⟨Nat.le_of_ble_eq_true rfl, Nat.le_of_ble_eq_true rfl⟩ rfl rfl (Nat.le_of_ble_eq_true rfl) dL_joins_95 (c2 := 14) (s2 := 84) ⟨by first | rfl | (dsimp only; omega), by first | rfl | (dsimp only; omega)⟩ ⟨by show 14 ≤ 1498; omega, by show 84 ≤ 8988; omega⟩ (q_an (fun H locs hP hS => ?_))
          refine q_nm (b := shC S (10 + x.toNat)) (((lv_0 h_A.1 (by decide) trivial).trans (pcC_5 rfl))) ?_
          refine lv_aload_n hx hb dL_joins_98 rfl (lv_at hl 2 rfl) ?_
          refine lv_iload_n hx hb dL_joins_99 rfl (lv_at hl 5 rfl) ?_
          refine lv_iconst (v := i32 (5)) hx hb dL_joins_100 rfl ?_
          refine q_callH2 (As := [.ref (ad 1 0), .int (i32 (z)), .int (i32 (5))]) (rest := [.int (i32 (shC S (10 + x.toNat)))]) hx hb hml hl.1 hown hK hZ hP hS (c_L_pieceIs l g base ad S z ((5 : Int)) hfl hI.wc hrn2 ⟨by decide, by decide⟩) t_266 t_14 t_268 t_267 f_yL_pieceIs ⟨Nat.le_of_ble_eq_true rfl, Nat.le_of_ble_eq_true rfl⟩ rfl rfl (Nat.le_of_ble_eq_true rfl) dL_joins_101 (c2 := 16) (s2 := 96) ⟨by first | rfl | (dsimp only; omega), by first | rfl | (dsimp only; omega)⟩ ⟨by show 16 ≤ 1498; omega, by show 96 ≤ 8988; omega⟩ (q_an (fun H locs hP hS => ?_))
          refine q_nm (b := shC S (10 + z.toNat)) (((lv_0 h_A.2 (by decide) trivial).trans (pcC_5 rfl))) ?_
          refine q_iadd hx hb dL_joins_104 ?_
          refine lv_istore (lv' := [(6, .int (i32 ((shC S (10 + x.toNat)) + (shC S (10 + z.toNat))))), (5, .int (i32 ((S (10 + x.toNat) 0 0) + (S (10 + z.toNat) 0 0)))), (4, .int (i32 (-1000003))), (0, .ref (ad 1 0)), (1, .ref (ad 3 3)), (2, .int (i32 (x))), (3, .int (i32 (z)))]) hx hb dL_joins_105 hl (by decide) rfl (fun ls hl => ?_)
          refine lv_aload_n hx hb dL_joins_107 rfl (lv_at hl 3 rfl) ?_
          refine lv_iload_n hx hb dL_joins_108 rfl (lv_at hl 5 rfl) ?_
          refine lv_iconst (v := i32 (1)) hx hb dL_joins_109 rfl ?_
          refine q_callH2 (As := [.ref (ad 1 0), .int (i32 (x)), .int (i32 (1))]) (rest := []) hx hb hml hl.1 hown hK hZ hP hS (c_L_pieceIs l g base ad S x ((1 : Int)) hfl hI.wc hrn ⟨by decide, by decide⟩) t_266 t_14 t_268 t_267 f_yL_pieceIs ⟨Nat.le_of_ble_eq_true rfl, Nat.le_of_ble_eq_true rfl⟩ rfl rfl (Nat.le_of_ble_eq_true rfl) dL_joins_110 (c2 := 18) (s2 := 108) ⟨by first | rfl | (dsimp only; omega), by first | rfl | (dsimp only; omega)⟩ ⟨by show 18 ≤ 1498; omega, by show 108 ≤ 8988; omega⟩ (q_an (fun H locs hP hS => ?_))
          refine q_nm (b := S (10 + x.toNat) 0 1) (((lv_0 h_A.1 (by decide) trivial).trans (pcC_1 rfl))) ?_
          refine lv_istore (lv' := [(7, .int (i32 (S (10 + x.toNat) 0 1))), (6, .int (i32 ((shC S (10 + x.toNat)) + (shC S (10 + z.toNat))))), (5, .int (i32 ((S (10 + x.toNat) 0 0) + (S (10 + z.toNat) 0 0)))), (4, .int (i32 (-1000003))), (0, .ref (ad 1 0)), (1, .ref (ad 3 3)), (2, .int (i32 (x))), (3, .int (i32 (z)))]) hx hb dL_joins_113 hl (by decide) rfl (fun ls hl => ?_)
          refine lv_iload hx hb dL_joins_115 (lv_at hl 0 rfl) ?_
          refine lv_aload_n hx hb dL_joins_117 rfl (lv_at hl 4 rfl) ?_
          refine lv_iload_n hx hb dL_joins_118 rfl (lv_at hl 7 rfl) ?_
          refine lv_iconst (v := i32 (1)) hx hb dL_joins_119 rfl ?_
          refine q_callH2 (As := [.ref (ad 1 0), .int (i32 (z)), .int (i32 (1))]) (rest := [.int (i32 (S (10 + x.toNat) 0 1))]) hx hb hml hl.1 hown hK hZ hP hS (c_L_pieceIs l g base ad S z ((1 : Int)) hfl hI.wc hrn2 ⟨by decide, by decide⟩) t_266 t_14 t_268 t_267 f_yL_pieceIs ⟨Nat.le_of_ble_eq_true rfl, Nat.le_of_ble_eq_true rfl⟩ rfl rfl (Nat.le_of_ble_eq_true rfl) dL_joins_120 (c2 := 20) (s2 := 120) ⟨by first | rfl | (dsimp only; omega), by first | rfl | (dsimp only; omega)⟩ ⟨by show 20 ≤ 1498; omega, by show 120 ≤ 8988; omega⟩ (q_an (fun H locs hP hS => ?_))
          refine q_nm (b := S (10 + z.toNat) 0 1) (((lv_0 h_A.2 (by decide) trivial).trans (pcC_1 rfl))) ?_
          refine q_icmp_ne (tgt := 130) hx hb (rS _ _ _) (rS _ _ _) dL_joins_123 (by decide) (fun c_129 => (by exfalso; omega)) (fun c_129 => ?_)
          refine lv_iconst (v := i32 (1)) hx hb dL_joins_126 rfl ?_
          refine lv_goto (tgt := 131) hx hb dL_joins_127 (by decide) ?_
          refine lv_istore (lv' := [(8, .int (i32 (1))), (7, .int (i32 (S (10 + x.toNat) 0 1))), (6, .int (i32 ((shC S (10 + x.toNat)) + (shC S (10 + z.toNat))))), (5, .int (i32 ((S (10 + x.toNat) 0 0) + (S (10 + z.toNat) 0 0)))), (4, .int (i32 (-1000003))), (0, .ref (ad 1 0)), (1, .ref (ad 3 3)), (2, .int (i32 (x))), (3, .int (i32 (z)))]) hx hb dL_joins_131 hl (by decide) rfl (fun ls hl => ?_)
          refine lv_aload_n hx hb dL_joins_133 rfl (lv_at hl 5 rfl) ?_
          refine lv_iload_n hx hb dL_joins_134 rfl (lv_at hl 7 rfl) ?_
          refine lv_iconst (v := i32 (3)) hx hb dL_joins_135 rfl ?_
          refine q_callH2 (As := [.ref (ad 1 0), .int (i32 (x)), .int (i32 (3))]) (rest := []) hx hb hml hl.1 hown hK hZ hP hS (c_L_pieceIs l g base ad S x ((3 : Int)) hfl hI.wc hrn ⟨by decide, by decide⟩) t_266 t_14 t_268 t_267 f_yL_pieceIs ⟨Nat.le_of_ble_eq_true rfl, Nat.le_of_ble_eq_true rfl⟩ rfl rfl (Nat.le_of_ble_eq_true rfl) dL_joins_136 (c2 := 22) (s2 := 132) ⟨by first | rfl | (dsimp only; omega), by first | rfl | (dsimp only; omega)⟩ ⟨by show 22 ≤ 1498; omega, by show 132 ≤ 8988; omega⟩ (q_an (fun H locs hP hS => ?_))
          refine q_nm (b := 0) (((lv_0 h_A.1 (by decide) trivial).trans (pcC_3 rfl)).trans (b2_f h_D)) ?_
          refine lv_aload_n hx hb dL_joins_139 rfl (lv_at hl 5 rfl) ?_
          refine lv_iload_n hx hb dL_joins_140 rfl (lv_at hl 8 rfl) ?_
          refine lv_iconst (v := i32 (3)) hx hb dL_joins_141 rfl ?_
          have hb9 := b2_b (dnC S (10 + z.toNat))
          refine q_callH2 (As := [.ref (ad 1 0), .int (i32 (z)), .int (i32 (3))]) (rest := [.int (i32 (0))]) hx hb hml hl.1 hown hK hZ hP hS (c_L_pieceIs l g base ad S z ((3 : Int)) hfl hI.wc hrn2 ⟨by decide, by decide⟩) t_266 t_14 t_268 t_267 f_yL_pieceIs ⟨Nat.le_of_ble_eq_true rfl, Nat.le_of_ble_eq_true rfl⟩ rfl rfl (Nat.le_of_ble_eq_true rfl) dL_joins_142 (c2 := 24) (s2 := 144) ⟨by first | rfl | (dsimp only; omega), by first | rfl | (dsimp only; omega)⟩ ⟨by show 24 ≤ 1498; omega, by show 144 ≤ 8988; omega⟩ (q_an (fun H locs hP hS => ?_))
          refine q_nm (b := b2 (dnC S (10 + z.toNat))) (((lv_0 h_A.2 (by decide) trivial).trans (pcC_3 rfl))) ?_
          refine q_iadd hx hb dL_joins_145 ?_
          refine lv_iconst (v := i32 (2)) hx hb dL_joins_146 rfl ?_
          refine q_icmp_ne (tgt := 154) hx hb ⟨by omega, by omega⟩ ⟨by decide, by decide⟩ dL_joins_147 (by decide) (fun c_130 => ?_) (fun c_130 => (by exfalso; omega))
          refine lv_iconst (v := i32 (0)) hx hb dL_joins_154 rfl ?_
          refine lv_istore (lv' := [(9, .int (i32 (0))), (8, .int (i32 (1))), (7, .int (i32 (S (10 + x.toNat) 0 1))), (6, .int (i32 ((shC S (10 + x.toNat)) + (shC S (10 + z.toNat))))), (5, .int (i32 ((S (10 + x.toNat) 0 0) + (S (10 + z.toNat) 0 0)))), (4, .int (i32 (-1000003))), (0, .ref (ad 1 0)), (1, .ref (ad 3 3)), (2, .int (i32 (x))), (3, .int (i32 (z)))]) hx hb dL_joins_155 hl (by decide) rfl (fun ls hl => ?_)
          refine lv_aload_n hx hb dL_joins_157 rfl (lv_at hl 6 rfl) ?_
          refine lv_iload_n hx hb dL_joins_158 rfl (lv_at hl 8 rfl) ?_
          refine q_callH2 (As := [.ref (ad 1 0), .int (i32 (x))]) (rest := []) hx hb hml hl.1 hown hK hZ hP hS (c_L_isTrue l g base ad S x hfl hI.wc hrn) t_516 t_14 t_518 t_517 f_yL_isTrue ⟨Nat.le_of_ble_eq_true rfl, Nat.le_of_ble_eq_true rfl⟩ rfl rfl (Nat.le_of_ble_eq_true rfl) dL_joins_159 (c2 := 25) (s2 := 150) ⟨by first | rfl | (dsimp only; omega), by first | rfl | (dsimp only; omega)⟩ ⟨by show 25 ≤ 1498; omega, by show 150 ≤ 8988; omega⟩ (q_an (fun H locs hP hS => ?_))
          refine q_nm (b := b2 (trC S (10 + x.toNat))) (lv_0 h_A.1 trivial trivial) ?_
          refine lv_aload_n hx hb dL_joins_162 rfl (lv_at hl 6 rfl) ?_
          refine lv_iload_n hx hb dL_joins_163 rfl (lv_at hl 9 rfl) ?_
          refine q_callH2 (As := [.ref (ad 1 0), .int (i32 (z))]) (rest := [.int (i32 (b2 (trC S (10 + x.toNat))))]) hx hb hml hl.1 hown hK hZ hP hS (c_L_isTrue l g base ad S z hfl hI.wc hrn2) t_516 t_14 t_518 t_517 f_yL_isTrue ⟨Nat.le_of_ble_eq_true rfl, Nat.le_of_ble_eq_true rfl⟩ rfl rfl (Nat.le_of_ble_eq_true rfl) dL_joins_164 (c2 := 26) (s2 := 156) ⟨by first | rfl | (dsimp only; omega), by first | rfl | (dsimp only; omega)⟩ ⟨by show 26 ≤ 1498; omega, by show 156 ≤ 8988; omega⟩ (q_an (fun H locs hP hS => ?_))
          refine q_nm (b := b2 (trC S (10 + z.toNat))) (lv_0 h_A.2 trivial trivial) ?_
          refine q_iadd hx hb dL_joins_167 ?_
          refine lv_istore (lv' := [(10, .int (i32 ((b2 (trC S (10 + x.toNat))) + (b2 (trC S (10 + z.toNat)))))), (9, .int (i32 (0))), (8, .int (i32 (1))), (7, .int (i32 (S (10 + x.toNat) 0 1))), (6, .int (i32 ((shC S (10 + x.toNat)) + (shC S (10 + z.toNat))))), (5, .int (i32 ((S (10 + x.toNat) 0 0) + (S (10 + z.toNat) 0 0)))), (4, .int (i32 (-1000003))), (0, .ref (ad 1 0)), (1, .ref (ad 3 3)), (2, .int (i32 (x))), (3, .int (i32 (z)))]) hx hb dL_joins_168 hl (by decide) rfl (fun ls hl => ?_)
          refine lv_aload_n hx hb dL_joins_170 rfl (lv_at hl 7 rfl) ?_
          refine lv_iload_n hx hb dL_joins_171 rfl (lv_at hl 9 rfl) ?_
          refine lv_iload_n hx hb dL_joins_172 rfl (lv_at hl 10 rfl) ?_
          refine q_callH2 (As := [.ref (ad 1 0), .int (i32 (x)), .int (i32 (z))]) (rest := []) hx hb hml hl.1 hown hK hZ hP hS (c_L_join l g base ad S x z hfl hI.wc hrn hrn2) t_604 t_14 t_606 t_605 f_yL_join ⟨Nat.le_of_ble_eq_true rfl, Nat.le_of_ble_eq_true rfl⟩ rfl rfl (Nat.le_of_ble_eq_true rfl) dL_joins_173 (c2 := 31) (s2 := 186) ⟨by first | rfl | (dsimp only; omega), by first | rfl | (dsimp only; omega)⟩ ⟨by show 31 ≤ 1498; omega, by show 186 ≤ 8988; omega⟩ (fun rr ad' S' H locs hQ hP hS => ?_)
          obtain ⟨⟨hr9, ek9⟩, hQ⟩ := hQ
          have hc9_1 : peC S x ∧ peC S z := h_A
          have hc9_2 : x ≠ z := h_B
          have hc9_3 : ¬ (dnC S (10 + x.toNat) ∧ dnC S (10 + z.toNat) ∧ S (10 + x.toNat) 0 1 = S (10 + z.toNat) 0 1 ∧ S (10 + x.toNat) 0 0 + S (10 + z.toNat) 0 0 ≤ 24) := fun y => h_D y.1
          have hs9 := (hQ.resolve_right (fun y9 => hc9_3 y9.1.2.2)).2
          subst hr9
          rw [ek9] at hP
          rw [hs9] at hP
          refine q_nm (lv_3 hc9_1 hc9_2 hc9_3) ?_
          refine lv_istore (lv' := [(11, .int (i32 (-1000003))), (10, .int (i32 ((b2 (trC S (10 + x.toNat))) + (b2 (trC S (10 + z.toNat)))))), (9, .int (i32 (0))), (8, .int (i32 (1))), (7, .int (i32 (S (10 + x.toNat) 0 1))), (6, .int (i32 ((shC S (10 + x.toNat)) + (shC S (10 + z.toNat))))), (5, .int (i32 ((S (10 + x.toNat) 0 0) + (S (10 + z.toNat) 0 0)))), (4, .int (i32 (-1000003))), (0, .ref (ad 1 0)), (1, .ref (ad 3 3)), (2, .int (i32 (x))), (3, .int (i32 (z)))]) hx hb dL_joins_176 hl (by decide) rfl (fun ls hl => ?_)
          refine lv_iload hx hb dL_joins_178 (lv_at hl 2 rfl) ?_
          refine q_if_eq (tgt := 195) hx hb ⟨by decide, by decide⟩ dL_joins_180 (by decide) (fun _ => ?_) (fun h => by omega)
          refine lv_iload hx hb dL_joins_195 (lv_at hl 0 rfl) ?_
          refine q_ldc (z := -1000003) hx hb hown hK t_250 rfl dL_joins_197 ?_
          refine q_icmp_ne (tgt := 247) hx hb ⟨by decide, by decide⟩ ⟨by decide, by decide⟩ dL_joins_199 (by decide) (fun c_131 => (by exfalso; omega)) (fun c_131 => ?_)
          refine lv_iload hx hb dL_joins_202 (lv_at hl 2 rfl) ?_
          refine q_if_ne (tgt := 217) hx hb ⟨by decide, by decide⟩ dL_joins_204 (by decide) (fun h => by omega) (fun _ => ?_)
          refine lv_iload hx hb dL_joins_207 (lv_at hl 7 rfl) ?_
          refine q_ldc (z := -1000003) hx hb hown hK t_250 rfl dL_joins_209 ?_
          refine q_icmp_ne (tgt := 247) hx hb ⟨by decide, by decide⟩ ⟨by decide, by decide⟩ dL_joins_211 (by decide) (fun h => by first | exact absurd c_131 h | exact absurd h c_131 | omega) (fun _ => ?_)
          refine lv_goto (tgt := 243) hx hb dL_joins_214 (by decide) ?_
          refine lv_iconst (v := i32 (1)) hx hb dL_joins_243 rfl ?_
          refine lv_goto (tgt := 248) hx hb dL_joins_244 (by decide) ?_
          subst hQm
          exact q_zret hx hb hr hlocks hP hS (v := 1) (by decide) (by exact ⟨⟨rfl, (fun _ _ _ => rfl)⟩, hI, hV⟩) (by show 31 ≤ 1498; omega) (by show 186 ≤ 8988; omega) dL_joins_248
        · skip
          obtain ⟨-, pw8, ph8, -⟩ := (hI.pp h_A.1).1
          obtain ⟨-, pw9, ph9, -⟩ := (hI.pp h_A.2).1
          have hsb8 := sh_b (hI.pp h_A.1)
          have hsb9 := sh_b (hI.pp h_A.2)
          have hmc := mc_b (S := S) (o := 10 + x.toNat) (n := 10 + z.toNat) (by omega)
          refine lv_aload_n hx hb dL_joins_0 rfl (lv_at hl 0 rfl) ?_
          refine lv_iload_n hx hb dL_joins_1 rfl (lv_at hl 2 rfl) ?_
          refine lv_iload_n hx hb dL_joins_2 rfl (lv_at hl 3 rfl) ?_
          refine q_callH2 (As := [.ref (ad 1 0), .int (i32 (x)), .int (i32 (z))]) (rest := []) hx hb hml hl.1 hown hK hZ hP hS (c_L_match l g base ad S x z hfl hI.wc hrn hrn2) t_585 t_14 t_587 t_586 f_yL_match ⟨Nat.le_of_ble_eq_true rfl, Nat.le_of_ble_eq_true rfl⟩ rfl rfl (Nat.le_of_ble_eq_true rfl) dL_joins_3 (c2 := 4) (s2 := 24) ⟨by first | rfl | (dsimp only; omega), by first | rfl | (dsimp only; omega)⟩ ⟨by show 4 ≤ 1498; omega, by show 24 ≤ 8988; omega⟩ (q_an (fun H locs hP hS => ?_))
          refine q_nm (b := -1000003) (lv_3 h_A h_B (fun y => h_D y.1)) ?_
          refine lv_istore (lv' := [(4, .int (i32 (-1000003))), (0, .ref (ad 1 0)), (1, .ref (ad 3 3)), (2, .int (i32 (x))), (3, .int (i32 (z)))]) hx hb dL_joins_6 hl (by decide) rfl (fun ls hl => ?_)
          refine lv_aload_n hx hb dL_joins_8 rfl (lv_at hl 1 rfl) ?_
          refine lv_iload_n hx hb dL_joins_9 rfl (lv_at hl 3 rfl) ?_
          refine q_callS2 (As := [.ref (ad 1 0), .int (i32 (x))]) (rest := []) hx hb hml hl.1 hown hK hZ hP hS (c_L_isThere l g base ad S x hfl hI hrn) t_264 (q_callB hK 263 14 265 t_263 t_14 t_265 f_yL_isThere ⟨Nat.le_of_ble_eq_true rfl, Nat.le_of_ble_eq_true rfl⟩) rfl rfl (Nat.le_of_ble_eq_true rfl) dL_joins_10 (c2 := 6) (s2 := 36) ⟨by first | rfl | (dsimp only; omega), by first | rfl | (dsimp only; omega)⟩ ⟨by show 6 ≤ 1498; omega, by show 36 ≤ 8988; omega⟩ (q_an (fun H locs hP hS => ?_))
          refine q_if_eqb (tgt := 24) hx hb dL_joins_13 (by decide) (fun c_132 => (by exfalso; exact c_132 h_A.1)) (fun c_132 => ?_)
          refine lv_aload_n hx hb dL_joins_16 rfl (lv_at hl 1 rfl) ?_
          refine lv_iload_n hx hb dL_joins_17 rfl (lv_at hl 4 rfl) ?_
          refine q_callS2 (As := [.ref (ad 1 0), .int (i32 (z))]) (rest := []) hx hb hml hl.1 hown hK hZ hP hS (c_L_isThere l g base ad S z hfl hI hrn2) t_264 (q_callB hK 263 14 265 t_263 t_14 t_265 f_yL_isThere ⟨Nat.le_of_ble_eq_true rfl, Nat.le_of_ble_eq_true rfl⟩) rfl rfl (Nat.le_of_ble_eq_true rfl) dL_joins_18 (c2 := 8) (s2 := 48) ⟨by first | rfl | (dsimp only; omega), by first | rfl | (dsimp only; omega)⟩ ⟨by show 8 ≤ 1498; omega, by show 48 ≤ 8988; omega⟩ (q_an (fun H locs hP hS => ?_))
          refine q_if_neb (tgt := 48) hx hb dL_joins_21 (by decide) (fun c_133 => ?_) (fun c_133 => (by exfalso; exact c_133 h_A.2))
          refine lv_iload_n hx hb dL_joins_48 rfl (lv_at hl 3 rfl) ?_
          refine lv_iload_n hx hb dL_joins_49 rfl (lv_at hl 4 rfl) ?_
          refine q_icmp_ne (tgt := 77) hx hb hrn hrn2 dL_joins_50 (by decide) (fun _ => ?_) (fun h => by first | exact absurd h_B h | exact absurd h h_B | omega)
          refine lv_aload_n hx hb dL_joins_77 rfl (lv_at hl 1 rfl) ?_
          refine lv_iload_n hx hb dL_joins_78 rfl (lv_at hl 3 rfl) ?_
          refine lv_iconst (v := i32 (0)) hx hb dL_joins_79 rfl ?_
          refine q_callH2 (As := [.ref (ad 1 0), .int (i32 (x)), .int (i32 (0))]) (rest := []) hx hb hml hl.1 hown hK hZ hP hS (c_L_pieceIs l g base ad S x ((0 : Int)) hfl hI.wc hrn ⟨by decide, by decide⟩) t_266 t_14 t_268 t_267 f_yL_pieceIs ⟨Nat.le_of_ble_eq_true rfl, Nat.le_of_ble_eq_true rfl⟩ rfl rfl (Nat.le_of_ble_eq_true rfl) dL_joins_80 (c2 := 10) (s2 := 60) ⟨by first | rfl | (dsimp only; omega), by first | rfl | (dsimp only; omega)⟩ ⟨by show 10 ≤ 1498; omega, by show 60 ≤ 8988; omega⟩ (q_an (fun H locs hP hS => ?_))
          refine q_nm (b := S (10 + x.toNat) 0 0) (((lv_0 h_A.1 (by decide) trivial).trans (pcC_0 rfl))) ?_
          refine lv_aload_n hx hb dL_joins_83 rfl (lv_at hl 1 rfl) ?_
          refine lv_iload_n hx hb dL_joins_84 rfl (lv_at hl 4 rfl) ?_
          refine lv_iconst (v := i32 (0)) hx hb dL_joins_85 rfl ?_
          refine q_callH2 (As := [.ref (ad 1 0), .int (i32 (z)), .int (i32 (0))]) (rest := [.int (i32 (S (10 + x.toNat) 0 0))]) hx hb hml hl.1 hown hK hZ hP hS (c_L_pieceIs l g base ad S z ((0 : Int)) hfl hI.wc hrn2 ⟨by decide, by decide⟩) t_266 t_14 t_268 t_267 f_yL_pieceIs ⟨Nat.le_of_ble_eq_true rfl, Nat.le_of_ble_eq_true rfl⟩ rfl rfl (Nat.le_of_ble_eq_true rfl) dL_joins_86 (c2 := 12) (s2 := 72) ⟨by first | rfl | (dsimp only; omega), by first | rfl | (dsimp only; omega)⟩ ⟨by show 12 ≤ 1498; omega, by show 72 ≤ 8988; omega⟩ (q_an (fun H locs hP hS => ?_))
          refine q_nm (b := S (10 + z.toNat) 0 0) (((lv_0 h_A.2 (by decide) trivial).trans (pcC_0 rfl))) ?_
          refine q_iadd hx hb dL_joins_89 ?_
          refine lv_istore (lv' := [(5, .int (i32 ((S (10 + x.toNat) 0 0) + (S (10 + z.toNat) 0 0)))), (4, .int (i32 (-1000003))), (0, .ref (ad 1 0)), (1, .ref (ad 3 3)), (2, .int (i32 (x))), (3, .int (i32 (z)))]) hx hb dL_joins_90 hl (by decide) rfl (fun ls hl => ?_)
          refine lv_aload_n hx hb dL_joins_92 rfl (lv_at hl 2 rfl) ?_
          refine lv_iload_n hx hb dL_joins_93 rfl (lv_at hl 4 rfl) ?_
          refine lv_iconst (v := i32 (5)) hx hb dL_joins_94 rfl ?_
          refine q_callH2 (As := [.ref (ad 1 0), .int (i32 (x)), .int (i32 (5))]) (rest := []) hx hb hml hl.1 hown hK hZ hP hS (c_L_pieceIs l g base ad S x ((5 : Int)) hfl hI.wc hrn ⟨by decide, by decide⟩) t_266 t_14 t_268 t_267 f_yL_pieceIs ⟨Nat.le_of_ble_eq_true rfl, Nat.le_of_ble_eq_true rfl⟩ rfl rfl (Nat.le_of_ble_eq_true rfl) dL_joins_95 (c2 := 14) (s2 := 84) ⟨by first | rfl | (dsimp only; omega), by first | rfl | (dsimp only; omega)⟩ ⟨by show 14 ≤ 1498; omega, by show 84 ≤ 8988; omega⟩ (q_an (fun H locs hP hS => ?_))
          refine q_nm (b := shC S (10 + x.toNat)) (((lv_0 h_A.1 (by decide) trivial).trans (pcC_5 rfl))) ?_
          refine lv_aload_n hx hb dL_joins_98 rfl (lv_at hl 2 rfl) ?_
          refine lv_iload_n hx hb dL_joins_99 rfl (lv_at hl 5 rfl) ?_
          refine lv_iconst (v := i32 (5)) hx hb dL_joins_100 rfl ?_
          refine q_callH2 (As := [.ref (ad 1 0), .int (i32 (z)), .int (i32 (5))]) (rest := [.int (i32 (shC S (10 + x.toNat)))]) hx hb hml hl.1 hown hK hZ hP hS (c_L_pieceIs l g base ad S z ((5 : Int)) hfl hI.wc hrn2 ⟨by decide, by decide⟩) t_266 t_14 t_268 t_267 f_yL_pieceIs ⟨Nat.le_of_ble_eq_true rfl, Nat.le_of_ble_eq_true rfl⟩ rfl rfl (Nat.le_of_ble_eq_true rfl) dL_joins_101 (c2 := 16) (s2 := 96) ⟨by first | rfl | (dsimp only; omega), by first | rfl | (dsimp only; omega)⟩ ⟨by show 16 ≤ 1498; omega, by show 96 ≤ 8988; omega⟩ (q_an (fun H locs hP hS => ?_))
          refine q_nm (b := shC S (10 + z.toNat)) (((lv_0 h_A.2 (by decide) trivial).trans (pcC_5 rfl))) ?_
          refine q_iadd hx hb dL_joins_104 ?_
          refine lv_istore (lv' := [(6, .int (i32 ((shC S (10 + x.toNat)) + (shC S (10 + z.toNat))))), (5, .int (i32 ((S (10 + x.toNat) 0 0) + (S (10 + z.toNat) 0 0)))), (4, .int (i32 (-1000003))), (0, .ref (ad 1 0)), (1, .ref (ad 3 3)), (2, .int (i32 (x))), (3, .int (i32 (z)))]) hx hb dL_joins_105 hl (by decide) rfl (fun ls hl => ?_)
          refine lv_aload_n hx hb dL_joins_107 rfl (lv_at hl 3 rfl) ?_
          refine lv_iload_n hx hb dL_joins_108 rfl (lv_at hl 5 rfl) ?_
          refine lv_iconst (v := i32 (1)) hx hb dL_joins_109 rfl ?_
          refine q_callH2 (As := [.ref (ad 1 0), .int (i32 (x)), .int (i32 (1))]) (rest := []) hx hb hml hl.1 hown hK hZ hP hS (c_L_pieceIs l g base ad S x ((1 : Int)) hfl hI.wc hrn ⟨by decide, by decide⟩) t_266 t_14 t_268 t_267 f_yL_pieceIs ⟨Nat.le_of_ble_eq_true rfl, Nat.le_of_ble_eq_true rfl⟩ rfl rfl (Nat.le_of_ble_eq_true rfl) dL_joins_110 (c2 := 18) (s2 := 108) ⟨by first | rfl | (dsimp only; omega), by first | rfl | (dsimp only; omega)⟩ ⟨by show 18 ≤ 1498; omega, by show 108 ≤ 8988; omega⟩ (q_an (fun H locs hP hS => ?_))
          refine q_nm (b := S (10 + x.toNat) 0 1) (((lv_0 h_A.1 (by decide) trivial).trans (pcC_1 rfl))) ?_
          refine lv_istore (lv' := [(7, .int (i32 (S (10 + x.toNat) 0 1))), (6, .int (i32 ((shC S (10 + x.toNat)) + (shC S (10 + z.toNat))))), (5, .int (i32 ((S (10 + x.toNat) 0 0) + (S (10 + z.toNat) 0 0)))), (4, .int (i32 (-1000003))), (0, .ref (ad 1 0)), (1, .ref (ad 3 3)), (2, .int (i32 (x))), (3, .int (i32 (z)))]) hx hb dL_joins_113 hl (by decide) rfl (fun ls hl => ?_)
          refine lv_iload hx hb dL_joins_115 (lv_at hl 0 rfl) ?_
          refine lv_aload_n hx hb dL_joins_117 rfl (lv_at hl 4 rfl) ?_
          refine lv_iload_n hx hb dL_joins_118 rfl (lv_at hl 7 rfl) ?_
          refine lv_iconst (v := i32 (1)) hx hb dL_joins_119 rfl ?_
          refine q_callH2 (As := [.ref (ad 1 0), .int (i32 (z)), .int (i32 (1))]) (rest := [.int (i32 (S (10 + x.toNat) 0 1))]) hx hb hml hl.1 hown hK hZ hP hS (c_L_pieceIs l g base ad S z ((1 : Int)) hfl hI.wc hrn2 ⟨by decide, by decide⟩) t_266 t_14 t_268 t_267 f_yL_pieceIs ⟨Nat.le_of_ble_eq_true rfl, Nat.le_of_ble_eq_true rfl⟩ rfl rfl (Nat.le_of_ble_eq_true rfl) dL_joins_120 (c2 := 20) (s2 := 120) ⟨by first | rfl | (dsimp only; omega), by first | rfl | (dsimp only; omega)⟩ ⟨by show 20 ≤ 1498; omega, by show 120 ≤ 8988; omega⟩ (q_an (fun H locs hP hS => ?_))
          refine q_nm (b := S (10 + z.toNat) 0 1) (((lv_0 h_A.2 (by decide) trivial).trans (pcC_1 rfl))) ?_
          refine q_icmp_ne (tgt := 130) hx hb (rS _ _ _) (rS _ _ _) dL_joins_123 (by decide) (fun c_134 => ?_) (fun c_134 => (by exfalso; omega))
          refine lv_iconst (v := i32 (0)) hx hb dL_joins_130 rfl ?_
          refine lv_istore (lv' := [(8, .int (i32 (0))), (7, .int (i32 (S (10 + x.toNat) 0 1))), (6, .int (i32 ((shC S (10 + x.toNat)) + (shC S (10 + z.toNat))))), (5, .int (i32 ((S (10 + x.toNat) 0 0) + (S (10 + z.toNat) 0 0)))), (4, .int (i32 (-1000003))), (0, .ref (ad 1 0)), (1, .ref (ad 3 3)), (2, .int (i32 (x))), (3, .int (i32 (z)))]) hx hb dL_joins_131 hl (by decide) rfl (fun ls hl => ?_)
          refine lv_aload_n hx hb dL_joins_133 rfl (lv_at hl 5 rfl) ?_
          refine lv_iload_n hx hb dL_joins_134 rfl (lv_at hl 7 rfl) ?_
          refine lv_iconst (v := i32 (3)) hx hb dL_joins_135 rfl ?_
          refine q_callH2 (As := [.ref (ad 1 0), .int (i32 (x)), .int (i32 (3))]) (rest := []) hx hb hml hl.1 hown hK hZ hP hS (c_L_pieceIs l g base ad S x ((3 : Int)) hfl hI.wc hrn ⟨by decide, by decide⟩) t_266 t_14 t_268 t_267 f_yL_pieceIs ⟨Nat.le_of_ble_eq_true rfl, Nat.le_of_ble_eq_true rfl⟩ rfl rfl (Nat.le_of_ble_eq_true rfl) dL_joins_136 (c2 := 22) (s2 := 132) ⟨by first | rfl | (dsimp only; omega), by first | rfl | (dsimp only; omega)⟩ ⟨by show 22 ≤ 1498; omega, by show 132 ≤ 8988; omega⟩ (q_an (fun H locs hP hS => ?_))
          refine q_nm (b := 0) (((lv_0 h_A.1 (by decide) trivial).trans (pcC_3 rfl)).trans (b2_f h_D)) ?_
          refine lv_aload_n hx hb dL_joins_139 rfl (lv_at hl 5 rfl) ?_
          refine lv_iload_n hx hb dL_joins_140 rfl (lv_at hl 8 rfl) ?_
          refine lv_iconst (v := i32 (3)) hx hb dL_joins_141 rfl ?_
          have hb9 := b2_b (dnC S (10 + z.toNat))
          refine q_callH2 (As := [.ref (ad 1 0), .int (i32 (z)), .int (i32 (3))]) (rest := [.int (i32 (0))]) hx hb hml hl.1 hown hK hZ hP hS (c_L_pieceIs l g base ad S z ((3 : Int)) hfl hI.wc hrn2 ⟨by decide, by decide⟩) t_266 t_14 t_268 t_267 f_yL_pieceIs ⟨Nat.le_of_ble_eq_true rfl, Nat.le_of_ble_eq_true rfl⟩ rfl rfl (Nat.le_of_ble_eq_true rfl) dL_joins_142 (c2 := 24) (s2 := 144) ⟨by first | rfl | (dsimp only; omega), by first | rfl | (dsimp only; omega)⟩ ⟨by show 24 ≤ 1498; omega, by show 144 ≤ 8988; omega⟩ (q_an (fun H locs hP hS => ?_))
          refine q_nm (b := b2 (dnC S (10 + z.toNat))) (((lv_0 h_A.2 (by decide) trivial).trans (pcC_3 rfl))) ?_
          refine q_iadd hx hb dL_joins_145 ?_
          refine lv_iconst (v := i32 (2)) hx hb dL_joins_146 rfl ?_
          refine q_icmp_ne (tgt := 154) hx hb ⟨by omega, by omega⟩ ⟨by decide, by decide⟩ dL_joins_147 (by decide) (fun c_135 => ?_) (fun c_135 => (by exfalso; omega))
          refine lv_iconst (v := i32 (0)) hx hb dL_joins_154 rfl ?_
          refine lv_istore (lv' := [(9, .int (i32 (0))), (8, .int (i32 (0))), (7, .int (i32 (S (10 + x.toNat) 0 1))), (6, .int (i32 ((shC S (10 + x.toNat)) + (shC S (10 + z.toNat))))), (5, .int (i32 ((S (10 + x.toNat) 0 0) + (S (10 + z.toNat) 0 0)))), (4, .int (i32 (-1000003))), (0, .ref (ad 1 0)), (1, .ref (ad 3 3)), (2, .int (i32 (x))), (3, .int (i32 (z)))]) hx hb dL_joins_155 hl (by decide) rfl (fun ls hl => ?_)
          refine lv_aload_n hx hb dL_joins_157 rfl (lv_at hl 6 rfl) ?_
          refine lv_iload_n hx hb dL_joins_158 rfl (lv_at hl 8 rfl) ?_
          refine q_callH2 (As := [.ref (ad 1 0), .int (i32 (x))]) (rest := []) hx hb hml hl.1 hown hK hZ hP hS (c_L_isTrue l g base ad S x hfl hI.wc hrn) t_516 t_14 t_518 t_517 f_yL_isTrue ⟨Nat.le_of_ble_eq_true rfl, Nat.le_of_ble_eq_true rfl⟩ rfl rfl (Nat.le_of_ble_eq_true rfl) dL_joins_159 (c2 := 25) (s2 := 150) ⟨by first | rfl | (dsimp only; omega), by first | rfl | (dsimp only; omega)⟩ ⟨by show 25 ≤ 1498; omega, by show 150 ≤ 8988; omega⟩ (q_an (fun H locs hP hS => ?_))
          refine q_nm (b := b2 (trC S (10 + x.toNat))) (lv_0 h_A.1 trivial trivial) ?_
          refine lv_aload_n hx hb dL_joins_162 rfl (lv_at hl 6 rfl) ?_
          refine lv_iload_n hx hb dL_joins_163 rfl (lv_at hl 9 rfl) ?_
          refine q_callH2 (As := [.ref (ad 1 0), .int (i32 (z))]) (rest := [.int (i32 (b2 (trC S (10 + x.toNat))))]) hx hb hml hl.1 hown hK hZ hP hS (c_L_isTrue l g base ad S z hfl hI.wc hrn2) t_516 t_14 t_518 t_517 f_yL_isTrue ⟨Nat.le_of_ble_eq_true rfl, Nat.le_of_ble_eq_true rfl⟩ rfl rfl (Nat.le_of_ble_eq_true rfl) dL_joins_164 (c2 := 26) (s2 := 156) ⟨by first | rfl | (dsimp only; omega), by first | rfl | (dsimp only; omega)⟩ ⟨by show 26 ≤ 1498; omega, by show 156 ≤ 8988; omega⟩ (q_an (fun H locs hP hS => ?_))
          refine q_nm (b := b2 (trC S (10 + z.toNat))) (lv_0 h_A.2 trivial trivial) ?_
          refine q_iadd hx hb dL_joins_167 ?_
          refine lv_istore (lv' := [(10, .int (i32 ((b2 (trC S (10 + x.toNat))) + (b2 (trC S (10 + z.toNat)))))), (9, .int (i32 (0))), (8, .int (i32 (0))), (7, .int (i32 (S (10 + x.toNat) 0 1))), (6, .int (i32 ((shC S (10 + x.toNat)) + (shC S (10 + z.toNat))))), (5, .int (i32 ((S (10 + x.toNat) 0 0) + (S (10 + z.toNat) 0 0)))), (4, .int (i32 (-1000003))), (0, .ref (ad 1 0)), (1, .ref (ad 3 3)), (2, .int (i32 (x))), (3, .int (i32 (z)))]) hx hb dL_joins_168 hl (by decide) rfl (fun ls hl => ?_)
          refine lv_aload_n hx hb dL_joins_170 rfl (lv_at hl 7 rfl) ?_
          refine lv_iload_n hx hb dL_joins_171 rfl (lv_at hl 9 rfl) ?_
          refine lv_iload_n hx hb dL_joins_172 rfl (lv_at hl 10 rfl) ?_
          refine q_callH2 (As := [.ref (ad 1 0), .int (i32 (x)), .int (i32 (z))]) (rest := []) hx hb hml hl.1 hown hK hZ hP hS (c_L_join l g base ad S x z hfl hI.wc hrn hrn2) t_604 t_14 t_606 t_605 f_yL_join ⟨Nat.le_of_ble_eq_true rfl, Nat.le_of_ble_eq_true rfl⟩ rfl rfl (Nat.le_of_ble_eq_true rfl) dL_joins_173 (c2 := 31) (s2 := 186) ⟨by first | rfl | (dsimp only; omega), by first | rfl | (dsimp only; omega)⟩ ⟨by show 31 ≤ 1498; omega, by show 186 ≤ 8988; omega⟩ (fun rr ad' S' H locs hQ hP hS => ?_)
          obtain ⟨⟨hr9, ek9⟩, hQ⟩ := hQ
          have hc9_1 : peC S x ∧ peC S z := h_A
          have hc9_2 : x ≠ z := h_B
          have hc9_3 : ¬ (dnC S (10 + x.toNat) ∧ dnC S (10 + z.toNat) ∧ S (10 + x.toNat) 0 1 = S (10 + z.toNat) 0 1 ∧ S (10 + x.toNat) 0 0 + S (10 + z.toNat) 0 0 ≤ 24) := fun y => h_D y.1
          have hs9 := (hQ.resolve_right (fun y9 => hc9_3 y9.1.2.2)).2
          subst hr9
          rw [ek9] at hP
          rw [hs9] at hP
          refine q_nm (lv_3 hc9_1 hc9_2 hc9_3) ?_
          refine lv_istore (lv' := [(11, .int (i32 (-1000003))), (10, .int (i32 ((b2 (trC S (10 + x.toNat))) + (b2 (trC S (10 + z.toNat)))))), (9, .int (i32 (0))), (8, .int (i32 (0))), (7, .int (i32 (S (10 + x.toNat) 0 1))), (6, .int (i32 ((shC S (10 + x.toNat)) + (shC S (10 + z.toNat))))), (5, .int (i32 ((S (10 + x.toNat) 0 0) + (S (10 + z.toNat) 0 0)))), (4, .int (i32 (-1000003))), (0, .ref (ad 1 0)), (1, .ref (ad 3 3)), (2, .int (i32 (x))), (3, .int (i32 (z)))]) hx hb dL_joins_176 hl (by decide) rfl (fun ls hl => ?_)
          refine lv_iload hx hb dL_joins_178 (lv_at hl 2 rfl) ?_
          refine q_if_eq (tgt := 195) hx hb ⟨by decide, by decide⟩ dL_joins_180 (by decide) (fun _ => ?_) (fun h => by omega)
          refine lv_iload hx hb dL_joins_195 (lv_at hl 0 rfl) ?_
          refine q_ldc (z := -1000003) hx hb hown hK t_250 rfl dL_joins_197 ?_
          refine q_icmp_ne (tgt := 247) hx hb ⟨by decide, by decide⟩ ⟨by decide, by decide⟩ dL_joins_199 (by decide) (fun c_136 => (by exfalso; omega)) (fun c_136 => ?_)
          refine lv_iload hx hb dL_joins_202 (lv_at hl 2 rfl) ?_
          refine q_if_ne (tgt := 217) hx hb ⟨by decide, by decide⟩ dL_joins_204 (by decide) (fun h => by omega) (fun _ => ?_)
          refine lv_iload hx hb dL_joins_207 (lv_at hl 7 rfl) ?_
          refine q_ldc (z := -1000003) hx hb hown hK t_250 rfl dL_joins_209 ?_
          refine q_icmp_ne (tgt := 247) hx hb ⟨by decide, by decide⟩ ⟨by decide, by decide⟩ dL_joins_211 (by decide) (fun h => by first | exact absurd c_136 h | exact absurd h c_136 | omega) (fun _ => ?_)
          refine lv_goto (tgt := 243) hx hb dL_joins_214 (by decide) ?_
          refine lv_iconst (v := i32 (1)) hx hb dL_joins_243 rfl ?_
          refine lv_goto (tgt := 248) hx hb dL_joins_244 (by decide) ?_
          subst hQm
          exact q_zret hx hb hr hlocks hP hS (v := 1) (by decide) (by exact ⟨⟨rfl, (fun _ _ _ => rfl)⟩, hI, hV⟩) (by show 31 ≤ 1498; omega) (by show 186 ≤ 8988; omega) dL_joins_248
    · skip
      obtain ⟨-, pw8, ph8, -⟩ := (hI.pp h_A.1).1
      obtain ⟨-, pw9, ph9, -⟩ := (hI.pp h_A.2).1
      have hsb8 := sh_b (hI.pp h_A.1)
      have hsb9 := sh_b (hI.pp h_A.2)
      have hmc := mc_b (S := S) (o := 10 + x.toNat) (n := 10 + z.toNat) (by omega)
      refine lv_aload_n hx hb dL_joins_0 rfl (lv_at hl 0 rfl) ?_
      refine lv_iload_n hx hb dL_joins_1 rfl (lv_at hl 2 rfl) ?_
      refine lv_iload_n hx hb dL_joins_2 rfl (lv_at hl 3 rfl) ?_
      refine q_callH2 (As := [.ref (ad 1 0), .int (i32 (x)), .int (i32 (z))]) (rest := []) hx hb hml hl.1 hown hK hZ hP hS (c_L_match l g base ad S x z hfl hI.wc hrn hrn2) t_585 t_14 t_587 t_586 f_yL_match ⟨Nat.le_of_ble_eq_true rfl, Nat.le_of_ble_eq_true rfl⟩ rfl rfl (Nat.le_of_ble_eq_true rfl) dL_joins_3 (c2 := 4) (s2 := 24) ⟨by first | rfl | (dsimp only; omega), by first | rfl | (dsimp only; omega)⟩ ⟨by show 4 ≤ 1498; omega, by show 24 ≤ 8988; omega⟩ (q_an (fun H locs hP hS => ?_))
      refine q_nm (b := -1000002) (lv_2 h_A h_B) ?_
      refine lv_istore (lv' := [(4, .int (i32 (-1000002))), (0, .ref (ad 1 0)), (1, .ref (ad 3 3)), (2, .int (i32 (x))), (3, .int (i32 (z)))]) hx hb dL_joins_6 hl (by decide) rfl (fun ls hl => ?_)
      refine lv_aload_n hx hb dL_joins_8 rfl (lv_at hl 1 rfl) ?_
      refine lv_iload_n hx hb dL_joins_9 rfl (lv_at hl 3 rfl) ?_
      refine q_callS2 (As := [.ref (ad 1 0), .int (i32 (x))]) (rest := []) hx hb hml hl.1 hown hK hZ hP hS (c_L_isThere l g base ad S x hfl hI hrn) t_264 (q_callB hK 263 14 265 t_263 t_14 t_265 f_yL_isThere ⟨Nat.le_of_ble_eq_true rfl, Nat.le_of_ble_eq_true rfl⟩) rfl rfl (Nat.le_of_ble_eq_true rfl) dL_joins_10 (c2 := 6) (s2 := 36) ⟨by first | rfl | (dsimp only; omega), by first | rfl | (dsimp only; omega)⟩ ⟨by show 6 ≤ 1498; omega, by show 36 ≤ 8988; omega⟩ (q_an (fun H locs hP hS => ?_))
      refine q_if_eqb (tgt := 24) hx hb dL_joins_13 (by decide) (fun c_137 => (by exfalso; exact c_137 h_A.1)) (fun c_137 => ?_)
      refine lv_aload_n hx hb dL_joins_16 rfl (lv_at hl 1 rfl) ?_
      refine lv_iload_n hx hb dL_joins_17 rfl (lv_at hl 4 rfl) ?_
      refine q_callS2 (As := [.ref (ad 1 0), .int (i32 (z))]) (rest := []) hx hb hml hl.1 hown hK hZ hP hS (c_L_isThere l g base ad S z hfl hI hrn2) t_264 (q_callB hK 263 14 265 t_263 t_14 t_265 f_yL_isThere ⟨Nat.le_of_ble_eq_true rfl, Nat.le_of_ble_eq_true rfl⟩) rfl rfl (Nat.le_of_ble_eq_true rfl) dL_joins_18 (c2 := 8) (s2 := 48) ⟨by first | rfl | (dsimp only; omega), by first | rfl | (dsimp only; omega)⟩ ⟨by show 8 ≤ 1498; omega, by show 48 ≤ 8988; omega⟩ (q_an (fun H locs hP hS => ?_))
      refine q_if_neb (tgt := 48) hx hb dL_joins_21 (by decide) (fun c_138 => ?_) (fun c_138 => (by exfalso; exact c_138 h_A.2))
      refine lv_iload_n hx hb dL_joins_48 rfl (lv_at hl 3 rfl) ?_
      refine lv_iload_n hx hb dL_joins_49 rfl (lv_at hl 4 rfl) ?_
      refine q_icmp_ne (tgt := 77) hx hb hrn hrn2 dL_joins_50 (by decide) (fun c_139 => (by exfalso; omega)) (fun c_139 => ?_)
      refine lv_iload hx hb dL_joins_53 (lv_at hl 0 rfl) ?_
      refine q_ldc (z := -1000002) hx hb hown hK t_249 rfl dL_joins_55 ?_
      refine q_icmp_ne (tgt := 75) hx hb ⟨by decide, by decide⟩ ⟨by decide, by decide⟩ dL_joins_57 (by decide) (fun c_140 => (by exfalso; omega)) (fun c_140 => ?_)
      refine lv_aload_n hx hb dL_joins_60 rfl (lv_at hl 1 rfl) ?_
      refine lv_iload_n hx hb dL_joins_61 rfl (lv_at hl 3 rfl) ?_
      refine lv_iload_n hx hb dL_joins_62 rfl (lv_at hl 4 rfl) ?_
      refine q_callH2 (As := [.ref (ad 1 0), .int (i32 (x)), .int (i32 (z))]) (rest := []) hx hb hml hl.1 hown hK hZ hP hS (c_L_join l g base ad S x z hfl hI.wc hrn hrn2) t_604 t_14 t_606 t_605 f_yL_join ⟨Nat.le_of_ble_eq_true rfl, Nat.le_of_ble_eq_true rfl⟩ rfl rfl (Nat.le_of_ble_eq_true rfl) dL_joins_63 (c2 := 13) (s2 := 78) ⟨by first | rfl | (dsimp only; omega), by first | rfl | (dsimp only; omega)⟩ ⟨by show 13 ≤ 1498; omega, by show 78 ≤ 8988; omega⟩ (fun rr ad' S' H locs hQ hP hS => ?_)
      obtain ⟨⟨hr9, ek9⟩, hQ⟩ := hQ
      have hc9_1 : peC S x ∧ peC S z := h_A
      have hc9_2 : ¬ (x ≠ z) := h_B
      have hs9 := (hQ.resolve_right (fun y9 => hc9_2 y9.1.2.1)).2
      subst hr9
      rw [ek9] at hP
      rw [hs9] at hP
      refine q_nm (lv_2 hc9_1 hc9_2) ?_
      refine q_ldc (z := -1000002) hx hb hown hK t_249 rfl dL_joins_66 ?_
      refine q_icmp_ne (tgt := 75) hx hb ⟨by decide, by decide⟩ ⟨by decide, by decide⟩ dL_joins_68 (by decide) (fun h => by first | exact absurd c_140 h | exact absurd h c_140 | omega) (fun _ => ?_)
      refine lv_iconst (v := i32 (1)) hx hb dL_joins_71 rfl ?_
      refine lv_goto (tgt := 76) hx hb dL_joins_72 (by decide) ?_
      subst hQm
      exact q_zret hx hb hr hlocks hP hS (v := 1) (by decide) (by exact ⟨⟨rfl, (fun _ _ _ => rfl)⟩, hI, hV⟩) (by show 13 ≤ 1498; omega) (by show 78 ≤ 8988; omega) dL_joins_76
  · skip
    refine lv_aload_n hx hb dL_joins_0 rfl (lv_at hl 0 rfl) ?_
    refine lv_iload_n hx hb dL_joins_1 rfl (lv_at hl 2 rfl) ?_
    refine lv_iload_n hx hb dL_joins_2 rfl (lv_at hl 3 rfl) ?_
    refine q_callH2 (As := [.ref (ad 1 0), .int (i32 (x)), .int (i32 (z))]) (rest := []) hx hb hml hl.1 hown hK hZ hP hS (c_L_match l g base ad S x z hfl hI.wc hrn hrn2) t_585 t_14 t_587 t_586 f_yL_match ⟨Nat.le_of_ble_eq_true rfl, Nat.le_of_ble_eq_true rfl⟩ rfl rfl (Nat.le_of_ble_eq_true rfl) dL_joins_3 (c2 := 4) (s2 := 24) ⟨by first | rfl | (dsimp only; omega), by first | rfl | (dsimp only; omega)⟩ ⟨by show 4 ≤ 1498; omega, by show 24 ≤ 8988; omega⟩ (q_an (fun H locs hP hS => ?_))
    refine q_nm (b := -1000001) (lv_1 h_A) ?_
    refine lv_istore (lv' := [(4, .int (i32 (-1000001))), (0, .ref (ad 1 0)), (1, .ref (ad 3 3)), (2, .int (i32 (x))), (3, .int (i32 (z)))]) hx hb dL_joins_6 hl (by decide) rfl (fun ls hl => ?_)
    refine lv_aload_n hx hb dL_joins_8 rfl (lv_at hl 1 rfl) ?_
    refine lv_iload_n hx hb dL_joins_9 rfl (lv_at hl 3 rfl) ?_
    refine q_callS2 (As := [.ref (ad 1 0), .int (i32 (x))]) (rest := []) hx hb hml hl.1 hown hK hZ hP hS (c_L_isThere l g base ad S x hfl hI hrn) t_264 (q_callB hK 263 14 265 t_263 t_14 t_265 f_yL_isThere ⟨Nat.le_of_ble_eq_true rfl, Nat.le_of_ble_eq_true rfl⟩) rfl rfl (Nat.le_of_ble_eq_true rfl) dL_joins_10 (c2 := 6) (s2 := 36) ⟨by first | rfl | (dsimp only; omega), by first | rfl | (dsimp only; omega)⟩ ⟨by show 6 ≤ 1498; omega, by show 36 ≤ 8988; omega⟩ (q_an (fun H locs hP hS => ?_))
    refine q_if_eqb (tgt := 24) hx hb dL_joins_13 (by decide) (fun c_141 => ?_) (fun c_141 => ?_)
    · -- ¬ (peC S x)
      refine lv_iload hx hb dL_joins_24 (lv_at hl 0 rfl) ?_
      refine q_ldc (z := -1000001) hx hb hown hK t_248 rfl dL_joins_26 ?_
      refine q_icmp_ne (tgt := 46) hx hb ⟨by decide, by decide⟩ ⟨by decide, by decide⟩ dL_joins_28 (by decide) (fun c_142 => (by exfalso; omega)) (fun c_142 => ?_)
      refine lv_aload_n hx hb dL_joins_31 rfl (lv_at hl 1 rfl) ?_
      refine lv_iload_n hx hb dL_joins_32 rfl (lv_at hl 3 rfl) ?_
      refine lv_iload_n hx hb dL_joins_33 rfl (lv_at hl 4 rfl) ?_
      refine q_callH2 (As := [.ref (ad 1 0), .int (i32 (x)), .int (i32 (z))]) (rest := []) hx hb hml hl.1 hown hK hZ hP hS (c_L_join l g base ad S x z hfl hI.wc hrn hrn2) t_604 t_14 t_606 t_605 f_yL_join ⟨Nat.le_of_ble_eq_true rfl, Nat.le_of_ble_eq_true rfl⟩ rfl rfl (Nat.le_of_ble_eq_true rfl) dL_joins_34 (c2 := 11) (s2 := 66) ⟨by first | rfl | (dsimp only; omega), by first | rfl | (dsimp only; omega)⟩ ⟨by show 11 ≤ 1498; omega, by show 66 ≤ 8988; omega⟩ (fun rr ad' S' H locs hQ hP hS => ?_)
      obtain ⟨⟨hr9, ek9⟩, hQ⟩ := hQ
      have hc9_1 : ¬ (peC S x ∧ peC S z) := h_A
      have hs9 := (hQ.resolve_right (fun y9 => hc9_1 y9.1.1)).2
      subst hr9
      rw [ek9] at hP
      rw [hs9] at hP
      refine q_nm (lv_1 hc9_1) ?_
      refine q_ldc (z := -1000001) hx hb hown hK t_248 rfl dL_joins_37 ?_
      refine q_icmp_ne (tgt := 46) hx hb ⟨by decide, by decide⟩ ⟨by decide, by decide⟩ dL_joins_39 (by decide) (fun h => by first | exact absurd c_142 h | exact absurd h c_142 | omega) (fun _ => ?_)
      refine lv_iconst (v := i32 (1)) hx hb dL_joins_42 rfl ?_
      refine lv_goto (tgt := 47) hx hb dL_joins_43 (by decide) ?_
      subst hQm
      exact q_zret hx hb hr hlocks hP hS (v := 1) (by decide) (by exact ⟨⟨rfl, (fun _ _ _ => rfl)⟩, hI, hV⟩) (by show 11 ≤ 1498; omega) (by show 66 ≤ 8988; omega) dL_joins_47
    · -- peC S x
      refine lv_aload_n hx hb dL_joins_16 rfl (lv_at hl 1 rfl) ?_
      refine lv_iload_n hx hb dL_joins_17 rfl (lv_at hl 4 rfl) ?_
      refine q_callS2 (As := [.ref (ad 1 0), .int (i32 (z))]) (rest := []) hx hb hml hl.1 hown hK hZ hP hS (c_L_isThere l g base ad S z hfl hI hrn2) t_264 (q_callB hK 263 14 265 t_263 t_14 t_265 f_yL_isThere ⟨Nat.le_of_ble_eq_true rfl, Nat.le_of_ble_eq_true rfl⟩) rfl rfl (Nat.le_of_ble_eq_true rfl) dL_joins_18 (c2 := 8) (s2 := 48) ⟨by first | rfl | (dsimp only; omega), by first | rfl | (dsimp only; omega)⟩ ⟨by show 8 ≤ 1498; omega, by show 48 ≤ 8988; omega⟩ (q_an (fun H locs hP hS => ?_))
      refine q_if_neb (tgt := 48) hx hb dL_joins_21 (by decide) (fun c_143 => (by exfalso; exact h_A ⟨c_141, c_143⟩)) (fun c_143 => ?_)
      refine lv_iload hx hb dL_joins_24 (lv_at hl 0 rfl) ?_
      refine q_ldc (z := -1000001) hx hb hown hK t_248 rfl dL_joins_26 ?_
      refine q_icmp_ne (tgt := 46) hx hb ⟨by decide, by decide⟩ ⟨by decide, by decide⟩ dL_joins_28 (by decide) (fun c_144 => (by exfalso; omega)) (fun c_144 => ?_)
      refine lv_aload_n hx hb dL_joins_31 rfl (lv_at hl 1 rfl) ?_
      refine lv_iload_n hx hb dL_joins_32 rfl (lv_at hl 3 rfl) ?_
      refine lv_iload_n hx hb dL_joins_33 rfl (lv_at hl 4 rfl) ?_
      refine q_callH2 (As := [.ref (ad 1 0), .int (i32 (x)), .int (i32 (z))]) (rest := []) hx hb hml hl.1 hown hK hZ hP hS (c_L_join l g base ad S x z hfl hI.wc hrn hrn2) t_604 t_14 t_606 t_605 f_yL_join ⟨Nat.le_of_ble_eq_true rfl, Nat.le_of_ble_eq_true rfl⟩ rfl rfl (Nat.le_of_ble_eq_true rfl) dL_joins_34 (c2 := 13) (s2 := 78) ⟨by first | rfl | (dsimp only; omega), by first | rfl | (dsimp only; omega)⟩ ⟨by show 13 ≤ 1498; omega, by show 78 ≤ 8988; omega⟩ (fun rr ad' S' H locs hQ hP hS => ?_)
      obtain ⟨⟨hr9, ek9⟩, hQ⟩ := hQ
      have hc9_1 : ¬ (peC S x ∧ peC S z) := h_A
      have hs9 := (hQ.resolve_right (fun y9 => hc9_1 y9.1.1)).2
      subst hr9
      rw [ek9] at hP
      rw [hs9] at hP
      refine q_nm (lv_1 hc9_1) ?_
      refine q_ldc (z := -1000001) hx hb hown hK t_248 rfl dL_joins_37 ?_
      refine q_icmp_ne (tgt := 46) hx hb ⟨by decide, by decide⟩ ⟨by decide, by decide⟩ dL_joins_39 (by decide) (fun h => by first | exact absurd c_144 h | exact absurd h c_144 | omega) (fun _ => ?_)
      refine lv_iconst (v := i32 (1)) hx hb dL_joins_42 rfl ?_
      refine lv_goto (tgt := 47) hx hb dL_joins_43 (by decide) ?_
      subst hQm
      exact q_zret hx hb hr hlocks hP hS (v := 1) (by decide) (by exact ⟨⟨rfl, (fun _ _ _ => rfl)⟩, hI, hV⟩) (by show 13 ≤ 1498; omega) (by show 78 ≤ 8988; omega) dL_joins_47
