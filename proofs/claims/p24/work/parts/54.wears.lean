/-! ===== weaving, wearing, sewing, as the law has them ===== -/
theorem LV_4 {S : St} (h : LV S) {j v : Int} : LV (st S 3 4 j v) := by
  have e : ∀ (a b : Nat) (i : Int), ¬ (a = 3 ∧ b = 4) → st S 3 4 j v a b i = S a b i := fun a b i q => by rw [st_at, if_neg (by omega)]
  generalize st S 3 4 j v = S' at e
  obtain ⟨⟨a0, a1, a2⟩, ad, az, ac⟩ := h
  refine ⟨⟨by rw [e _ _ _ (by omega), e _ _ _ (by omega)]; exact a0, by rw [e _ _ _ (by omega), e _ _ _ (by omega)]; exact a1, by rw [e _ _ _ (by omega), e _ _ _ (by omega)]; exact a2⟩, fun x x0 x1 => ?_, fun x x0 x1 => ?_, fun k k0 k1 => ?_⟩
  · rw [e _ _ _ (by omega)] at x1
    rw [e _ _ _ (by omega), e _ _ _ (by omega), e _ _ _ (by omega), e _ _ _ (by omega)]
    exact ad x x0 x1
  · rw [e _ _ _ (by omega)] at x0
    rw [e _ _ _ (by omega)]
    exact az x x0 x1
  · rw [e _ _ _ (by omega)] at k1
    rw [e _ _ _ (by omega), e _ _ _ (by omega)]
    exact ac k k0 k1
/-- where only pieces, and threads left, are written -/
theorem LV_p {S S' : St} (h : LV S) (hk : S 1 0 3 ≤ 5) (e : ∀ (a b : Nat) (i : Int), a < 10 → ¬ (a = 2 ∧ b = 4) → S' a b i = S a b i) : LV S' :=
  LV_k h hk (fun b i => e _ _ _ (by omega) (by omega)) (e _ _ _ (by omega) (by omega)) (e _ _ _ (by omega) (by omega)) (e _ _ _ (by omega) (by omega)) (fun j => e _ _ _ (by omega) (by omega)) (fun a h1 h2 => ⟨e _ _ _ h2 (by omega), e _ _ _ h2 (by omega)⟩)
theorem pe_k {S S' : St} {x : Int} (h : peC S x) (e : S' 1 6 x = S 1 6 x) : peC S' x := ⟨h.1, h.2.1, by rw [e]; exact h.2.2⟩
theorem sl_dn {S : St} {o : Nat} (h1 : 1 ≤ S o 0 0) (d : dnC S o) : cif (dnC S o) (snC S o) 0 = snC S o := cif_t d
/-- .. and the pieces are as many as they were -/
def lmW (ad : Nat → Nat → Nat) (S : St) : Option Value → (Nat → Nat → Nat) → St → Prop := fun r ad' S' => lmP ad r ad' S' ∧ S' 3 1 2 = S 3 1 2
set_option maxHeartbeats 4000000 in
set_option maxRecDepth 100000 in
theorem c_L_weaves (l : Launch) (g : GT) (base : Nat) (ad : Nat → Nat → Nat) (S : St) (x y : Int) (hfl : l.stackTraces = false) (hI : IV S) (hV : LV S) (hg2 : 1 ≤ S 3 1 2) (hrn : rng x) (hrn2 : rng y) : Met l yL_weaves [Cond.code yL_weaves cL_weaves 9 (some FieldType.boolean)] ({ frames := 9, cells := 8, slots := 48, locals := 158 }) (va_Pc [.ref (ad 1 0), .ref (ad 3 1), .int (i32 (x)), .int (i32 (y))] (PK g base ad S)) (gQ g base (lmW ad S)) 8 48 (fun q => base ≤ q) := by
  refine mk_m (own := RL) (lv0 := [(0, .ref (ad 1 0)), (1, .ref (ad 3 1)), (2, .int (i32 (x))), (3, .int (i32 (y)))]) (by decide) rfl (Nat.le_of_ble_eq_true rfl) rfl ?_
  intro p e s m below meth cz av Qm hx hb hr hml hown hlocks hK hZ hP hQm ls hl
  have hS : va_S (fun q => base ≤ q) s.heap s.heap [] := va_S.rf
  have rS : ∀ (a1 b1 : Nat) (i1 : Int), rng (S a1 b1 i1) := fun a1 b1 i1 => hP.rg a1 b1 i1
  have hp20 := hI.p.1
  obtain ⟨⟨v0, v1, v2⟩, -⟩ := id hV
  refine lv_iload_n hx hb dL_weaves_0 rfl (lv_at hl 2 rfl) ?_
  refine lv_aload_n hx hb dL_weaves_1 rfl (lv_at hl 1 rfl) ?_
  refine lv_iconst (v := i32 (2)) hx hb dL_weaves_2 rfl ?_
  refine p_iald (k := 3) (r := 1) (n := 4) hx hb hK hP hI.a.2.2 rfl rfl (by decide) (by decide) (by omega) (by omega) dL_weaves_3 ?_
  refine q_callS2 (As := [.int (i32 (x)), .int (i32 (S 3 1 2))]) (rest := []) hx hb hml hl.1 hown hK hZ hP hS (c_L_low l g base ad S x (S 3 1 2) hrn (by omega)) t_122 (q_callB hK 121 14 123 t_121 t_14 t_123 f_yL_low ⟨Nat.le_of_ble_eq_true rfl, Nat.le_of_ble_eq_true rfl⟩) rfl rfl (Nat.le_of_ble_eq_true rfl) dL_weaves_4 (c2 := 0) (s2 := 0) ⟨by first | rfl | (dsimp only; omega), by first | rfl | (dsimp only; omega)⟩ ⟨by show 0 ≤ 8; omega, by show 0 ≤ 48; omega⟩ (q_an (fun H locs hP hS => ?_))
  obtain ⟨y1, hy1⟩ : ∃ y99 : Int, loF x (S 3 1 2) = y99 := ⟨_, rfl⟩
  have by1 := lo_b x (show 1 ≤ (S 3 1 2) by omega)
  rw [hy1] at by1
  refine q_nm hy1 ?_
  refine lv_istore (lv' := [(4, .int (i32 (y1))), (0, .ref (ad 1 0)), (1, .ref (ad 3 1)), (2, .int (i32 (x))), (3, .int (i32 (y)))]) hx hb dL_weaves_7 hl (by decide) rfl (fun ls hl => ?_)
  refine lv_iload_n hx hb dL_weaves_9 rfl (lv_at hl 4 rfl) ?_
  refine lv_iconst (v := i32 (4)) hx hb dL_weaves_10 rfl ?_
  refine q_callS2 (As := [.int (i32 (y)), .int (i32 (4))]) (rest := []) hx hb hml hl.1 hown hK hZ hP hS (c_L_low l g base ad S y ((4 : Int)) hrn2 (by omega)) t_122 (q_callB hK 121 14 123 t_121 t_14 t_123 f_yL_low ⟨Nat.le_of_ble_eq_true rfl, Nat.le_of_ble_eq_true rfl⟩) rfl rfl (Nat.le_of_ble_eq_true rfl) dL_weaves_11 (c2 := 0) (s2 := 0) ⟨by first | rfl | (dsimp only; omega), by first | rfl | (dsimp only; omega)⟩ ⟨by show 0 ≤ 8; omega, by show 0 ≤ 48; omega⟩ (q_an (fun H locs hP hS => ?_))
  obtain ⟨y2, hy2⟩ : ∃ y99 : Int, loF y ((4 : Int)) = y99 := ⟨_, rfl⟩
  have by2 := lo_b y (show 1 ≤ ((4 : Int)) by omega)
  rw [hy2] at by2
  refine q_nm hy2 ?_
  refine lv_istore (lv' := [(5, .int (i32 (y2))), (4, .int (i32 (y1))), (0, .ref (ad 1 0)), (1, .ref (ad 3 1)), (2, .int (i32 (x))), (3, .int (i32 (y)))]) hx hb dL_weaves_14 hl (by decide) rfl (fun ls hl => ?_)
  by_cases h_P : peC S y1
  · skip
    refine lv_aload_n hx hb dL_weaves_16 rfl (lv_at hl 2 rfl) ?_
    refine lv_iload hx hb dL_weaves_17 (lv_at hl 1 rfl) ?_
    refine lv_iconst (v := i32 (2)) hx hb dL_weaves_19 rfl ?_
    refine q_callH2 (As := [.ref (ad 1 0), .int (i32 (y1)), .int (i32 (2))]) (rest := []) hx hb hml hl.1 hown hK hZ hP hS (c_L_pieceIs l g base ad S y1 ((2 : Int)) hfl hI.wc ⟨by omega, by omega⟩ ⟨by decide, by decide⟩) t_266 t_14 t_268 t_267 f_yL_pieceIs ⟨Nat.le_of_ble_eq_true rfl, Nat.le_of_ble_eq_true rfl⟩ rfl rfl (Nat.le_of_ble_eq_true rfl) dL_weaves_20 (c2 := 2) (s2 := 12) ⟨by first | rfl | (dsimp only; omega), by first | rfl | (dsimp only; omega)⟩ ⟨by show 2 ≤ 8; omega, by show 12 ≤ 48; omega⟩ (q_an (fun H locs hP hS => ?_))
    refine q_nm (b := wnC S (10 + Int.toNat y1)) (((lv_0 h_P (by decide) trivial).trans (pcC_2 rfl))) ?_
    refine lv_istore (lv' := [(6, .int (i32 (wnC S (10 + Int.toNat y1)))), (5, .int (i32 (y2))), (4, .int (i32 (y1))), (0, .ref (ad 1 0)), (1, .ref (ad 3 1)), (2, .int (i32 (x))), (3, .int (i32 (y)))]) hx hb dL_weaves_23 hl (by decide) rfl (fun ls hl => ?_)
    by_cases h_A : 0 ≤ y2 ∧ y2 < S (10 + Int.toNat y1) 0 2
    · skip
      by_cases h_B : maC S (10 + Int.toNat y1) y2 ∧ tsC S (10 + Int.toNat y1) y2
      · skip
        obtain ⟨-, pw8, ph8, -⟩ := (hI.pp h_P).1
        have hwb8 := wnC_b S (10 + Int.toNat y1) (by omega) (by omega)
        refine lv_aload_n hx hb dL_weaves_25 rfl (lv_at hl 3 rfl) ?_
        refine lv_iload hx hb dL_weaves_26 (lv_at hl 2 rfl) ?_
        refine lv_iload hx hb dL_weaves_28 (lv_at hl 1 rfl) ?_
        have w9 := IV_weave hI h_P h_A h_B.1 h_B.2
        refine q_callH2 (As := [.ref (ad 1 0), .int (i32 (y1)), .int (i32 (y2))]) (rest := []) hx hb hml hl.1 hown hK hZ hP hS (c_L_weave l g base ad S y1 y2 hfl hI.wc ⟨by omega, by omega⟩ ⟨by omega, by omega⟩) t_534 t_14 t_536 t_535 f_yL_weave ⟨Nat.le_of_ble_eq_true rfl, Nat.le_of_ble_eq_true rfl⟩ rfl rfl (Nat.le_of_ble_eq_true rfl) dL_weaves_30 (c2 := 4) (s2 := 24) ⟨by first | rfl | (dsimp only; omega), by first | rfl | (dsimp only; omega)⟩ ⟨by show 4 ≤ 8; omega, by show 24 ≤ 48; omega⟩ (fun rr ad' S' H locs hQ hP hS => ?_)
        have hc9 : (peC S y1 ∧ (0 ≤ y2 ∧ y2 < S (10 + y1.toNat) 0 2)) ∧ (maC S (10 + y1.toNat) y2 ∧ tsC S (10 + y1.toNat) y2) ∧ (True) := ⟨⟨h_P, h_A⟩, h_B, trivial⟩
        obtain ⟨⟨hr9, ek9⟩, hQ⟩ := hQ
        have hs9 := (hQ.resolve_left (fun y9 => y9.1 hc9)).2
        subst hr9
        rw [ek9] at hP
        rw [hs9] at hP
        refine q_nm (b := S (10 + Int.toNat y1) 4 y2) ((lv_0 hc9.1 hc9.2.1 hc9.2.2).trans (rfl)) ?_
        generalize eS3 : wvS S (10 + y1.toNat) y2 = S3 at hP
        have rS3 : ∀ (a1 b1 : Nat) (i1 : Int), rng (S3 a1 b1 i1) := fun a1 b1 i1 => hP.rg a1 b1 i1
        have ivS3 : IV S3 := by rw [← eS3]; exact w9.1
        have h3S3 : ∀ (b1 : Nat) (i1 : Int), S3 3 b1 i1 = S 3 b1 i1 := by rw [← eS3]; exact fun b i => w9.2.1 3 b i (by omega) (by omega)
        rw [eS3] at w9
        obtain ⟨-, fr9, wlt9, wt0, wt1⟩ := w9
        have hp9 : peC S3 y1 := pe_k h_P (fr9 _ _ _ (by omega) (by omega))
        obtain ⟨-, pw9, ph9, -⟩ := (ivS3.pp hp9).1
        have hwb9 := wnC_b S3 (10 + Int.toNat y1) (by omega) (by omega)
        have eh9 : S3 (10 + Int.toNat y1) 0 1 = S (10 + Int.toNat y1) 0 1 := fr9 _ _ _ (by omega) (by omega)
        refine lv_istore (lv' := [(7, .int (i32 (S (10 + Int.toNat y1) 4 y2))), (6, .int (i32 (wnC S (10 + Int.toNat y1)))), (5, .int (i32 (y2))), (4, .int (i32 (y1))), (0, .ref (ad 1 0)), (1, .ref (ad 3 1)), (2, .int (i32 (x))), (3, .int (i32 (y)))]) hx hb dL_weaves_33 hl (by decide) rfl (fun ls hl => ?_)
        refine lv_aload_n hx hb dL_weaves_35 rfl (lv_at hl 4 rfl) ?_
        refine lv_iload hx hb dL_weaves_36 (lv_at hl 3 rfl) ?_
        refine lv_iconst (v := i32 (2)) hx hb dL_weaves_38 rfl ?_
        refine q_callH2 (As := [.ref (ad 1 0), .int (i32 (y1)), .int (i32 (2))]) (rest := []) hx hb hml hl.1 hown hK hZ hP hS (c_L_pieceIs l g base ad S3 y1 ((2 : Int)) hfl ivS3.wc ⟨by omega, by omega⟩ ⟨by decide, by decide⟩) t_266 t_14 t_268 t_267 f_yL_pieceIs ⟨Nat.le_of_ble_eq_true rfl, Nat.le_of_ble_eq_true rfl⟩ rfl rfl (Nat.le_of_ble_eq_true rfl) dL_weaves_39 (c2 := 6) (s2 := 36) ⟨by first | rfl | (dsimp only; omega), by first | rfl | (dsimp only; omega)⟩ ⟨by show 6 ≤ 8; omega, by show 36 ≤ 48; omega⟩ (q_an (fun H locs hP hS => ?_))
        refine q_nm (b := wnC S3 (10 + Int.toNat y1)) (((lv_0 hp9 (by decide) trivial).trans (pcC_2 rfl))) ?_
        refine lv_istore (lv' := [(8, .int (i32 (wnC S3 (10 + Int.toNat y1)))), (7, .int (i32 (S (10 + Int.toNat y1) 4 y2))), (6, .int (i32 (wnC S (10 + Int.toNat y1)))), (5, .int (i32 (y2))), (4, .int (i32 (y1))), (0, .ref (ad 1 0)), (1, .ref (ad 3 1)), (2, .int (i32 (x))), (3, .int (i32 (y)))]) hx hb dL_weaves_42 hl (by decide) rfl (fun ls hl => ?_)
        refine lv_iload hx hb dL_weaves_44 (lv_at hl 1 rfl) ?_
        refine q_ldc (z := -1000001) hx hb hown hK t_248 rfl dL_weaves_46 ?_
        refine q_icmp_eq (tgt := 58) hx hb (rS _ _ _) ⟨by decide, by decide⟩ dL_weaves_48 (by decide) (fun c_4 => (by exfalso; omega)) (fun c_4 => ?_)
        refine lv_iload hx hb dL_weaves_51 (lv_at hl 1 rfl) ?_
        refine q_ldc (z := -1000003) hx hb hown hK t_250 rfl dL_weaves_53 ?_
        refine q_icmp_ne (tgt := 73) hx hb (rS _ _ _) ⟨by decide, by decide⟩ dL_weaves_55 (by decide) (fun c_5 => ?_) (fun c_5 => (by exfalso; omega))
        refine lv_iload hx hb dL_weaves_73 (lv_at hl 1 rfl) ?_
        refine q_if_lt (tgt := 101) hx hb (rS _ _ _) dL_weaves_75 (by decide) (fun c_6 => (by exfalso; omega)) (fun c_6 => ?_)
        refine lv_iload hx hb dL_weaves_78 (lv_at hl 1 rfl) ?_
        refine lv_aload_n hx hb dL_weaves_80 rfl (lv_at hl 5 rfl) ?_
        refine lv_iload hx hb dL_weaves_81 (lv_at hl 4 rfl) ?_
        refine lv_iconst (v := i32 (1)) hx hb dL_weaves_83 rfl ?_
        refine q_callH2 (As := [.ref (ad 1 0), .int (i32 (y1)), .int (i32 (1))]) (rest := [.int (i32 (S (10 + Int.toNat y1) 4 y2))]) hx hb hml hl.1 hown hK hZ hP hS (c_L_pieceIs l g base ad S3 y1 ((1 : Int)) hfl ivS3.wc ⟨by omega, by omega⟩ ⟨by decide, by decide⟩) t_266 t_14 t_268 t_267 f_yL_pieceIs ⟨Nat.le_of_ble_eq_true rfl, Nat.le_of_ble_eq_true rfl⟩ rfl rfl (Nat.le_of_ble_eq_true rfl) dL_weaves_84 (c2 := 8) (s2 := 48) ⟨by first | rfl | (dsimp only; omega), by first | rfl | (dsimp only; omega)⟩ ⟨by show 8 ≤ 8; omega, by show 48 ≤ 48; omega⟩ (q_an (fun H locs hP hS => ?_))
        refine q_nm (b := S (10 + Int.toNat y1) 0 1) (((lv_0 hp9 (by decide) trivial).trans (pcC_1 rfl)).trans eh9) ?_
        refine q_icmp_ge (tgt := 101) hx hb (rS _ _ _) (rS _ _ _) dL_weaves_87 (by decide) (fun c_7 => (by exfalso; omega)) (fun c_7 => ?_)
        refine lv_iload hx hb dL_weaves_90 (lv_at hl 0 rfl) ?_
        refine lv_iload hx hb dL_weaves_92 (lv_at hl 2 rfl) ?_
        refine q_icmp_le (tgt := 101) hx hb ⟨by omega, by omega⟩ ⟨by omega, by omega⟩ dL_weaves_94 (by decide) (fun c_8 => (by exfalso; omega)) (fun c_8 => ?_)
        refine lv_iconst (v := i32 (1)) hx hb dL_weaves_97 rfl ?_
        refine lv_goto (tgt := 102) hx hb dL_weaves_98 (by decide) ?_
        subst hQm
        exact q_zret hx hb hr hlocks hP hS (v := 1) (by decide) (by exact ⟨⟨⟨rfl, (fun _ _ _ => rfl)⟩, ivS3, LV_p hV hI.k.1.2 (fun a b i h1 h2 => fr9 a b i h2 (by omega))⟩, fr9 _ _ _ (by omega) (by omega)⟩) (by show 8 ≤ 8; omega) (by show 48 ≤ 48; omega) dL_weaves_102
      · skip
        obtain ⟨-, pw8, ph8, -⟩ := (hI.pp h_P).1
        have hwb8 := wnC_b S (10 + Int.toNat y1) (by omega) (by omega)
        refine lv_aload_n hx hb dL_weaves_25 rfl (lv_at hl 3 rfl) ?_
        refine lv_iload hx hb dL_weaves_26 (lv_at hl 2 rfl) ?_
        refine lv_iload hx hb dL_weaves_28 (lv_at hl 1 rfl) ?_
        refine q_callH2 (As := [.ref (ad 1 0), .int (i32 (y1)), .int (i32 (y2))]) (rest := []) hx hb hml hl.1 hown hK hZ hP hS (c_L_weave l g base ad S y1 y2 hfl hI.wc ⟨by omega, by omega⟩ ⟨by omega, by omega⟩) t_534 t_14 t_536 t_535 f_yL_weave ⟨Nat.le_of_ble_eq_true rfl, Nat.le_of_ble_eq_true rfl⟩ rfl rfl (Nat.le_of_ble_eq_true rfl) dL_weaves_30 (c2 := 4) (s2 := 24) ⟨by first | rfl | (dsimp only; omega), by first | rfl | (dsimp only; omega)⟩ ⟨by show 4 ≤ 8; omega, by show 24 ≤ 48; omega⟩ (fun rr ad' S' H locs hQ hP hS => ?_)
        obtain ⟨⟨hr9, ek9⟩, hQ⟩ := hQ
        have hc9_1 : peC S y1 ∧ (0 ≤ y2 ∧ y2 < S (10 + y1.toNat) 0 2) := ⟨h_P, h_A⟩
        have hc9_2 : ¬ (maC S (10 + y1.toNat) y2 ∧ tsC S (10 + y1.toNat) y2) := h_B
        have hs9 := (hQ.resolve_right (fun y9 => hc9_2 y9.1.2.1)).2
        subst hr9
        rw [ek9] at hP
        rw [hs9] at hP
        refine q_nm (lv_2 hc9_1 hc9_2) ?_
        refine lv_istore (lv' := [(7, .int (i32 (-1000003))), (6, .int (i32 (wnC S (10 + Int.toNat y1)))), (5, .int (i32 (y2))), (4, .int (i32 (y1))), (0, .ref (ad 1 0)), (1, .ref (ad 3 1)), (2, .int (i32 (x))), (3, .int (i32 (y)))]) hx hb dL_weaves_33 hl (by decide) rfl (fun ls hl => ?_)
        refine lv_aload_n hx hb dL_weaves_35 rfl (lv_at hl 4 rfl) ?_
        refine lv_iload hx hb dL_weaves_36 (lv_at hl 3 rfl) ?_
        refine lv_iconst (v := i32 (2)) hx hb dL_weaves_38 rfl ?_
        refine q_callH2 (As := [.ref (ad 1 0), .int (i32 (y1)), .int (i32 (2))]) (rest := []) hx hb hml hl.1 hown hK hZ hP hS (c_L_pieceIs l g base ad S y1 ((2 : Int)) hfl hI.wc ⟨by omega, by omega⟩ ⟨by decide, by decide⟩) t_266 t_14 t_268 t_267 f_yL_pieceIs ⟨Nat.le_of_ble_eq_true rfl, Nat.le_of_ble_eq_true rfl⟩ rfl rfl (Nat.le_of_ble_eq_true rfl) dL_weaves_39 (c2 := 6) (s2 := 36) ⟨by first | rfl | (dsimp only; omega), by first | rfl | (dsimp only; omega)⟩ ⟨by show 6 ≤ 8; omega, by show 36 ≤ 48; omega⟩ (q_an (fun H locs hP hS => ?_))
        refine q_nm (b := wnC S (10 + Int.toNat y1)) (((lv_0 h_P (by decide) trivial).trans (pcC_2 rfl))) ?_
        refine lv_istore (lv' := [(8, .int (i32 (wnC S (10 + Int.toNat y1)))), (7, .int (i32 (-1000003))), (6, .int (i32 (wnC S (10 + Int.toNat y1)))), (5, .int (i32 (y2))), (4, .int (i32 (y1))), (0, .ref (ad 1 0)), (1, .ref (ad 3 1)), (2, .int (i32 (x))), (3, .int (i32 (y)))]) hx hb dL_weaves_42 hl (by decide) rfl (fun ls hl => ?_)
        refine lv_iload hx hb dL_weaves_44 (lv_at hl 1 rfl) ?_
        refine q_ldc (z := -1000001) hx hb hown hK t_248 rfl dL_weaves_46 ?_
        refine q_icmp_eq (tgt := 58) hx hb ⟨by decide, by decide⟩ ⟨by decide, by decide⟩ dL_weaves_48 (by decide) (fun c_9 => (by exfalso; omega)) (fun c_9 => ?_)
        refine lv_iload hx hb dL_weaves_51 (lv_at hl 1 rfl) ?_
        refine q_ldc (z := -1000003) hx hb hown hK t_250 rfl dL_weaves_53 ?_
        refine q_icmp_ne (tgt := 73) hx hb ⟨by decide, by decide⟩ ⟨by decide, by decide⟩ dL_weaves_55 (by decide) (fun c_10 => (by exfalso; omega)) (fun c_10 => ?_)
        refine lv_iload hx hb dL_weaves_58 (lv_at hl 0 rfl) ?_
        refine lv_iload hx hb dL_weaves_60 (lv_at hl 2 rfl) ?_
        refine q_icmp_ne (tgt := 69) hx hb ⟨by omega, by omega⟩ ⟨by omega, by omega⟩ dL_weaves_62 (by decide) (fun c_11 => (by exfalso; omega)) (fun c_11 => ?_)
        refine lv_iconst (v := i32 (1)) hx hb dL_weaves_65 rfl ?_
        refine lv_goto (tgt := 102) hx hb dL_weaves_66 (by decide) ?_
        subst hQm
        exact q_zret hx hb hr hlocks hP hS (v := 1) (by decide) (by exact ⟨⟨⟨rfl, (fun _ _ _ => rfl)⟩, hI, hV⟩, rfl⟩) (by show 6 ≤ 8; omega) (by show 36 ≤ 48; omega) dL_weaves_102
    · skip
      obtain ⟨-, pw8, ph8, -⟩ := (hI.pp h_P).1
      have hwb8 := wnC_b S (10 + Int.toNat y1) (by omega) (by omega)
      refine lv_aload_n hx hb dL_weaves_25 rfl (lv_at hl 3 rfl) ?_
      refine lv_iload hx hb dL_weaves_26 (lv_at hl 2 rfl) ?_
      refine lv_iload hx hb dL_weaves_28 (lv_at hl 1 rfl) ?_
      refine q_callH2 (As := [.ref (ad 1 0), .int (i32 (y1)), .int (i32 (y2))]) (rest := []) hx hb hml hl.1 hown hK hZ hP hS (c_L_weave l g base ad S y1 y2 hfl hI.wc ⟨by omega, by omega⟩ ⟨by omega, by omega⟩) t_534 t_14 t_536 t_535 f_yL_weave ⟨Nat.le_of_ble_eq_true rfl, Nat.le_of_ble_eq_true rfl⟩ rfl rfl (Nat.le_of_ble_eq_true rfl) dL_weaves_30 (c2 := 4) (s2 := 24) ⟨by first | rfl | (dsimp only; omega), by first | rfl | (dsimp only; omega)⟩ ⟨by show 4 ≤ 8; omega, by show 24 ≤ 48; omega⟩ (fun rr ad' S' H locs hQ hP hS => ?_)
      obtain ⟨⟨hr9, ek9⟩, hQ⟩ := hQ
      have hc9_1 : ¬ (peC S y1 ∧ (0 ≤ y2 ∧ y2 < S (10 + y1.toNat) 0 2)) := fun y => h_A y.2
      have hs9 := (hQ.resolve_right (fun y9 => hc9_1 y9.1.1)).2
      subst hr9
      rw [ek9] at hP
      rw [hs9] at hP
      refine q_nm (lv_1 hc9_1) ?_
      refine lv_istore (lv' := [(7, .int (i32 (-1000001))), (6, .int (i32 (wnC S (10 + Int.toNat y1)))), (5, .int (i32 (y2))), (4, .int (i32 (y1))), (0, .ref (ad 1 0)), (1, .ref (ad 3 1)), (2, .int (i32 (x))), (3, .int (i32 (y)))]) hx hb dL_weaves_33 hl (by decide) rfl (fun ls hl => ?_)
      refine lv_aload_n hx hb dL_weaves_35 rfl (lv_at hl 4 rfl) ?_
      refine lv_iload hx hb dL_weaves_36 (lv_at hl 3 rfl) ?_
      refine lv_iconst (v := i32 (2)) hx hb dL_weaves_38 rfl ?_
      refine q_callH2 (As := [.ref (ad 1 0), .int (i32 (y1)), .int (i32 (2))]) (rest := []) hx hb hml hl.1 hown hK hZ hP hS (c_L_pieceIs l g base ad S y1 ((2 : Int)) hfl hI.wc ⟨by omega, by omega⟩ ⟨by decide, by decide⟩) t_266 t_14 t_268 t_267 f_yL_pieceIs ⟨Nat.le_of_ble_eq_true rfl, Nat.le_of_ble_eq_true rfl⟩ rfl rfl (Nat.le_of_ble_eq_true rfl) dL_weaves_39 (c2 := 6) (s2 := 36) ⟨by first | rfl | (dsimp only; omega), by first | rfl | (dsimp only; omega)⟩ ⟨by show 6 ≤ 8; omega, by show 36 ≤ 48; omega⟩ (q_an (fun H locs hP hS => ?_))
      refine q_nm (b := wnC S (10 + Int.toNat y1)) (((lv_0 h_P (by decide) trivial).trans (pcC_2 rfl))) ?_
      refine lv_istore (lv' := [(8, .int (i32 (wnC S (10 + Int.toNat y1)))), (7, .int (i32 (-1000001))), (6, .int (i32 (wnC S (10 + Int.toNat y1)))), (5, .int (i32 (y2))), (4, .int (i32 (y1))), (0, .ref (ad 1 0)), (1, .ref (ad 3 1)), (2, .int (i32 (x))), (3, .int (i32 (y)))]) hx hb dL_weaves_42 hl (by decide) rfl (fun ls hl => ?_)
      refine lv_iload hx hb dL_weaves_44 (lv_at hl 1 rfl) ?_
      refine q_ldc (z := -1000001) hx hb hown hK t_248 rfl dL_weaves_46 ?_
      refine q_icmp_eq (tgt := 58) hx hb ⟨by decide, by decide⟩ ⟨by decide, by decide⟩ dL_weaves_48 (by decide) (fun c_12 => ?_) (fun c_12 => (by exfalso; omega))
      refine lv_iload hx hb dL_weaves_58 (lv_at hl 0 rfl) ?_
      refine lv_iload hx hb dL_weaves_60 (lv_at hl 2 rfl) ?_
      refine q_icmp_ne (tgt := 69) hx hb ⟨by omega, by omega⟩ ⟨by omega, by omega⟩ dL_weaves_62 (by decide) (fun c_13 => (by exfalso; omega)) (fun c_13 => ?_)
      refine lv_iconst (v := i32 (1)) hx hb dL_weaves_65 rfl ?_
      refine lv_goto (tgt := 102) hx hb dL_weaves_66 (by decide) ?_
      subst hQm
      exact q_zret hx hb hr hlocks hP hS (v := 1) (by decide) (by exact ⟨⟨⟨rfl, (fun _ _ _ => rfl)⟩, hI, hV⟩, rfl⟩) (by show 6 ≤ 8; omega) (by show 36 ≤ 48; omega) dL_weaves_102
  · skip
    refine lv_aload_n hx hb dL_weaves_16 rfl (lv_at hl 2 rfl) ?_
    refine lv_iload hx hb dL_weaves_17 (lv_at hl 1 rfl) ?_
    refine lv_iconst (v := i32 (2)) hx hb dL_weaves_19 rfl ?_
    refine q_callH2 (As := [.ref (ad 1 0), .int (i32 (y1)), .int (i32 (2))]) (rest := []) hx hb hml hl.1 hown hK hZ hP hS (c_L_pieceIs l g base ad S y1 ((2 : Int)) hfl hI.wc ⟨by omega, by omega⟩ ⟨by decide, by decide⟩) t_266 t_14 t_268 t_267 f_yL_pieceIs ⟨Nat.le_of_ble_eq_true rfl, Nat.le_of_ble_eq_true rfl⟩ rfl rfl (Nat.le_of_ble_eq_true rfl) dL_weaves_20 (c2 := 2) (s2 := 12) ⟨by first | rfl | (dsimp only; omega), by first | rfl | (dsimp only; omega)⟩ ⟨by show 2 ≤ 8; omega, by show 12 ≤ 48; omega⟩ (q_an (fun H locs hP hS => ?_))
    refine q_nm (b := -1000001) (lv_1 h_P) ?_
    refine lv_istore (lv' := [(6, .int (i32 (-1000001))), (5, .int (i32 (y2))), (4, .int (i32 (y1))), (0, .ref (ad 1 0)), (1, .ref (ad 3 1)), (2, .int (i32 (x))), (3, .int (i32 (y)))]) hx hb dL_weaves_23 hl (by decide) rfl (fun ls hl => ?_)
    refine lv_aload_n hx hb dL_weaves_25 rfl (lv_at hl 3 rfl) ?_
    refine lv_iload hx hb dL_weaves_26 (lv_at hl 2 rfl) ?_
    refine lv_iload hx hb dL_weaves_28 (lv_at hl 1 rfl) ?_
    refine q_callH2 (As := [.ref (ad 1 0), .int (i32 (y1)), .int (i32 (y2))]) (rest := []) hx hb hml hl.1 hown hK hZ hP hS (c_L_weave l g base ad S y1 y2 hfl hI.wc ⟨by omega, by omega⟩ ⟨by omega, by omega⟩) t_534 t_14 t_536 t_535 f_yL_weave ⟨Nat.le_of_ble_eq_true rfl, Nat.le_of_ble_eq_true rfl⟩ rfl rfl (Nat.le_of_ble_eq_true rfl) dL_weaves_30 (c2 := 4) (s2 := 24) ⟨by first | rfl | (dsimp only; omega), by first | rfl | (dsimp only; omega)⟩ ⟨by show 4 ≤ 8; omega, by show 24 ≤ 48; omega⟩ (fun rr ad' S' H locs hQ hP hS => ?_)
    obtain ⟨⟨hr9, ek9⟩, hQ⟩ := hQ
    have hc9_1 : ¬ (peC S y1 ∧ (0 ≤ y2 ∧ y2 < S (10 + y1.toNat) 0 2)) := fun y => h_P y.1
    have hs9 := (hQ.resolve_right (fun y9 => hc9_1 y9.1.1)).2
    subst hr9
    rw [ek9] at hP
    rw [hs9] at hP
    refine q_nm (lv_1 hc9_1) ?_
    refine lv_istore (lv' := [(7, .int (i32 (-1000001))), (6, .int (i32 (-1000001))), (5, .int (i32 (y2))), (4, .int (i32 (y1))), (0, .ref (ad 1 0)), (1, .ref (ad 3 1)), (2, .int (i32 (x))), (3, .int (i32 (y)))]) hx hb dL_weaves_33 hl (by decide) rfl (fun ls hl => ?_)
    refine lv_aload_n hx hb dL_weaves_35 rfl (lv_at hl 4 rfl) ?_
    refine lv_iload hx hb dL_weaves_36 (lv_at hl 3 rfl) ?_
    refine lv_iconst (v := i32 (2)) hx hb dL_weaves_38 rfl ?_
    refine q_callH2 (As := [.ref (ad 1 0), .int (i32 (y1)), .int (i32 (2))]) (rest := []) hx hb hml hl.1 hown hK hZ hP hS (c_L_pieceIs l g base ad S y1 ((2 : Int)) hfl hI.wc ⟨by omega, by omega⟩ ⟨by decide, by decide⟩) t_266 t_14 t_268 t_267 f_yL_pieceIs ⟨Nat.le_of_ble_eq_true rfl, Nat.le_of_ble_eq_true rfl⟩ rfl rfl (Nat.le_of_ble_eq_true rfl) dL_weaves_39 (c2 := 6) (s2 := 36) ⟨by first | rfl | (dsimp only; omega), by first | rfl | (dsimp only; omega)⟩ ⟨by show 6 ≤ 8; omega, by show 36 ≤ 48; omega⟩ (q_an (fun H locs hP hS => ?_))
    refine q_nm (b := -1000001) (lv_1 h_P) ?_
    refine lv_istore (lv' := [(8, .int (i32 (-1000001))), (7, .int (i32 (-1000001))), (6, .int (i32 (-1000001))), (5, .int (i32 (y2))), (4, .int (i32 (y1))), (0, .ref (ad 1 0)), (1, .ref (ad 3 1)), (2, .int (i32 (x))), (3, .int (i32 (y)))]) hx hb dL_weaves_42 hl (by decide) rfl (fun ls hl => ?_)
    refine lv_iload hx hb dL_weaves_44 (lv_at hl 1 rfl) ?_
    refine q_ldc (z := -1000001) hx hb hown hK t_248 rfl dL_weaves_46 ?_
    refine q_icmp_eq (tgt := 58) hx hb ⟨by decide, by decide⟩ ⟨by decide, by decide⟩ dL_weaves_48 (by decide) (fun c_14 => ?_) (fun c_14 => (by exfalso; omega))
    refine lv_iload hx hb dL_weaves_58 (lv_at hl 0 rfl) ?_
    refine lv_iload hx hb dL_weaves_60 (lv_at hl 2 rfl) ?_
    refine q_icmp_ne (tgt := 69) hx hb ⟨by decide, by decide⟩ ⟨by decide, by decide⟩ dL_weaves_62 (by decide) (fun h => by first | exact absurd c_14 h | exact absurd h c_14 | omega) (fun _ => ?_)
    refine lv_iconst (v := i32 (1)) hx hb dL_weaves_65 rfl ?_
    refine lv_goto (tgt := 102) hx hb dL_weaves_66 (by decide) ?_
    subst hQm
    exact q_zret hx hb hr hlocks hP hS (v := 1) (by decide) (by exact ⟨⟨⟨rfl, (fun _ _ _ => rfl)⟩, hI, hV⟩, rfl⟩) (by show 6 ≤ 8; omega) (by show 36 ≤ 48; omega) dL_weaves_102

set_option maxHeartbeats 4000000 in
set_option maxRecDepth 100000 in
theorem c_L_wears (l : Launch) (g : GT) (base : Nat) (ad : Nat → Nat → Nat) (S : St) (x t y : Int) (hfl : l.stackTraces = false) (hI : IV S) (hV : LV S) (hpx : peC S x) (hrn : rng x) (hrn2 : rng t) (hrn3 : rng y) : Met l yL_wears [Cond.code yL_wears cL_wears 7 (some FieldType.boolean)] ({ frames := 9, cells := 8, slots := 48, locals := 158 }) (va_Pc [.ref (ad 1 0), .ref (ad 3 4), .int (i32 (x)), .int (i32 (t)), .int (i32 (y))] (PK g base ad S)) (gQ g base (lmP ad)) 8 48 (fun q => base ≤ q) := by
  refine mk_m (own := RL) (lv0 := [(0, .ref (ad 1 0)), (1, .ref (ad 3 4)), (2, .int (i32 (x))), (3, .int (i32 (t))), (4, .int (i32 (y)))]) (by decide) rfl (Nat.le_of_ble_eq_true rfl) rfl ?_
  intro p e s m below meth cz av Qm hx hb hr hml hown hlocks hK hZ hP hQm ls hl
  have hS : va_S (fun q => base ≤ q) s.heap s.heap [] := va_S.rf
  have rS : ∀ (a1 b1 : Nat) (i1 : Int), rng (S a1 b1 i1) := fun a1 b1 i1 => hP.rg a1 b1 i1
  have hsb := sh_b (hI.pp hpx)
  obtain ⟨hx0, hx1, -⟩ := id hpx
  refine lv_aload_n hx hb dL_wears_0 rfl (lv_at hl 0 rfl) ?_
  refine lv_iload_n hx hb dL_wears_1 rfl (lv_at hl 2 rfl) ?_
  refine lv_iconst (v := i32 (5)) hx hb dL_wears_2 rfl ?_
  refine q_callH2 (As := [.ref (ad 1 0), .int (i32 (x)), .int (i32 (5))]) (rest := []) hx hb hml hl.1 hown hK hZ hP hS (c_L_pieceIs l g base ad S x ((5 : Int)) hfl hI.wc hrn ⟨by decide, by decide⟩) t_266 t_14 t_268 t_267 f_yL_pieceIs ⟨Nat.le_of_ble_eq_true rfl, Nat.le_of_ble_eq_true rfl⟩ rfl rfl (Nat.le_of_ble_eq_true rfl) dL_wears_3 (c2 := 2) (s2 := 12) ⟨by first | rfl | (dsimp only; omega), by first | rfl | (dsimp only; omega)⟩ ⟨by show 2 ≤ 8; omega, by show 12 ≤ 48; omega⟩ (q_an (fun H locs hP hS => ?_))
  refine q_nm (b := shC S (10 + x.toNat)) (((lv_0 hpx (by decide) trivial).trans (pcC_5 rfl))) ?_
  refine lv_istore (lv' := [(5, .int (i32 (shC S (10 + x.toNat)))), (0, .ref (ad 1 0)), (1, .ref (ad 3 4)), (2, .int (i32 (x))), (3, .int (i32 (t))), (4, .int (i32 (y)))]) hx hb dL_wears_6 hl (by decide) rfl (fun ls hl => ?_)
  refine lv_iload_n hx hb dL_wears_8 rfl (lv_at hl 4 rfl) ?_
  refine lv_iconst (v := i32 (2)) hx hb dL_wears_9 rfl ?_
  refine q_callS2 (As := [.int (i32 (t)), .int (i32 (2))]) (rest := []) hx hb hml hl.1 hown hK hZ hP hS (c_L_low l g base ad S t ((2 : Int)) hrn2 (by omega)) t_122 (q_callB hK 121 14 123 t_121 t_14 t_123 f_yL_low ⟨Nat.le_of_ble_eq_true rfl, Nat.le_of_ble_eq_true rfl⟩) rfl rfl (Nat.le_of_ble_eq_true rfl) dL_wears_10 (c2 := 2) (s2 := 12) ⟨by first | rfl | (dsimp only; omega), by first | rfl | (dsimp only; omega)⟩ ⟨by show 2 ≤ 8; omega, by show 12 ≤ 48; omega⟩ (q_an (fun H locs hP hS => ?_))
  obtain ⟨y1, hy1⟩ : ∃ y99 : Int, loF t ((2 : Int)) = y99 := ⟨_, rfl⟩
  have by1 := lo_b t (show 1 ≤ ((2 : Int)) by omega)
  rw [hy1] at by1
  refine q_nm hy1 ?_
  refine q_if_ne (tgt := 34) hx hb ⟨by omega, by omega⟩ dL_wears_13 (by decide) (fun c_2 => ?_) (fun c_2 => ?_)
  · -- y1 ≠ 0
    by_cases h_D : dnC S (10 + x.toNat)
    · skip
      refine lv_aload_n hx hb dL_wears_34 rfl (lv_at hl 1 rfl) ?_
      refine lv_iload_n hx hb dL_wears_35 rfl (lv_at hl 3 rfl) ?_
      obtain ⟨sv, hsv⟩ : ∃ sv : Int, shC (waS S (10 + x.toNat)) (10 + x.toNat) = sv := ⟨_, rfl⟩
      have w9 := wa_7 hI hpx
      refine q_callH2 (As := [.ref (ad 1 0), .int (i32 (x))]) (rest := []) hx hb hml hl.1 hown hK hZ hP hS (c_L_wash l g base ad S x hfl hI.wc hrn) t_630 t_14 t_632 t_631 f_yL_wash ⟨Nat.le_of_ble_eq_true rfl, Nat.le_of_ble_eq_true rfl⟩ rfl rfl (Nat.le_of_ble_eq_true rfl) dL_wears_36 (c2 := 4) (s2 := 24) ⟨by first | rfl | (dsimp only; omega), by first | rfl | (dsimp only; omega)⟩ ⟨by show 4 ≤ 8; omega, by show 24 ≤ 48; omega⟩ (fun rr ad' S' H locs hQ hP hS => ?_)
      have hc9 : (peC S x) ∧ (dnC S (10 + x.toNat)) ∧ (True) := ⟨hpx, h_D, trivial⟩
      obtain ⟨⟨hr9, ek9⟩, hQ⟩ := hQ
      have hs9 := (hQ.resolve_left (fun y9 => y9.1 hc9)).2
      subst hr9
      rw [ek9] at hP
      rw [hs9] at hP
      refine q_nm (b := sv) ((lv_0 hc9.1 hc9.2.1 hc9.2.2).trans (hsv)) ?_
      generalize eS3 : waS S (10 + x.toNat) = S3 at hP
      have rS3 : ∀ (a1 b1 : Nat) (i1 : Int), rng (S3 a1 b1 i1) := fun a1 b1 i1 => hP.rg a1 b1 i1
      have ivS3 : IV S3 := by rw [← eS3]; exact IV_wash hI hpx
      have h3S3 : ∀ (b1 : Nat) (i1 : Int), S3 3 b1 i1 = S 3 b1 i1 := by rw [← eS3]; exact fun b i => w9.1 3 b i (by omega)
      rw [eS3] at w9 hsv
      obtain ⟨fr9, f79⟩ := w9
      have hp9 : peC S3 x := pe_k hpx (fr9 _ _ _ (by omega))
      have hsb9 := sh_7 (S' := S3) (hI.pp hpx) (fun b i b7 b9 => fr9 _ _ _ (by omega)) f79
      have hd9 : dnC S3 (10 + x.toNat) := (dn_7 (S := S) (fun b i b7 b9 => fr9 _ _ _ (by omega))).mpr h_D
      rw [hsv] at hsb9
      refine lv_istore (lv' := [(6, .int (i32 (sv))), (5, .int (i32 (shC S (10 + x.toNat)))), (0, .ref (ad 1 0)), (1, .ref (ad 3 4)), (2, .int (i32 (x))), (3, .int (i32 (t))), (4, .int (i32 (y)))]) hx hb dL_wears_39 hl (by decide) rfl (fun ls hl => ?_)
      refine lv_aload_n hx hb dL_wears_41 rfl (lv_at hl 2 rfl) ?_
      refine lv_iload_n hx hb dL_wears_42 rfl (lv_at hl 4 rfl) ?_
      refine lv_iconst (v := i32 (3)) hx hb dL_wears_43 rfl ?_
      refine q_callH2 (As := [.ref (ad 1 0), .int (i32 (x)), .int (i32 (3))]) (rest := []) hx hb hml hl.1 hown hK hZ hP hS (c_L_pieceIs l g base ad S3 x ((3 : Int)) hfl ivS3.wc hrn ⟨by decide, by decide⟩) t_266 t_14 t_268 t_267 f_yL_pieceIs ⟨Nat.le_of_ble_eq_true rfl, Nat.le_of_ble_eq_true rfl⟩ rfl rfl (Nat.le_of_ble_eq_true rfl) dL_wears_44 (c2 := 6) (s2 := 36) ⟨by first | rfl | (dsimp only; omega), by first | rfl | (dsimp only; omega)⟩ ⟨by show 6 ≤ 8; omega, by show 36 ≤ 48; omega⟩ (q_an (fun H locs hP hS => ?_))
      refine q_nm (b := 1) (((lv_0 hp9 (by decide) trivial).trans (pcC_3 rfl)).trans (b2_t hd9)) ?_
      refine q_if_ne (tgt := 74) hx hb ⟨by decide, by decide⟩ dL_wears_47 (by decide) (fun _ => ?_) (fun h => by omega)
      refine lv_aload_n hx hb dL_wears_74 rfl (lv_at hl 3 rfl) ?_
      refine lv_iload_n hx hb dL_wears_75 rfl (lv_at hl 4 rfl) ?_
      refine lv_iload hx hb dL_wears_76 (lv_at hl 0 rfl) ?_
      refine p_iast (k := 3) (r := 4) (n := 20) hx hb hK hP hS ivS3.a.2.2 rfl rfl (by decide) (by decide) (by omega) (by omega) ⟨by omega, by omega⟩ dL_wears_78 (fun H locs hP hS => ?_)
      generalize eS4 : st S3 3 4 x sv = S4 at hP
      have qS4 : ∀ (a1 b1 : Nat) (i1 : Int), S4 a1 b1 i1 = if a1 = 3 ∧ b1 = 4 ∧ i1 = x then sv else S3 a1 b1 i1 := fun a1 b1 i1 => by rw [← eS4]; exact st_at _ _ _ _ _ _ _ _
      have rS4 : ∀ (a1 b1 : Nat) (i1 : Int), rng (S4 a1 b1 i1) := fun a1 b1 i1 => hP.rg a1 b1 i1
      have aS4_1 : S4 1 0 (-1) = 1 := by rw [qS4, if_neg (by omega)]; exact ivS3.a.1
      have aS4_2 : S4 2 0 (-1) = 1 := by rw [qS4, if_neg (by omega)]; exact ivS3.a.2.1
      have aS4_3 : S4 3 0 (-1) = 1 := by rw [qS4, if_neg (by omega)]; exact ivS3.a.2.2
      have ivS4 : IV S4 := by rw [← eS4]; exact IV_3 ivS3 (by decide)
      refine lv_iload hx hb dL_wears_79 (lv_at hl 0 rfl) ?_
      refine q_if_lt (tgt := 106) hx hb ⟨by omega, by omega⟩ dL_wears_81 (by decide) (fun c_5 => (by exfalso; omega)) (fun c_5 => ?_)
      refine lv_iload hx hb dL_wears_84 (lv_at hl 0 rfl) ?_
      refine lv_iload hx hb dL_wears_86 (lv_at hl 1 rfl) ?_
      refine q_icmp_gt (tgt := 106) hx hb ⟨by omega, by omega⟩ ⟨by omega, by omega⟩ dL_wears_88 (by decide) (fun c_6 => (by exfalso; omega)) (fun c_6 => ?_)
      refine lv_iload hx hb dL_wears_91 (lv_at hl 0 rfl) ?_
      refine lv_aload_n hx hb dL_wears_93 rfl (lv_at hl 2 rfl) ?_
      refine lv_iload_n hx hb dL_wears_94 rfl (lv_at hl 4 rfl) ?_
      refine lv_iconst (v := i32 (5)) hx hb dL_wears_95 rfl ?_
      have hp8 : peC S4 x := pe_k hp9 (by rw [qS4, if_neg (by omega)])
      have hs8 : shC S4 (10 + x.toNat) = sv := by rw [← hsv]; unfold shC; rw [s2_ss, s2_ss, show S4 (10 + x.toNat) = S3 (10 + x.toNat) from fe (fun b i => by rw [qS4, if_neg (by omega)])]
      refine q_callH2 (As := [.ref (ad 1 0), .int (i32 (x)), .int (i32 (5))]) (rest := [.int (i32 (sv))]) hx hb hml hl.1 hown hK hZ hP hS (c_L_pieceIs l g base ad S4 x ((5 : Int)) hfl ivS4.wc hrn ⟨by decide, by decide⟩) t_266 t_14 t_268 t_267 f_yL_pieceIs ⟨Nat.le_of_ble_eq_true rfl, Nat.le_of_ble_eq_true rfl⟩ rfl rfl (Nat.le_of_ble_eq_true rfl) dL_wears_96 (c2 := 8) (s2 := 48) ⟨by first | rfl | (dsimp only; omega), by first | rfl | (dsimp only; omega)⟩ ⟨by show 8 ≤ 8; omega, by show 48 ≤ 48; omega⟩ (q_an (fun H locs hP hS => ?_))
      refine q_nm (b := sv) (((lv_0 hp8 (by decide) trivial).trans (pcC_5 rfl)).trans hs8) ?_
      refine q_icmp_ne (tgt := 106) hx hb ⟨by omega, by omega⟩ ⟨by omega, by omega⟩ dL_wears_99 (by decide) (fun c_7 => (by exfalso; omega)) (fun c_7 => ?_)
      refine lv_iconst (v := i32 (1)) hx hb dL_wears_102 rfl ?_
      refine lv_goto (tgt := 107) hx hb dL_wears_103 (by decide) ?_
      subst hQm
      exact q_zret hx hb hr hlocks hP hS (v := 1) (by decide) (by exact ⟨⟨rfl, (fun _ _ _ => rfl)⟩, ivS4, by rw [← eS4]; exact LV_4 (LV_p hV hI.k.1.2 (fun a b i h1 h2 => fr9 a b i (by omega)))⟩) (by show 8 ≤ 8; omega) (by show 48 ≤ 48; omega) dL_wears_107
    · skip
      refine lv_aload_n hx hb dL_wears_34 rfl (lv_at hl 1 rfl) ?_
      refine lv_iload_n hx hb dL_wears_35 rfl (lv_at hl 3 rfl) ?_
      refine q_callH2 (As := [.ref (ad 1 0), .int (i32 (x))]) (rest := []) hx hb hml hl.1 hown hK hZ hP hS (c_L_wash l g base ad S x hfl hI.wc hrn) t_630 t_14 t_632 t_631 f_yL_wash ⟨Nat.le_of_ble_eq_true rfl, Nat.le_of_ble_eq_true rfl⟩ rfl rfl (Nat.le_of_ble_eq_true rfl) dL_wears_36 (c2 := 4) (s2 := 24) ⟨by first | rfl | (dsimp only; omega), by first | rfl | (dsimp only; omega)⟩ ⟨by show 4 ≤ 8; omega, by show 24 ≤ 48; omega⟩ (fun rr ad' S' H locs hQ hP hS => ?_)
      obtain ⟨⟨hr9, ek9⟩, hQ⟩ := hQ
      have hc9_1 : peC S x := hpx
      have hc9_2 : ¬ (dnC S (10 + x.toNat)) := h_D
      have hs9 := (hQ.resolve_right (fun y9 => hc9_2 y9.1.2.1)).2
      subst hr9
      rw [ek9] at hP
      rw [hs9] at hP
      refine q_nm (lv_2 hc9_1 hc9_2) ?_
      refine lv_istore (lv' := [(6, .int (i32 (-1000003))), (5, .int (i32 (shC S (10 + x.toNat)))), (0, .ref (ad 1 0)), (1, .ref (ad 3 4)), (2, .int (i32 (x))), (3, .int (i32 (t))), (4, .int (i32 (y)))]) hx hb dL_wears_39 hl (by decide) rfl (fun ls hl => ?_)
      refine lv_aload_n hx hb dL_wears_41 rfl (lv_at hl 2 rfl) ?_
      refine lv_iload_n hx hb dL_wears_42 rfl (lv_at hl 4 rfl) ?_
      refine lv_iconst (v := i32 (3)) hx hb dL_wears_43 rfl ?_
      refine q_callH2 (As := [.ref (ad 1 0), .int (i32 (x)), .int (i32 (3))]) (rest := []) hx hb hml hl.1 hown hK hZ hP hS (c_L_pieceIs l g base ad S x ((3 : Int)) hfl hI.wc hrn ⟨by decide, by decide⟩) t_266 t_14 t_268 t_267 f_yL_pieceIs ⟨Nat.le_of_ble_eq_true rfl, Nat.le_of_ble_eq_true rfl⟩ rfl rfl (Nat.le_of_ble_eq_true rfl) dL_wears_44 (c2 := 6) (s2 := 36) ⟨by first | rfl | (dsimp only; omega), by first | rfl | (dsimp only; omega)⟩ ⟨by show 6 ≤ 8; omega, by show 36 ≤ 48; omega⟩ (q_an (fun H locs hP hS => ?_))
      refine q_nm (b := 0) (((lv_0 hpx (by decide) trivial).trans (pcC_3 rfl)).trans (b2_f h_D)) ?_
      refine q_if_ne (tgt := 74) hx hb ⟨by decide, by decide⟩ dL_wears_47 (by decide) (fun h => by omega) (fun _ => ?_)
      refine lv_iload hx hb dL_wears_50 (lv_at hl 0 rfl) ?_
      refine q_ldc (z := -1000003) hx hb hown hK t_250 rfl dL_wears_52 ?_
      refine q_icmp_ne (tgt := 72) hx hb ⟨by decide, by decide⟩ ⟨by decide, by decide⟩ dL_wears_54 (by decide) (fun c_8 => (by exfalso; omega)) (fun c_8 => ?_)
      refine lv_aload_n hx hb dL_wears_57 rfl (lv_at hl 2 rfl) ?_
      refine lv_iload_n hx hb dL_wears_58 rfl (lv_at hl 4 rfl) ?_
      refine lv_iconst (v := i32 (5)) hx hb dL_wears_59 rfl ?_
      refine q_callH2 (As := [.ref (ad 1 0), .int (i32 (x)), .int (i32 (5))]) (rest := []) hx hb hml hl.1 hown hK hZ hP hS (c_L_pieceIs l g base ad S x ((5 : Int)) hfl hI.wc hrn ⟨by decide, by decide⟩) t_266 t_14 t_268 t_267 f_yL_pieceIs ⟨Nat.le_of_ble_eq_true rfl, Nat.le_of_ble_eq_true rfl⟩ rfl rfl (Nat.le_of_ble_eq_true rfl) dL_wears_60 (c2 := 8) (s2 := 48) ⟨by first | rfl | (dsimp only; omega), by first | rfl | (dsimp only; omega)⟩ ⟨by show 8 ≤ 8; omega, by show 48 ≤ 48; omega⟩ (q_an (fun H locs hP hS => ?_))
      refine q_nm (b := shC S (10 + x.toNat)) (((lv_0 hpx (by decide) trivial).trans (pcC_5 rfl))) ?_
      refine lv_iload hx hb dL_wears_63 (lv_at hl 1 rfl) ?_
      refine q_icmp_ne (tgt := 72) hx hb ⟨by omega, by omega⟩ ⟨by omega, by omega⟩ dL_wears_65 (by decide) (fun c_9 => (by exfalso; omega)) (fun c_9 => ?_)
      refine lv_iconst (v := i32 (1)) hx hb dL_wears_68 rfl ?_
      refine lv_goto (tgt := 73) hx hb dL_wears_69 (by decide) ?_
      subst hQm
      exact q_zret hx hb hr hlocks hP hS (v := 1) (by decide) (by exact ⟨⟨rfl, (fun _ _ _ => rfl)⟩, hI, hV⟩) (by show 8 ≤ 8; omega) (by show 48 ≤ 48; omega) dL_wears_73
  · -- y1 = 0
    by_cases h_D : dnC S (10 + x.toNat)
    · skip
      refine lv_aload_n hx hb dL_wears_16 rfl (lv_at hl 1 rfl) ?_
      refine lv_iload_n hx hb dL_wears_17 rfl (lv_at hl 3 rfl) ?_
      refine lv_iconst (v := i32 (1)) hx hb dL_wears_18 rfl ?_
      refine lv_iload hx hb dL_wears_19 (lv_at hl 5 rfl) ?_
      refine lv_sipush (v := i32 (600)) hx hb dL_wears_21 (by decide) ?_
      refine q_callS2 (As := [.int (i32 (y)), .int (i32 (600))]) (rest := [.int (i32 (1)), .int (i32 (x)), .ref (ad 1 0)]) hx hb hml hl.1 hown hK hZ hP hS (c_L_low l g base ad S y ((600 : Int)) hrn3 (by omega)) t_122 (q_callB hK 121 14 123 t_121 t_14 t_123 f_yL_low ⟨Nat.le_of_ble_eq_true rfl, Nat.le_of_ble_eq_true rfl⟩) rfl rfl (Nat.le_of_ble_eq_true rfl) dL_wears_24 (c2 := 2) (s2 := 12) ⟨by first | rfl | (dsimp only; omega), by first | rfl | (dsimp only; omega)⟩ ⟨by show 2 ≤ 8; omega, by show 12 ≤ 48; omega⟩ (q_an (fun H locs hP hS => ?_))
      obtain ⟨y10, hy10⟩ : ∃ y99 : Int, loF y ((600 : Int)) = y99 := ⟨_, rfl⟩
      have by10 := lo_b y (show 1 ≤ ((600 : Int)) by omega)
      rw [hy10] at by10
      refine q_nm hy10 ?_
      refine q_iadd hx hb dL_wears_27 ?_
      obtain ⟨sv, hsv⟩ : ∃ sv : Int, shC (ltS S (10 + x.toNat) (1 + y10)) (10 + x.toNat) = sv := ⟨_, rfl⟩
      have w9 := lt_7 hI hpx h_D (show 1 ≤ 1 + y10 by omega)
      refine q_callH2 (As := [.ref (ad 1 0), .int (i32 (x)), .int (i32 (1 + y10))]) (rest := []) hx hb hml hl.1 hown hK hZ hP hS (c_L_light l g base ad S x (1 + y10) hfl hI.wc hrn ⟨by omega, by omega⟩) t_690 t_14 t_692 t_691 f_yL_light ⟨Nat.le_of_ble_eq_true rfl, Nat.le_of_ble_eq_true rfl⟩ rfl rfl (Nat.le_of_ble_eq_true rfl) dL_wears_28 (c2 := 4) (s2 := 24) ⟨by first | rfl | (dsimp only; omega), by first | rfl | (dsimp only; omega)⟩ ⟨by show 4 ≤ 8; omega, by show 24 ≤ 48; omega⟩ (fun rr ad' S' H locs hQ hP hS => ?_)
      have hc9 : (peC S x) ∧ (1 ≤ (1 + y10) ∧ (1 + y10) ≤ 9999) ∧ (dnC S (10 + x.toNat)) := ⟨hpx, by omega, h_D⟩
      obtain ⟨⟨hr9, ek9⟩, hQ⟩ := hQ
      have hs9 := (hQ.resolve_left (fun y9 => y9.1 hc9)).2
      subst hr9
      rw [ek9] at hP
      rw [hs9] at hP
      refine q_nm (b := sv) ((lv_0 hc9.1 hc9.2.1 hc9.2.2).trans (hsv)) ?_
      generalize eS11 : ltS S (10 + x.toNat) (1 + y10) = S11 at hP
      have rS11 : ∀ (a1 b1 : Nat) (i1 : Int), rng (S11 a1 b1 i1) := fun a1 b1 i1 => hP.rg a1 b1 i1
      have ivS11 : IV S11 := by rw [← eS11]; exact IV_light hI hpx h_D hc9.2.1.1
      have h3S11 : ∀ (b1 : Nat) (i1 : Int), S11 3 b1 i1 = S 3 b1 i1 := by rw [← eS11]; exact fun b i => w9.1 3 b i (by omega)
      rw [eS11] at w9 hsv
      obtain ⟨fr9, f79⟩ := w9
      have hp9 : peC S11 x := pe_k hpx (fr9 _ _ _ (by omega))
      have hsb9 := sh_7 (S' := S11) (hI.pp hpx) (fun b i b7 b9 => fr9 _ _ _ (by omega)) f79
      have hd9 : dnC S11 (10 + x.toNat) := (dn_7 (S := S) (fun b i b7 b9 => fr9 _ _ _ (by omega))).mpr h_D
      rw [hsv] at hsb9
      refine lv_goto (tgt := 39) hx hb dL_wears_31 (by decide) ?_
      refine lv_istore (lv' := [(6, .int (i32 (sv))), (5, .int (i32 (shC S (10 + x.toNat)))), (0, .ref (ad 1 0)), (1, .ref (ad 3 4)), (2, .int (i32 (x))), (3, .int (i32 (t))), (4, .int (i32 (y)))]) hx hb dL_wears_39 hl (by decide) rfl (fun ls hl => ?_)
      refine lv_aload_n hx hb dL_wears_41 rfl (lv_at hl 2 rfl) ?_
      refine lv_iload_n hx hb dL_wears_42 rfl (lv_at hl 4 rfl) ?_
      refine lv_iconst (v := i32 (3)) hx hb dL_wears_43 rfl ?_
      refine q_callH2 (As := [.ref (ad 1 0), .int (i32 (x)), .int (i32 (3))]) (rest := []) hx hb hml hl.1 hown hK hZ hP hS (c_L_pieceIs l g base ad S11 x ((3 : Int)) hfl ivS11.wc hrn ⟨by decide, by decide⟩) t_266 t_14 t_268 t_267 f_yL_pieceIs ⟨Nat.le_of_ble_eq_true rfl, Nat.le_of_ble_eq_true rfl⟩ rfl rfl (Nat.le_of_ble_eq_true rfl) dL_wears_44 (c2 := 6) (s2 := 36) ⟨by first | rfl | (dsimp only; omega), by first | rfl | (dsimp only; omega)⟩ ⟨by show 6 ≤ 8; omega, by show 36 ≤ 48; omega⟩ (q_an (fun H locs hP hS => ?_))
      refine q_nm (b := 1) (((lv_0 hp9 (by decide) trivial).trans (pcC_3 rfl)).trans (b2_t hd9)) ?_
      refine q_if_ne (tgt := 74) hx hb ⟨by decide, by decide⟩ dL_wears_47 (by decide) (fun _ => ?_) (fun h => by omega)
      refine lv_aload_n hx hb dL_wears_74 rfl (lv_at hl 3 rfl) ?_
      refine lv_iload_n hx hb dL_wears_75 rfl (lv_at hl 4 rfl) ?_
      refine lv_iload hx hb dL_wears_76 (lv_at hl 0 rfl) ?_
      refine p_iast (k := 3) (r := 4) (n := 20) hx hb hK hP hS ivS11.a.2.2 rfl rfl (by decide) (by decide) (by omega) (by omega) ⟨by omega, by omega⟩ dL_wears_78 (fun H locs hP hS => ?_)
      generalize eS12 : st S11 3 4 x sv = S12 at hP
      have qS12 : ∀ (a1 b1 : Nat) (i1 : Int), S12 a1 b1 i1 = if a1 = 3 ∧ b1 = 4 ∧ i1 = x then sv else S11 a1 b1 i1 := fun a1 b1 i1 => by rw [← eS12]; exact st_at _ _ _ _ _ _ _ _
      have rS12 : ∀ (a1 b1 : Nat) (i1 : Int), rng (S12 a1 b1 i1) := fun a1 b1 i1 => hP.rg a1 b1 i1
      have aS12_1 : S12 1 0 (-1) = 1 := by rw [qS12, if_neg (by omega)]; exact ivS11.a.1
      have aS12_2 : S12 2 0 (-1) = 1 := by rw [qS12, if_neg (by omega)]; exact ivS11.a.2.1
      have aS12_3 : S12 3 0 (-1) = 1 := by rw [qS12, if_neg (by omega)]; exact ivS11.a.2.2
      have ivS12 : IV S12 := by rw [← eS12]; exact IV_3 ivS11 (by decide)
      refine lv_iload hx hb dL_wears_79 (lv_at hl 0 rfl) ?_
      refine q_if_lt (tgt := 106) hx hb ⟨by omega, by omega⟩ dL_wears_81 (by decide) (fun c_13 => (by exfalso; omega)) (fun c_13 => ?_)
      refine lv_iload hx hb dL_wears_84 (lv_at hl 0 rfl) ?_
      refine lv_iload hx hb dL_wears_86 (lv_at hl 1 rfl) ?_
      refine q_icmp_gt (tgt := 106) hx hb ⟨by omega, by omega⟩ ⟨by omega, by omega⟩ dL_wears_88 (by decide) (fun c_14 => (by exfalso; omega)) (fun c_14 => ?_)
      refine lv_iload hx hb dL_wears_91 (lv_at hl 0 rfl) ?_
      refine lv_aload_n hx hb dL_wears_93 rfl (lv_at hl 2 rfl) ?_
      refine lv_iload_n hx hb dL_wears_94 rfl (lv_at hl 4 rfl) ?_
      refine lv_iconst (v := i32 (5)) hx hb dL_wears_95 rfl ?_
      have hp8 : peC S12 x := pe_k hp9 (by rw [qS12, if_neg (by omega)])
      have hs8 : shC S12 (10 + x.toNat) = sv := by rw [← hsv]; unfold shC; rw [s2_ss, s2_ss, show S12 (10 + x.toNat) = S11 (10 + x.toNat) from fe (fun b i => by rw [qS12, if_neg (by omega)])]
      refine q_callH2 (As := [.ref (ad 1 0), .int (i32 (x)), .int (i32 (5))]) (rest := [.int (i32 (sv))]) hx hb hml hl.1 hown hK hZ hP hS (c_L_pieceIs l g base ad S12 x ((5 : Int)) hfl ivS12.wc hrn ⟨by decide, by decide⟩) t_266 t_14 t_268 t_267 f_yL_pieceIs ⟨Nat.le_of_ble_eq_true rfl, Nat.le_of_ble_eq_true rfl⟩ rfl rfl (Nat.le_of_ble_eq_true rfl) dL_wears_96 (c2 := 8) (s2 := 48) ⟨by first | rfl | (dsimp only; omega), by first | rfl | (dsimp only; omega)⟩ ⟨by show 8 ≤ 8; omega, by show 48 ≤ 48; omega⟩ (q_an (fun H locs hP hS => ?_))
      refine q_nm (b := sv) (((lv_0 hp8 (by decide) trivial).trans (pcC_5 rfl)).trans hs8) ?_
      refine q_icmp_ne (tgt := 106) hx hb ⟨by omega, by omega⟩ ⟨by omega, by omega⟩ dL_wears_99 (by decide) (fun c_15 => (by exfalso; omega)) (fun c_15 => ?_)
      refine lv_iconst (v := i32 (1)) hx hb dL_wears_102 rfl ?_
      refine lv_goto (tgt := 107) hx hb dL_wears_103 (by decide) ?_
      subst hQm
      exact q_zret hx hb hr hlocks hP hS (v := 1) (by decide) (by exact ⟨⟨rfl, (fun _ _ _ => rfl)⟩, ivS12, by rw [← eS12]; exact LV_4 (LV_p hV hI.k.1.2 (fun a b i h1 h2 => fr9 a b i (by omega)))⟩) (by show 8 ≤ 8; omega) (by show 48 ≤ 48; omega) dL_wears_107
    · skip
      refine lv_aload_n hx hb dL_wears_16 rfl (lv_at hl 1 rfl) ?_
      refine lv_iload_n hx hb dL_wears_17 rfl (lv_at hl 3 rfl) ?_
      refine lv_iconst (v := i32 (1)) hx hb dL_wears_18 rfl ?_
      refine lv_iload hx hb dL_wears_19 (lv_at hl 5 rfl) ?_
      refine lv_sipush (v := i32 (600)) hx hb dL_wears_21 (by decide) ?_
      refine q_callS2 (As := [.int (i32 (y)), .int (i32 (600))]) (rest := [.int (i32 (1)), .int (i32 (x)), .ref (ad 1 0)]) hx hb hml hl.1 hown hK hZ hP hS (c_L_low l g base ad S y ((600 : Int)) hrn3 (by omega)) t_122 (q_callB hK 121 14 123 t_121 t_14 t_123 f_yL_low ⟨Nat.le_of_ble_eq_true rfl, Nat.le_of_ble_eq_true rfl⟩) rfl rfl (Nat.le_of_ble_eq_true rfl) dL_wears_24 (c2 := 2) (s2 := 12) ⟨by first | rfl | (dsimp only; omega), by first | rfl | (dsimp only; omega)⟩ ⟨by show 2 ≤ 8; omega, by show 12 ≤ 48; omega⟩ (q_an (fun H locs hP hS => ?_))
      obtain ⟨y16, hy16⟩ : ∃ y99 : Int, loF y ((600 : Int)) = y99 := ⟨_, rfl⟩
      have by16 := lo_b y (show 1 ≤ ((600 : Int)) by omega)
      rw [hy16] at by16
      refine q_nm hy16 ?_
      refine q_iadd hx hb dL_wears_27 ?_
      refine q_callH2 (As := [.ref (ad 1 0), .int (i32 (x)), .int (i32 (1 + y16))]) (rest := []) hx hb hml hl.1 hown hK hZ hP hS (c_L_light l g base ad S x (1 + y16) hfl hI.wc hrn ⟨by omega, by omega⟩) t_690 t_14 t_692 t_691 f_yL_light ⟨Nat.le_of_ble_eq_true rfl, Nat.le_of_ble_eq_true rfl⟩ rfl rfl (Nat.le_of_ble_eq_true rfl) dL_wears_28 (c2 := 4) (s2 := 24) ⟨by first | rfl | (dsimp only; omega), by first | rfl | (dsimp only; omega)⟩ ⟨by show 4 ≤ 8; omega, by show 24 ≤ 48; omega⟩ (fun rr ad' S' H locs hQ hP hS => ?_)
      obtain ⟨⟨hr9, ek9⟩, hQ⟩ := hQ
      have hc9_1 : peC S x := hpx
      have hc9_2 : 1 ≤ (1 + y16) ∧ (1 + y16) ≤ 9999 := by omega
      have hc9_3 : ¬ (dnC S (10 + x.toNat)) := h_D
      have hs9 := (hQ.resolve_right (fun y9 => hc9_3 y9.1.2.2)).2
      subst hr9
      rw [ek9] at hP
      rw [hs9] at hP
      refine q_nm (lv_3 hc9_1 hc9_2 hc9_3) ?_
      refine lv_goto (tgt := 39) hx hb dL_wears_31 (by decide) ?_
      refine lv_istore (lv' := [(6, .int (i32 (-1000003))), (5, .int (i32 (shC S (10 + x.toNat)))), (0, .ref (ad 1 0)), (1, .ref (ad 3 4)), (2, .int (i32 (x))), (3, .int (i32 (t))), (4, .int (i32 (y)))]) hx hb dL_wears_39 hl (by decide) rfl (fun ls hl => ?_)
      refine lv_aload_n hx hb dL_wears_41 rfl (lv_at hl 2 rfl) ?_
      refine lv_iload_n hx hb dL_wears_42 rfl (lv_at hl 4 rfl) ?_
      refine lv_iconst (v := i32 (3)) hx hb dL_wears_43 rfl ?_
      refine q_callH2 (As := [.ref (ad 1 0), .int (i32 (x)), .int (i32 (3))]) (rest := []) hx hb hml hl.1 hown hK hZ hP hS (c_L_pieceIs l g base ad S x ((3 : Int)) hfl hI.wc hrn ⟨by decide, by decide⟩) t_266 t_14 t_268 t_267 f_yL_pieceIs ⟨Nat.le_of_ble_eq_true rfl, Nat.le_of_ble_eq_true rfl⟩ rfl rfl (Nat.le_of_ble_eq_true rfl) dL_wears_44 (c2 := 6) (s2 := 36) ⟨by first | rfl | (dsimp only; omega), by first | rfl | (dsimp only; omega)⟩ ⟨by show 6 ≤ 8; omega, by show 36 ≤ 48; omega⟩ (q_an (fun H locs hP hS => ?_))
      refine q_nm (b := 0) (((lv_0 hpx (by decide) trivial).trans (pcC_3 rfl)).trans (b2_f h_D)) ?_
      refine q_if_ne (tgt := 74) hx hb ⟨by decide, by decide⟩ dL_wears_47 (by decide) (fun h => by omega) (fun _ => ?_)
      refine lv_iload hx hb dL_wears_50 (lv_at hl 0 rfl) ?_
      refine q_ldc (z := -1000003) hx hb hown hK t_250 rfl dL_wears_52 ?_
      refine q_icmp_ne (tgt := 72) hx hb ⟨by decide, by decide⟩ ⟨by decide, by decide⟩ dL_wears_54 (by decide) (fun c_17 => (by exfalso; omega)) (fun c_17 => ?_)
      refine lv_aload_n hx hb dL_wears_57 rfl (lv_at hl 2 rfl) ?_
      refine lv_iload_n hx hb dL_wears_58 rfl (lv_at hl 4 rfl) ?_
      refine lv_iconst (v := i32 (5)) hx hb dL_wears_59 rfl ?_
      refine q_callH2 (As := [.ref (ad 1 0), .int (i32 (x)), .int (i32 (5))]) (rest := []) hx hb hml hl.1 hown hK hZ hP hS (c_L_pieceIs l g base ad S x ((5 : Int)) hfl hI.wc hrn ⟨by decide, by decide⟩) t_266 t_14 t_268 t_267 f_yL_pieceIs ⟨Nat.le_of_ble_eq_true rfl, Nat.le_of_ble_eq_true rfl⟩ rfl rfl (Nat.le_of_ble_eq_true rfl) dL_wears_60 (c2 := 8) (s2 := 48) ⟨by first | rfl | (dsimp only; omega), by first | rfl | (dsimp only; omega)⟩ ⟨by show 8 ≤ 8; omega, by show 48 ≤ 48; omega⟩ (q_an (fun H locs hP hS => ?_))
      refine q_nm (b := shC S (10 + x.toNat)) (((lv_0 hpx (by decide) trivial).trans (pcC_5 rfl))) ?_
      refine lv_iload hx hb dL_wears_63 (lv_at hl 1 rfl) ?_
      refine q_icmp_ne (tgt := 72) hx hb ⟨by omega, by omega⟩ ⟨by omega, by omega⟩ dL_wears_65 (by decide) (fun c_18 => (by exfalso; omega)) (fun c_18 => ?_)
      refine lv_iconst (v := i32 (1)) hx hb dL_wears_68 rfl ?_
      refine lv_goto (tgt := 73) hx hb dL_wears_69 (by decide) ?_
      subst hQm
      exact q_zret hx hb hr hlocks hP hS (v := 1) (by decide) (by exact ⟨⟨rfl, (fun _ _ _ => rfl)⟩, hI, hV⟩) (by show 8 ≤ 8; omega) (by show 48 ≤ 48; omega) dL_wears_73

set_option maxHeartbeats 4000000 in
set_option maxRecDepth 100000 in
theorem c_L_sews (l : Launch) (g : GT) (base : Nat) (ad : Nat → Nat → Nat) (S : St) (x y : Int) (hfl : l.stackTraces = false) (hI : IV S) (hV : LV S) (hpx : peC S x) (hrn : rng x) (hrn2 : rng y) : Met l yL_sews [Cond.code yL_sews cL_sews 7 (some FieldType.boolean)] ({ frames := 9, cells := 14, slots := 84, locals := 159 }) (va_Pc [.ref (ad 1 0), .int (i32 (x)), .int (i32 (y))] (PK g base ad S)) (gQ g base (lmP ad)) 14 84 (fun q => base ≤ q) := by
  refine mk_m (own := RL) (lv0 := [(0, .ref (ad 1 0)), (1, .int (i32 (x))), (2, .int (i32 (y)))]) (by decide) rfl (Nat.le_of_ble_eq_true rfl) rfl ?_
  intro p e s m below meth cz av Qm hx hb hr hml hown hlocks hK hZ hP hQm ls hl
  have hS : va_S (fun q => base ≤ q) s.heap s.heap [] := va_S.rf
  have rS : ∀ (a1 b1 : Nat) (i1 : Int), rng (S a1 b1 i1) := fun a1 b1 i1 => hP.rg a1 b1 i1
  obtain ⟨-, pw8, ph8, -⟩ := (hI.pp hpx).1
  have hsn8 := sn_b (S := S) (o := 10 + x.toNat) pw8.1
  refine lv_aload_n hx hb dL_sews_0 rfl (lv_at hl 0 rfl) ?_
  refine lv_iload_n hx hb dL_sews_1 rfl (lv_at hl 1 rfl) ?_
  refine lv_iconst (v := i32 (0)) hx hb dL_sews_2 rfl ?_
  refine q_callH2 (As := [.ref (ad 1 0), .int (i32 (x)), .int (i32 (0))]) (rest := []) hx hb hml hl.1 hown hK hZ hP hS (c_L_pieceIs l g base ad S x ((0 : Int)) hfl hI.wc hrn ⟨by decide, by decide⟩) t_266 t_14 t_268 t_267 f_yL_pieceIs ⟨Nat.le_of_ble_eq_true rfl, Nat.le_of_ble_eq_true rfl⟩ rfl rfl (Nat.le_of_ble_eq_true rfl) dL_sews_3 (c2 := 2) (s2 := 12) ⟨by first | rfl | (dsimp only; omega), by first | rfl | (dsimp only; omega)⟩ ⟨by show 2 ≤ 14; omega, by show 12 ≤ 84; omega⟩ (q_an (fun H locs hP hS => ?_))
  refine q_nm (b := S (10 + x.toNat) 0 0) (((lv_0 hpx (by decide) trivial).trans (pcC_0 rfl))) ?_
  refine lv_istore_n (lv' := [(3, .int (i32 (S (10 + x.toNat) 0 0))), (0, .ref (ad 1 0)), (1, .int (i32 (x))), (2, .int (i32 (y)))]) hx hb dL_sews_6 rfl hl (by decide) rfl (fun ls hl => ?_)
  refine lv_iload_n hx hb dL_sews_7 rfl (lv_at hl 3 rfl) ?_
  refine lv_bipush (v := i32 (14)) hx hb dL_sews_8 (by decide) ?_
  refine q_callS2 (As := [.int (i32 (y)), .int (i32 (14))]) (rest := []) hx hb hml hl.1 hown hK hZ hP hS (c_L_low l g base ad S y ((14 : Int)) hrn2 (by omega)) t_122 (q_callB hK 121 14 123 t_121 t_14 t_123 f_yL_low ⟨Nat.le_of_ble_eq_true rfl, Nat.le_of_ble_eq_true rfl⟩) rfl rfl (Nat.le_of_ble_eq_true rfl) dL_sews_10 (c2 := 2) (s2 := 12) ⟨by first | rfl | (dsimp only; omega), by first | rfl | (dsimp only; omega)⟩ ⟨by show 2 ≤ 14; omega, by show 12 ≤ 84; omega⟩ (q_an (fun H locs hP hS => ?_))
  obtain ⟨y1, hy1⟩ : ∃ y99 : Int, loF y ((14 : Int)) = y99 := ⟨_, rfl⟩
  have by1 := lo_b y (show 1 ≤ ((14 : Int)) by omega)
  rw [hy1] at by1
  refine q_nm hy1 ?_
  refine lv_istore (lv' := [(4, .int (i32 (y1))), (3, .int (i32 (S (10 + x.toNat) 0 0))), (0, .ref (ad 1 0)), (1, .int (i32 (x))), (2, .int (i32 (y)))]) hx hb dL_sews_13 hl (by decide) rfl (fun ls hl => ?_)
  refine lv_aload_n hx hb dL_sews_15 rfl (lv_at hl 2 rfl) ?_
  refine lv_iload_n hx hb dL_sews_16 rfl (lv_at hl 3 rfl) ?_
  refine lv_iconst (v := i32 (4)) hx hb dL_sews_17 rfl ?_
  obtain ⟨s4, hs4⟩ : ∃ s4 : Int, cif (dnC S (10 + x.toNat)) (snC S (10 + x.toNat)) 0 = s4 := ⟨_, rfl⟩
  have s4b : 0 ≤ s4 ∧ s4 < 24 := by by_cases hd : dnC S (10 + x.toNat); (rw [cif_t hd] at hs4; omega); (rw [cif_f hd] at hs4; omega)
  refine q_callH2 (As := [.ref (ad 1 0), .int (i32 (x)), .int (i32 (4))]) (rest := []) hx hb hml hl.1 hown hK hZ hP hS (c_L_pieceIs l g base ad S x ((4 : Int)) hfl hI.wc hrn ⟨by decide, by decide⟩) t_266 t_14 t_268 t_267 f_yL_pieceIs ⟨Nat.le_of_ble_eq_true rfl, Nat.le_of_ble_eq_true rfl⟩ rfl rfl (Nat.le_of_ble_eq_true rfl) dL_sews_18 (c2 := 4) (s2 := 24) ⟨by first | rfl | (dsimp only; omega), by first | rfl | (dsimp only; omega)⟩ ⟨by show 4 ≤ 14; omega, by show 24 ≤ 84; omega⟩ (q_an (fun H locs hP hS => ?_))
  refine q_nm (b := s4) (((lv_0 hpx (by decide) trivial).trans (pcC_4 rfl)).trans hs4) ?_
  refine lv_istore (lv' := [(5, .int (i32 (s4))), (4, .int (i32 (y1))), (3, .int (i32 (S (10 + x.toNat) 0 0))), (0, .ref (ad 1 0)), (1, .int (i32 (x))), (2, .int (i32 (y)))]) hx hb dL_sews_21 hl (by decide) rfl (fun ls hl => ?_)
  by_cases h_A : 1 ≤ y1 ∧ y1 < S (10 + x.toNat) 0 0
  · skip
    by_cases h_B : dnC S (10 + x.toNat)
    · skip
      refine lv_aload_n hx hb dL_sews_23 rfl (lv_at hl 3 rfl) ?_
      refine lv_iload_n hx hb dL_sews_24 rfl (lv_at hl 4 rfl) ?_
      refine lv_iload hx hb dL_sews_25 (lv_at hl 1 rfl) ?_
      have w9 := se_7 (q := y1) hI hpx
      have u9 := sn_sew (S := S) (o := 10 + x.toNat) h_A.1 h_A.2
      obtain ⟨tl, htl⟩ : ∃ tl : Int, b2 (slC S (10 + x.toNat) y1) = tl := ⟨_, rfl⟩
      have tl01 := b2_b (slC S (10 + x.toNat) y1)
      rw [htl] at u9 tl01
      refine q_callH2 (As := [.ref (ad 1 0), .int (i32 (x)), .int (i32 (y1))]) (rest := []) hx hb hml hl.1 hown hK hZ hP hS (c_L_sew l g base ad S x y1 hfl hI.wc hrn ⟨by omega, by omega⟩) t_675 t_14 t_677 t_676 f_yL_sew ⟨Nat.le_of_ble_eq_true rfl, Nat.le_of_ble_eq_true rfl⟩ rfl rfl (Nat.le_of_ble_eq_true rfl) dL_sews_27 (c2 := 7) (s2 := 42) ⟨by first | rfl | (dsimp only; omega), by first | rfl | (dsimp only; omega)⟩ ⟨by show 7 ≤ 14; omega, by show 42 ≤ 84; omega⟩ (fun rr ad' S' H locs hQ hP hS => ?_)
      have hc9 : (peC S x ∧ (1 ≤ y1 ∧ y1 < S (10 + x.toNat) 0 0)) ∧ (dnC S (10 + x.toNat)) ∧ (True) := ⟨⟨hpx, h_A⟩, h_B, trivial⟩
      obtain ⟨⟨hr9, ek9⟩, hQ⟩ := hQ
      have hs9 := (hQ.resolve_left (fun y9 => y9.1 hc9)).2
      subst hr9
      rw [ek9] at hP
      rw [hs9] at hP
      refine q_nm (b := tl) ((lv_0 hc9.1 hc9.2.1 hc9.2.2).trans (htl)) ?_
      generalize eS2 : st S (10 + x.toNat) 9 y1 1 = S2 at hP
      have rS2 : ∀ (a1 b1 : Nat) (i1 : Int), rng (S2 a1 b1 i1) := fun a1 b1 i1 => hP.rg a1 b1 i1
      have ivS2 : IV S2 := by rw [← eS2]; exact IV_sew hI hpx
      have h3S2 : ∀ (b1 : Nat) (i1 : Int), S2 3 b1 i1 = S 3 b1 i1 := by rw [← eS2]; exact fun b i => w9.1 3 b i (by omega)
      rw [eS2] at w9 u9
      obtain ⟨fr9, -⟩ := w9
      have hp9 : peC S2 x := pe_k hpx (fr9 _ _ _ (by omega))
      have hd9 : dnC S2 (10 + x.toNat) := (dn_7 (S := S) (fun b i b7 b9 => fr9 _ _ _ (by omega))).mpr h_B
      have ew9 : S2 (10 + x.toNat) 0 0 = S (10 + x.toNat) 0 0 := fr9 _ _ _ (by omega)
      refine lv_istore (lv' := [(6, .int (i32 (tl))), (5, .int (i32 (s4))), (4, .int (i32 (y1))), (3, .int (i32 (S (10 + x.toNat) 0 0))), (0, .ref (ad 1 0)), (1, .int (i32 (x))), (2, .int (i32 (y)))]) hx hb dL_sews_30 hl (by decide) rfl (fun ls hl => ?_)
      refine lv_iload hx hb dL_sews_32 (lv_at hl 2 rfl) ?_
      refine q_if_eq (tgt := 43) hx hb ⟨by omega, by omega⟩ dL_sews_34 (by decide) (fun c_3 => (by exfalso; omega)) (fun c_3 => ?_)
      refine lv_iload hx hb dL_sews_37 (lv_at hl 2 rfl) ?_
      refine lv_iload_n hx hb dL_sews_39 rfl (lv_at hl 3 rfl) ?_
      refine q_icmp_lt (tgt := 56) hx hb ⟨by omega, by omega⟩ (rS _ _ _) dL_sews_40 (by decide) (fun c_4 => ?_) (fun c_4 => (by exfalso; omega))
      refine lv_aload_n hx hb dL_sews_56 rfl (lv_at hl 4 rfl) ?_
      refine lv_iload_n hx hb dL_sews_57 rfl (lv_at hl 5 rfl) ?_
      refine lv_iconst (v := i32 (3)) hx hb dL_sews_58 rfl ?_
      refine q_callH2 (As := [.ref (ad 1 0), .int (i32 (x)), .int (i32 (3))]) (rest := []) hx hb hml hl.1 hown hK hZ hP hS (c_L_pieceIs l g base ad S2 x ((3 : Int)) hfl ivS2.wc hrn ⟨by decide, by decide⟩) t_266 t_14 t_268 t_267 f_yL_pieceIs ⟨Nat.le_of_ble_eq_true rfl, Nat.le_of_ble_eq_true rfl⟩ rfl rfl (Nat.le_of_ble_eq_true rfl) dL_sews_59 (c2 := 9) (s2 := 54) ⟨by first | rfl | (dsimp only; omega), by first | rfl | (dsimp only; omega)⟩ ⟨by show 9 ≤ 14; omega, by show 54 ≤ 84; omega⟩ (q_an (fun H locs hP hS => ?_))
      refine q_nm (b := 1) (((lv_0 hp9 (by decide) trivial).trans (pcC_3 rfl)).trans (b2_t hd9)) ?_
      refine q_if_ne (tgt := 78) hx hb ⟨by decide, by decide⟩ dL_sews_62 (by decide) (fun _ => ?_) (fun h => by omega)
      refine lv_iload hx hb dL_sews_78 (lv_at hl 0 rfl) ?_
      refine q_if_lt (tgt := 111) hx hb ⟨by omega, by omega⟩ dL_sews_80 (by decide) (fun c_5 => (by exfalso; omega)) (fun c_5 => ?_)
      refine lv_aload_n hx hb dL_sews_83 rfl (lv_at hl 4 rfl) ?_
      refine lv_iload_n hx hb dL_sews_84 rfl (lv_at hl 5 rfl) ?_
      refine lv_iconst (v := i32 (4)) hx hb dL_sews_85 rfl ?_
      rw [cif_t h_B] at hs4
      refine q_callH2 (As := [.ref (ad 1 0), .int (i32 (x)), .int (i32 (4))]) (rest := []) hx hb hml hl.1 hown hK hZ hP hS (c_L_pieceIs l g base ad S2 x ((4 : Int)) hfl ivS2.wc hrn ⟨by decide, by decide⟩) t_266 t_14 t_268 t_267 f_yL_pieceIs ⟨Nat.le_of_ble_eq_true rfl, Nat.le_of_ble_eq_true rfl⟩ rfl rfl (Nat.le_of_ble_eq_true rfl) dL_sews_86 (c2 := 11) (s2 := 66) ⟨by first | rfl | (dsimp only; omega), by first | rfl | (dsimp only; omega)⟩ ⟨by show 11 ≤ 14; omega, by show 66 ≤ 84; omega⟩ (q_an (fun H locs hP hS => ?_))
      refine q_nm (b := s4 - tl) (((lv_0 hp9 (by decide) trivial).trans (pcC_4 rfl)).trans ((cif_t hd9).trans (u9.2.trans (by omega)))) ?_
      refine lv_iload hx hb dL_sews_89 (lv_at hl 1 rfl) ?_
      refine lv_iload hx hb dL_sews_91 (lv_at hl 0 rfl) ?_
      refine q_isub hx hb dL_sews_93 ?_
      refine q_icmp_ne (tgt := 111) hx hb ⟨by omega, by omega⟩ ⟨by omega, by omega⟩ dL_sews_94 (by decide) (fun c_6 => (by exfalso; omega)) (fun c_6 => ?_)
      refine lv_aload_n hx hb dL_sews_97 rfl (lv_at hl 4 rfl) ?_
      refine lv_iload_n hx hb dL_sews_98 rfl (lv_at hl 5 rfl) ?_
      refine lv_iload hx hb dL_sews_99 (lv_at hl 2 rfl) ?_
      have w8 := se_7 (q := y1) ivS2 hp9
      refine q_callH2 (As := [.ref (ad 1 0), .int (i32 (x)), .int (i32 (y1))]) (rest := []) hx hb hml hl.1 hown hK hZ hP hS (c_L_sew l g base ad S2 x y1 hfl ivS2.wc hrn ⟨by omega, by omega⟩) t_675 t_14 t_677 t_676 f_yL_sew ⟨Nat.le_of_ble_eq_true rfl, Nat.le_of_ble_eq_true rfl⟩ rfl rfl (Nat.le_of_ble_eq_true rfl) dL_sews_101 (c2 := 14) (s2 := 84) ⟨by first | rfl | (dsimp only; omega), by first | rfl | (dsimp only; omega)⟩ ⟨by show 14 ≤ 14; omega, by show 84 ≤ 84; omega⟩ (fun rr ad' S' H locs hQ hP hS => ?_)
      have hc9 : (peC S2 x ∧ (1 ≤ y1 ∧ y1 < S2 (10 + x.toNat) 0 0)) ∧ (dnC S2 (10 + x.toNat)) ∧ (True) := ⟨⟨hp9, by rw [ew9]; exact h_A⟩, hd9, trivial⟩
      obtain ⟨⟨hr9, ek9⟩, hQ⟩ := hQ
      have hs9 := (hQ.resolve_left (fun y9 => y9.1 hc9)).2
      subst hr9
      rw [ek9] at hP
      rw [hs9] at hP
      refine q_nm (b := 0) ((lv_0 hc9.1 hc9.2.1 hc9.2.2).trans (b2_f u9.1)) ?_
      generalize eS7 : st S2 (10 + x.toNat) 9 y1 1 = S7 at hP
      have rS7 : ∀ (a1 b1 : Nat) (i1 : Int), rng (S7 a1 b1 i1) := fun a1 b1 i1 => hP.rg a1 b1 i1
      have ivS7 : IV S7 := by rw [← eS7]; exact IV_sew ivS2 hp9
      have h3S7 : ∀ (b1 : Nat) (i1 : Int), S7 3 b1 i1 = S2 3 b1 i1 := by rw [← eS7]; exact fun b i => w8.1 3 b i (by omega)
      rw [eS7] at w8
      refine q_if_ne (tgt := 111) hx hb ⟨by decide, by decide⟩ dL_sews_104 (by decide) (fun h => by omega) (fun _ => ?_)
      refine lv_iconst (v := i32 (1)) hx hb dL_sews_107 rfl ?_
      refine lv_goto (tgt := 112) hx hb dL_sews_108 (by decide) ?_
      subst hQm
      exact q_zret hx hb hr hlocks hP hS (v := 1) (by decide) (by exact ⟨⟨rfl, (fun _ _ _ => rfl)⟩, ivS7, LV_p (LV_p hV hI.k.1.2 (fun a b i h1 h2 => fr9 a b i (by omega))) (by rw [fr9 _ _ _ (by omega)]; exact hI.k.1.2) (fun a b i h1 h2 => w8.1 a b i (by omega))⟩) (by show 14 ≤ 14; omega) (by show 84 ≤ 84; omega) dL_sews_112
    · skip
      refine lv_aload_n hx hb dL_sews_23 rfl (lv_at hl 3 rfl) ?_
      refine lv_iload_n hx hb dL_sews_24 rfl (lv_at hl 4 rfl) ?_
      refine lv_iload hx hb dL_sews_25 (lv_at hl 1 rfl) ?_
      refine q_callH2 (As := [.ref (ad 1 0), .int (i32 (x)), .int (i32 (y1))]) (rest := []) hx hb hml hl.1 hown hK hZ hP hS (c_L_sew l g base ad S x y1 hfl hI.wc hrn ⟨by omega, by omega⟩) t_675 t_14 t_677 t_676 f_yL_sew ⟨Nat.le_of_ble_eq_true rfl, Nat.le_of_ble_eq_true rfl⟩ rfl rfl (Nat.le_of_ble_eq_true rfl) dL_sews_27 (c2 := 7) (s2 := 42) ⟨by first | rfl | (dsimp only; omega), by first | rfl | (dsimp only; omega)⟩ ⟨by show 7 ≤ 14; omega, by show 42 ≤ 84; omega⟩ (fun rr ad' S' H locs hQ hP hS => ?_)
      obtain ⟨⟨hr9, ek9⟩, hQ⟩ := hQ
      have hc9_1 : peC S x ∧ (1 ≤ y1 ∧ y1 < S (10 + x.toNat) 0 0) := ⟨hpx, h_A⟩
      have hc9_2 : ¬ (dnC S (10 + x.toNat)) := h_B
      have hs9 := (hQ.resolve_right (fun y9 => hc9_2 y9.1.2.1)).2
      subst hr9
      rw [ek9] at hP
      rw [hs9] at hP
      refine q_nm (lv_2 hc9_1 hc9_2) ?_
      refine lv_istore (lv' := [(6, .int (i32 (-1000003))), (5, .int (i32 (s4))), (4, .int (i32 (y1))), (3, .int (i32 (S (10 + x.toNat) 0 0))), (0, .ref (ad 1 0)), (1, .int (i32 (x))), (2, .int (i32 (y)))]) hx hb dL_sews_30 hl (by decide) rfl (fun ls hl => ?_)
      refine lv_iload hx hb dL_sews_32 (lv_at hl 2 rfl) ?_
      refine q_if_eq (tgt := 43) hx hb ⟨by omega, by omega⟩ dL_sews_34 (by decide) (fun c_8 => (by exfalso; omega)) (fun c_8 => ?_)
      refine lv_iload hx hb dL_sews_37 (lv_at hl 2 rfl) ?_
      refine lv_iload_n hx hb dL_sews_39 rfl (lv_at hl 3 rfl) ?_
      refine q_icmp_lt (tgt := 56) hx hb ⟨by omega, by omega⟩ (rS _ _ _) dL_sews_40 (by decide) (fun c_9 => ?_) (fun c_9 => (by exfalso; omega))
      refine lv_aload_n hx hb dL_sews_56 rfl (lv_at hl 4 rfl) ?_
      refine lv_iload_n hx hb dL_sews_57 rfl (lv_at hl 5 rfl) ?_
      refine lv_iconst (v := i32 (3)) hx hb dL_sews_58 rfl ?_
      refine q_callH2 (As := [.ref (ad 1 0), .int (i32 (x)), .int (i32 (3))]) (rest := []) hx hb hml hl.1 hown hK hZ hP hS (c_L_pieceIs l g base ad S x ((3 : Int)) hfl hI.wc hrn ⟨by decide, by decide⟩) t_266 t_14 t_268 t_267 f_yL_pieceIs ⟨Nat.le_of_ble_eq_true rfl, Nat.le_of_ble_eq_true rfl⟩ rfl rfl (Nat.le_of_ble_eq_true rfl) dL_sews_59 (c2 := 9) (s2 := 54) ⟨by first | rfl | (dsimp only; omega), by first | rfl | (dsimp only; omega)⟩ ⟨by show 9 ≤ 14; omega, by show 54 ≤ 84; omega⟩ (q_an (fun H locs hP hS => ?_))
      refine q_nm (b := 0) (((lv_0 hpx (by decide) trivial).trans (pcC_3 rfl)).trans (b2_f h_B)) ?_
      refine q_if_ne (tgt := 78) hx hb ⟨by decide, by decide⟩ dL_sews_62 (by decide) (fun h => by omega) (fun _ => ?_)
      refine lv_iload hx hb dL_sews_65 (lv_at hl 0 rfl) ?_
      refine q_ldc (z := -1000003) hx hb hown hK t_250 rfl dL_sews_67 ?_
      refine q_icmp_ne (tgt := 76) hx hb ⟨by decide, by decide⟩ ⟨by decide, by decide⟩ dL_sews_69 (by decide) (fun c_10 => (by exfalso; omega)) (fun c_10 => ?_)
      refine lv_iconst (v := i32 (1)) hx hb dL_sews_72 rfl ?_
      refine lv_goto (tgt := 77) hx hb dL_sews_73 (by decide) ?_
      subst hQm
      exact q_zret hx hb hr hlocks hP hS (v := 1) (by decide) (by exact ⟨⟨rfl, (fun _ _ _ => rfl)⟩, hI, hV⟩) (by show 9 ≤ 14; omega) (by show 54 ≤ 84; omega) dL_sews_77
  · skip
    refine lv_aload_n hx hb dL_sews_23 rfl (lv_at hl 3 rfl) ?_
    refine lv_iload_n hx hb dL_sews_24 rfl (lv_at hl 4 rfl) ?_
    refine lv_iload hx hb dL_sews_25 (lv_at hl 1 rfl) ?_
    refine q_callH2 (As := [.ref (ad 1 0), .int (i32 (x)), .int (i32 (y1))]) (rest := []) hx hb hml hl.1 hown hK hZ hP hS (c_L_sew l g base ad S x y1 hfl hI.wc hrn ⟨by omega, by omega⟩) t_675 t_14 t_677 t_676 f_yL_sew ⟨Nat.le_of_ble_eq_true rfl, Nat.le_of_ble_eq_true rfl⟩ rfl rfl (Nat.le_of_ble_eq_true rfl) dL_sews_27 (c2 := 7) (s2 := 42) ⟨by first | rfl | (dsimp only; omega), by first | rfl | (dsimp only; omega)⟩ ⟨by show 7 ≤ 14; omega, by show 42 ≤ 84; omega⟩ (fun rr ad' S' H locs hQ hP hS => ?_)
    obtain ⟨⟨hr9, ek9⟩, hQ⟩ := hQ
    have hc9_1 : ¬ (peC S x ∧ (1 ≤ y1 ∧ y1 < S (10 + x.toNat) 0 0)) := fun y => h_A y.2
    have hs9 := (hQ.resolve_right (fun y9 => hc9_1 y9.1.1)).2
    subst hr9
    rw [ek9] at hP
    rw [hs9] at hP
    refine q_nm (lv_1 hc9_1) ?_
    refine lv_istore (lv' := [(6, .int (i32 (-1000001))), (5, .int (i32 (s4))), (4, .int (i32 (y1))), (3, .int (i32 (S (10 + x.toNat) 0 0))), (0, .ref (ad 1 0)), (1, .int (i32 (x))), (2, .int (i32 (y)))]) hx hb dL_sews_30 hl (by decide) rfl (fun ls hl => ?_)
    refine lv_iload hx hb dL_sews_32 (lv_at hl 2 rfl) ?_
    refine q_if_eq (tgt := 43) hx hb ⟨by omega, by omega⟩ dL_sews_34 (by decide) (fun c_11 => ?_) (fun c_11 => ?_)
    · -- y1 = 0
      refine lv_iload hx hb dL_sews_43 (lv_at hl 0 rfl) ?_
      refine q_ldc (z := -1000001) hx hb hown hK t_248 rfl dL_sews_45 ?_
      refine q_icmp_ne (tgt := 54) hx hb ⟨by decide, by decide⟩ ⟨by decide, by decide⟩ dL_sews_47 (by decide) (fun c_12 => (by exfalso; omega)) (fun c_12 => ?_)
      refine lv_iconst (v := i32 (1)) hx hb dL_sews_50 rfl ?_
      refine lv_goto (tgt := 55) hx hb dL_sews_51 (by decide) ?_
      subst hQm
      exact q_zret hx hb hr hlocks hP hS (v := 1) (by decide) (by exact ⟨⟨rfl, (fun _ _ _ => rfl)⟩, hI, hV⟩) (by show 7 ≤ 14; omega) (by show 42 ≤ 84; omega) dL_sews_55
    · -- y1 ≠ 0
      refine lv_iload hx hb dL_sews_37 (lv_at hl 2 rfl) ?_
      refine lv_iload_n hx hb dL_sews_39 rfl (lv_at hl 3 rfl) ?_
      refine q_icmp_lt (tgt := 56) hx hb ⟨by omega, by omega⟩ (rS _ _ _) dL_sews_40 (by decide) (fun c_13 => (by exfalso; omega)) (fun c_13 => ?_)
      refine lv_iload hx hb dL_sews_43 (lv_at hl 0 rfl) ?_
      refine q_ldc (z := -1000001) hx hb hown hK t_248 rfl dL_sews_45 ?_
      refine q_icmp_ne (tgt := 54) hx hb ⟨by decide, by decide⟩ ⟨by decide, by decide⟩ dL_sews_47 (by decide) (fun c_14 => (by exfalso; omega)) (fun c_14 => ?_)
      refine lv_iconst (v := i32 (1)) hx hb dL_sews_50 rfl ?_
      refine lv_goto (tgt := 55) hx hb dL_sews_51 (by decide) ?_
      subst hQm
      exact q_zret hx hb hr hlocks hP hS (v := 1) (by decide) (by exact ⟨⟨rfl, (fun _ _ _ => rfl)⟩, hI, hV⟩) (by show 7 ≤ 14; omega) (by show 42 ≤ 84; omega) dL_sews_55
