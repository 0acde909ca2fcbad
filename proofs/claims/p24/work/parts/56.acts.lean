/-! ===== one act ===== -/
theorem ln_k {S S' : St} {o k : Nat} (e : S' o = S o) (e2 : S' k = S k) : lnC S' o k = lnC S o k := by
  have h : ∀ m9 : Prop, lkC S' o k m9 = lkC S o k m9 := fun m9 => by
    unfold lkC
    rw [s2_ss, s2_ss, e]
    exact ss_c (fun r c _ _ _ _ => by rw [dcF_k e2, e2])
  unfold lnC
  rw [h, h, e, e2]
theorem ln_b {S : St} {o k : Nat} (hw : 0 ≤ S o 0 0) (hh : 0 ≤ S o 0 1) (h : S o 0 1 = S k 0 1 ∧ S o 0 0 = S k 0 0) : 0 ≤ lnC S o k ∧ lnC S o k ≤ S k 0 0 * S k 0 1 := by
  have h2 : ∀ m9 : Prop, 0 ≤ lkC S o k m9 ∧ lkC S o k m9 ≤ S k 0 0 * S k 0 1 := fun m9 => by
    unfold lkC
    rw [s2_ss, ← h.1, ← h.2]
    exact ss_top hw hh
  have h3 := h2 True
  have h4 := h2 False
  unfold lnC
  rw [cif_t h]
  split
  · exact h3
  · exact h4
theorem gd_b {S : St} (h : IV S) : 0 ≤ gdC S ∧ gdC S ≤ 4800 := by
  have := sm_b (f := fun k => cif (S 1 6 k = 1) (woC S (10 + k.toNat) 5) 0) (B := 240) (n := 20) (by decide) (fun k k0 k1 => by
    by_cases q : S 1 6 k = 1
    · show 0 ≤ cif (S 1 6 k = 1) (woC S (10 + k.toNat) 5) 0 ∧ cif (S 1 6 k = 1) (woC S (10 + k.toNat) 5) 0 ≤ 240
      rw [cif_t q]
      obtain ⟨⟨-, pw, ph, -⟩, -⟩ := h.pp ⟨k0, by omega, q⟩
      have := s2_b S (10 + k.toNat) (fun r c => b2 (S (10 + k.toNat) 6 (r * 24 + c) ≠ -1 ∧ S (10 + k.toNat) 5 (r * 24 + c) = 5)) (by omega) (by omega) 1 (by decide) (fun _ _ _ _ _ _ => b2_b _)
      unfold woC
      omega
    · show 0 ≤ cif (S 1 6 k = 1) (woC S (10 + k.toNat) 5) 0 ∧ cif (S 1 6 k = 1) (woC S (10 + k.toNat) 5) 0 ≤ 240
      rw [cif_f q]; decide)
  unfold gdC
  omega
theorem dy_3 {S : St} {u n f e k : Int} (b : Nat) (i : Int) : st (st (st (st (st (st S 2 2 (S 2 0 0) u) 2 3 (S 2 0 0) n) 2 4 (S 2 0 0) n) 2 5 (S 2 0 0) f) 2 6 (S 2 0 0) e) 2 0 0 k 3 b i = S 3 b i := by
  rw [st_at, if_neg (by omega), st_at, if_neg (by omega), st_at, if_neg (by omega), st_at, if_neg (by omega), st_at, if_neg (by omega), st_at, if_neg (by omega)]
theorem LV_dye {S S2 : St} {u n f e : Int} (hV : LV S) (e2 : ∀ (a b : Nat) (i : Int), S2 a b i = if a = 3 ∧ b = 1 ∧ i = 1 then S 3 1 1 + 1 else if a = 3 ∧ b = 3 ∧ i = S 3 1 1 then u else S a b i) :
    LV (st (st (st (st (st (st S2 2 2 (S2 2 0 0) u) 2 3 (S2 2 0 0) n) 2 4 (S2 2 0 0) n) 2 5 (S2 2 0 0) f) 2 6 (S2 2 0 0) e) 2 0 0 (S2 2 0 0 + 1)) := by
  obtain ⟨⟨a0, a1, a2⟩, ad, az, ac⟩ := hV
  have h20 : S2 2 0 0 = S 3 1 1 := by rw [e2, if_neg (by omega), if_neg (by omega), a1]
  rw [h20]
  obtain ⟨k, hk⟩ : ∃ k : Int, S 3 1 1 = k := ⟨_, rfl⟩
  rw [hk] at a1 e2 ⊢
  have q : ∀ (a b : Nat) (i : Int), st (st (st (st (st (st S2 2 2 k u) 2 3 k n) 2 4 k n) 2 5 k f) 2 6 k e) 2 0 0 (k + 1) a b i = if a = 2 ∧ b = 0 ∧ i = 0 then k + 1 else if a = 2 ∧ b = 6 ∧ i = k then e else if a = 2 ∧ b = 5 ∧ i = k then f else if a = 2 ∧ b = 4 ∧ i = k then n else if a = 2 ∧ b = 3 ∧ i = k then n else if a = 2 ∧ b = 2 ∧ i = k then u else S2 a b i := by
    intro a b i
    rw [st_at, st_at, st_at, st_at, st_at, st_at]
  generalize st (st (st (st (st (st S2 2 2 k u) 2 3 k n) 2 4 k n) 2 5 k f) 2 6 k e) 2 0 0 (k + 1) = S' at q
  have g : ∀ (a b : Nat) (i : Int), a ≠ 2 → ¬ (a = 3 ∧ b = 1 ∧ i = 1) → ¬ (a = 3 ∧ b = 3 ∧ i = k) → S' a b i = S a b i := fun a b i h1 h2 h3 => by rw [q, if_neg (by omega), if_neg (by omega), if_neg (by omega), if_neg (by omega), if_neg (by omega), if_neg (by omega), e2, if_neg h2, if_neg h3]
  have g0 : S' 2 0 0 = k + 1 := by rw [q, if_pos ⟨rfl, rfl, rfl⟩]
  have g2 : ∀ i, S' 2 2 i = if i = k then u else S 2 2 i := fun i => by
    rw [q, if_neg (by omega), if_neg (by omega), if_neg (by omega), if_neg (by omega), if_neg (by omega)]
    by_cases hi : i = k
    · rw [if_pos ⟨rfl, rfl, hi⟩, if_pos hi]
    · rw [if_neg (by omega), if_neg hi, e2, if_neg (by omega), if_neg (by omega)]
  have g31 : S' 3 1 1 = k + 1 := by rw [q, if_neg (by omega), if_neg (by omega), if_neg (by omega), if_neg (by omega), if_neg (by omega), if_neg (by omega), e2, if_pos ⟨rfl, rfl, rfl⟩]
  have g33 : S' 3 3 k = u := by rw [q, if_neg (by omega), if_neg (by omega), if_neg (by omega), if_neg (by omega), if_neg (by omega), if_neg (by omega), e2, if_neg (by omega), if_pos ⟨rfl, rfl, rfl⟩]
  refine ⟨⟨by rw [g _ _ _ (by omega) (by omega) (by omega), g _ _ _ (by omega) (by omega) (by omega)]; exact a0, by rw [g31, g0], by rw [g _ _ _ (by omega) (by omega) (by omega), g _ _ _ (by omega) (by omega) (by omega)]; exact a2⟩, fun x x0 x1 => ?_, fun x x0 x1 => ?_, fun j j0 j1 => ?_⟩
  · rw [g _ _ _ (by omega) (by omega) (by omega)] at x1
    rw [g 3 2 _ (by omega) (by omega) (by omega), g 3 2 _ (by omega) (by omega) (by omega), g _ 0 0 (by omega) (by omega) (by omega), g _ 0 1 (by omega) (by omega) (by omega)]
    exact ad x x0 x1
  · rw [g _ _ _ (by omega) (by omega) (by omega)] at x0
    rw [g 3 2 _ (by omega) (by omega) (by omega)]
    exact az x x0 x1
  · rw [g0] at j1
    rw [g2]
    by_cases hj : j = k
    · rw [if_pos hj, hj, g33]
    · rw [if_neg hj, g 3 3 j (by omega) (by omega) (by omega)]
      exact ac j j0 (by omega)
theorem i32_any (z : Int) : ∃ y, rng y ∧ i32 z = i32 y := i32_of (i32 z)
set_option maxHeartbeats 4000000 in
set_option maxRecDepth 100000 in
theorem c_L_acts (l : Launch) (g : GT) (base : Nat) (ad : Nat → Nat → Nat) (S : St) (x y : Int) (hfl : l.stackTraces = false) (hI : IV S) (hV : LV S) (hrn : rng x) (hrn2 : rng y) : Met l yL_acts [Cond.code yL_acts cL_acts 13 (some FieldType.boolean)] ({ frames := 11, cells := 2970, slots := 18559, locals := 223 }) (va_Pc [.ref (ad 1 0), .ref (ad 3 1), .ref (ad 3 2), .ref (ad 3 3), .ref (ad 3 4), .int (i32 (x)), .int (i32 (y))] (PK g base ad S)) (gQ g base (lmP ad)) 2970 18559 (fun q => base ≤ q) := by
  refine mk_m (own := RL) (lv0 := [(0, .ref (ad 1 0)), (1, .ref (ad 3 1)), (2, .ref (ad 3 2)), (3, .ref (ad 3 3)), (4, .ref (ad 3 4)), (5, .int (i32 (x))), (6, .int (i32 (y)))]) (by decide) rfl (Nat.le_of_ble_eq_true rfl) rfl ?_
  intro p e s m below meth cz av Qm hx hb hr hml hown hlocks hK hZ hP hQm ls hl
  have hS : va_S (fun q => base ≤ q) s.heap s.heap [] := va_S.rf
  have rS : ∀ (a1 b1 : Nat) (i1 : Int), rng (S a1 b1 i1) := fun a1 b1 i1 => hP.rg a1 b1 i1
  obtain ⟨⟨v0, v1, v2⟩, vd, vz, vc⟩ := id hV
  have hk5 := hI.k.1
  have hl20 := hI.l.1
  have hp20 := hI.p.1
  refine lv_iload hx hb dL_acts_0 (lv_at hl 5 rfl) ?_
  refine lv_bipush (v := i32 (16)) hx hb dL_acts_2 (by decide) ?_
  refine q_callS2 (As := [.int (i32 (x)), .int (i32 (16))]) (rest := []) hx hb hml hl.1 hown hK hZ hP hS (c_L_low l g base ad S x ((16 : Int)) hrn (by omega)) t_122 (q_callB hK 121 14 123 t_121 t_14 t_123 f_yL_low ⟨Nat.le_of_ble_eq_true rfl, Nat.le_of_ble_eq_true rfl⟩) rfl rfl (Nat.le_of_ble_eq_true rfl) dL_acts_4 (c2 := 0) (s2 := 0) ⟨by first | rfl | (dsimp only; omega), by first | rfl | (dsimp only; omega)⟩ ⟨by show 0 ≤ 2970; omega, by show 0 ≤ 18559; omega⟩ (q_an (fun H locs hP hS => ?_))
  obtain ⟨y1, hy1⟩ : ∃ y99 : Int, loF x ((16 : Int)) = y99 := ⟨_, rfl⟩
  have by1 := lo_b x (show 1 ≤ ((16 : Int)) by omega)
  rw [hy1] at by1
  refine q_nm hy1 ?_
  refine lv_istore (lv' := [(7, .int (i32 (y1))), (0, .ref (ad 1 0)), (1, .ref (ad 3 1)), (2, .ref (ad 3 2)), (3, .ref (ad 3 3)), (4, .ref (ad 3 4)), (5, .int (i32 (x))), (6, .int (i32 (y)))]) hx hb dL_acts_7 hl (by decide) rfl (fun ls hl => ?_)
  refine lv_iload hx hb dL_acts_9 (lv_at hl 0 rfl) ?_
  refine lv_iconst (v := i32 (3)) hx hb dL_acts_11 rfl ?_
  refine q_icmp_lt (tgt := 21) hx hb ⟨by omega, by omega⟩ ⟨by decide, by decide⟩ dL_acts_12 (by decide) (fun c_2 => ?_) (fun c_2 => ?_)
  · -- y1 < 3
    refine lv_aload_n hx hb dL_acts_21 rfl (lv_at hl 1 rfl) ?_
    refine lv_aload_n hx hb dL_acts_22 rfl (lv_at hl 2 rfl) ?_
    refine lv_aload_n hx hb dL_acts_23 rfl (lv_at hl 3 rfl) ?_
    refine lv_iload hx hb dL_acts_24 (lv_at hl 6 rfl) ?_
    refine lv_iconst (v := i32 (4)) hx hb dL_acts_26 rfl ?_
    refine lv_ishr hx hb dL_acts_27 ?_
    obtain ⟨z3, rz3, hz3⟩ := i32_of (i32 (x) >>> (i32 (4) &&& 31))
    rw [hz3]
    refine lv_iload hx hb dL_acts_28 (lv_at hl 7 rfl) ?_
    refine q_callS2 (As := [.ref (ad 1 0), .ref (ad 3 1), .ref (ad 3 2), .int (i32 (z3)), .int (i32 (y))]) (rest := []) hx hb hml hl.1 hown hK hZ hP hS (c_L_draws l g base ad S z3 y hfl hI hV rz3 hrn2) t_348 (q_callB hK 347 14 349 t_347 t_14 t_349 f_yL_draws ⟨Nat.le_of_ble_eq_true rfl, Nat.le_of_ble_eq_true rfl⟩) rfl rfl (Nat.le_of_ble_eq_true rfl) dL_acts_30 (c2 := 10) (s2 := 125) ⟨by first | rfl | (dsimp only; omega), by first | rfl | (dsimp only; omega)⟩ ⟨by show 10 ≤ 2970; omega, by show 125 ≤ 18559; omega⟩ (fun rr ad' S' H locs hQ hP hS => ?_)
    obtain ⟨⟨⟨hr9, ek9⟩, hI9, hV9⟩, hW9⟩ := hQ
    subst hr9
    obtain ⟨S4, hS4⟩ : ∃ s9 : St, s9 = S' := ⟨_, rfl⟩
    rw [← hS4] at hI9 hV9 hP hW9
    obtain ⟨ad5, had5⟩ : ∃ a9 : Nat → Nat → Nat, a9 = ad' := ⟨_, rfl⟩
    rw [← had5] at ek9 hP
    have ek_ad5 : ∀ x q, x < 4 → ad5 x q = ad x q := fun x q h => (ek9 x q h)
    have el_ad5 : ∀ x q, x < 4 → ad5 x q = ad x q := ek9
    have hl : lv_has ls 13 [(7, .int (i32 (y1))), (0, .ref (ad5 1 0)), (1, .ref (ad5 3 1)), (2, .ref (ad5 3 2)), (3, .ref (ad5 3 3)), (4, .ref (ad5 3 4)), (5, .int (i32 (x))), (6, .int (i32 (y)))] := by
      have t9 := hl
      rw [← el_ad5 1 0 (by decide), ← el_ad5 3 1 (by decide), ← el_ad5 3 2 (by decide), ← el_ad5 3 3 (by decide), ← el_ad5 3 4 (by decide)] at t9
      exact t9
    skip
    have ivS4 : IV S4 := hI9
    have lvS4 : LV S4 := hV9
    have hwS4 := hW9
    have rS4 : ∀ (a1 b1 : Nat) (i1 : Int), rng (S4 a1 b1 i1) := fun a1 b1 i1 => hP.rg a1 b1 i1
    subst hQm
    exact q_zret hx hb hr hlocks hP hS (v := 1) (by decide) (by exact ⟨⟨rfl, ek_ad5⟩, ivS4, lvS4⟩) (by show 10 ≤ 2970; omega) (by show 125 ≤ 18559; omega) dL_acts_33
  · -- 3 ≤ y1
    refine lv_aload_n hx hb dL_acts_15 rfl (lv_at hl 2 rfl) ?_
    refine lv_iconst (v := i32 (0)) hx hb dL_acts_16 rfl ?_
    refine p_iald (k := 3) (r := 1) (n := 4) hx hb hK hP hI.a.2.2 rfl rfl (by decide) (by decide) (by omega) (by omega) dL_acts_17 ?_
    refine q_if_ne (tgt := 34) hx hb (rS _ _ _) dL_acts_18 (by decide) (fun c_6 => ?_) (fun c_6 => ?_)
    · -- (S 3 1 0) ≠ 0
      refine lv_iload hx hb dL_acts_34 (lv_at hl 0 rfl) ?_
      refine lv_iconst (v := i32 (3)) hx hb dL_acts_36 rfl ?_
      refine q_icmp_ne (tgt := 131) hx hb ⟨by omega, by omega⟩ ⟨by decide, by decide⟩ dL_acts_37 (by decide) (fun c_7 => ?_) (fun c_7 => ?_)
      · -- y1 ≠ 3
        refine lv_iload hx hb dL_acts_131 (lv_at hl 0 rfl) ?_
        refine lv_iconst (v := i32 (4)) hx hb dL_acts_133 rfl ?_
        refine q_icmp_eq (tgt := 143) hx hb ⟨by omega, by omega⟩ ⟨by decide, by decide⟩ dL_acts_134 (by decide) (fun c_8 => ?_) (fun c_8 => ?_)
        · -- y1 = 4
          refine lv_iload hx hb dL_acts_143 (lv_at hl 6 rfl) ?_
          refine lv_iconst (v := i32 (4)) hx hb dL_acts_145 rfl ?_
          refine lv_ishr hx hb dL_acts_146 ?_
          obtain ⟨z9, rz9, hz9⟩ := i32_of (i32 (x) >>> (i32 (4) &&& 31))
          rw [hz9]
          refine lv_aload_n hx hb dL_acts_147 rfl (lv_at hl 2 rfl) ?_
          refine lv_iconst (v := i32 (0)) hx hb dL_acts_148 rfl ?_
          refine p_iald (k := 3) (r := 1) (n := 4) hx hb hK hP hI.a.2.2 rfl rfl (by decide) (by decide) (by omega) (by omega) dL_acts_149 ?_
          refine q_callS2 (As := [.int (i32 (z9)), .int (i32 (S 3 1 0))]) (rest := []) hx hb hml hl.1 hown hK hZ hP hS (c_L_low l g base ad S z9 (S 3 1 0) rz9 (by omega)) t_122 (q_callB hK 121 14 123 t_121 t_14 t_123 f_yL_low ⟨Nat.le_of_ble_eq_true rfl, Nat.le_of_ble_eq_true rfl⟩) rfl rfl (Nat.le_of_ble_eq_true rfl) dL_acts_150 (c2 := 0) (s2 := 0) ⟨by first | rfl | (dsimp only; omega), by first | rfl | (dsimp only; omega)⟩ ⟨by show 0 ≤ 2970; omega, by show 0 ≤ 18559; omega⟩ (q_an (fun H locs hP hS => ?_))
          obtain ⟨y10, hy10⟩ : ∃ y99 : Int, loF z9 (S 3 1 0) = y99 := ⟨_, rfl⟩
          have by10 := lo_b z9 (show 1 ≤ (S 3 1 0) by omega)
          rw [hy10] at by10
          refine q_nm hy10 ?_
          refine lv_istore (lv' := [(8, .int (i32 (y10))), (7, .int (i32 (y1))), (0, .ref (ad 1 0)), (1, .ref (ad 3 1)), (2, .ref (ad 3 2)), (3, .ref (ad 3 3)), (4, .ref (ad 3 4)), (5, .int (i32 (x))), (6, .int (i32 (y)))]) hx hb dL_acts_153 hl (by decide) rfl (fun ls hl => ?_)
          refine lv_iconst (v := i32 (1)) hx hb dL_acts_155 rfl ?_
          refine lv_iload hx hb dL_acts_156 (lv_at hl 8 rfl) ?_
          refine lv_iconst (v := i32 (4)) hx hb dL_acts_158 rfl ?_
          refine q_callS2 (As := [.int (i32 (y)), .int (i32 (4))]) (rest := [.int (i32 (1))]) hx hb hml hl.1 hown hK hZ hP hS (c_L_low l g base ad S y ((4 : Int)) hrn2 (by omega)) t_122 (q_callB hK 121 14 123 t_121 t_14 t_123 f_yL_low ⟨Nat.le_of_ble_eq_true rfl, Nat.le_of_ble_eq_true rfl⟩) rfl rfl (Nat.le_of_ble_eq_true rfl) dL_acts_159 (c2 := 0) (s2 := 0) ⟨by first | rfl | (dsimp only; omega), by first | rfl | (dsimp only; omega)⟩ ⟨by show 0 ≤ 2970; omega, by show 0 ≤ 18559; omega⟩ (q_an (fun H locs hP hS => ?_))
          obtain ⟨y11, hy11⟩ : ∃ y99 : Int, loF y ((4 : Int)) = y99 := ⟨_, rfl⟩
          have by11 := lo_b y (show 1 ≤ ((4 : Int)) by omega)
          rw [hy11] at by11
          refine q_nm hy11 ?_
          refine q_iadd hx hb dL_acts_162 ?_
          refine lv_istore (lv' := [(9, .int (i32 (1 + y11))), (8, .int (i32 (y10))), (7, .int (i32 (y1))), (0, .ref (ad 1 0)), (1, .ref (ad 3 1)), (2, .ref (ad 3 2)), (3, .ref (ad 3 3)), (4, .ref (ad 3 4)), (5, .int (i32 (x))), (6, .int (i32 (y)))]) hx hb dL_acts_163 hl (by decide) rfl (fun ls hl => ?_)
          by_cases h_B : 1 ≤ 1 + y11 ∧ 1 + y11 ≤ 4 ∧ 1 + y11 ≤ S (4 + Int.toNat y10) 0 0
          · skip
            by_cases h_C : 1 ≤ S (4 + Int.toNat y10) 0 1 ∧ S 1 0 6 < 20
            · skip
              obtain ⟨hd1, hd2, hd3⟩ := vd y10 (by omega) (by omega)
              obtain ⟨⟨-, hcw1, hcw2⟩, -⟩ := hI.k.2.2 y10 (by omega) (by omega)
              refine lv_aload_n hx hb dL_acts_165 rfl (lv_at hl 3 rfl) ?_
              refine lv_iload hx hb dL_acts_166 (lv_at hl 1 rfl) ?_
              refine lv_iload hx hb dL_acts_168 (lv_at hl 0 rfl) ?_
              refine lv_iload hx hb dL_acts_170 (lv_at hl 9 rfl) ?_
              refine lv_iconst (v := i32 (2)) hx hb dL_acts_172 rfl ?_
              refine lv_ishr hx hb dL_acts_173 ?_
              obtain ⟨z12, rz12, hz12⟩ := i32_of (i32 (y) >>> (i32 (2) &&& 31))
              rw [hz12]
              refine lv_iconst (v := i32 (2)) hx hb dL_acts_174 rfl ?_
              refine q_callS2 (As := [.int (i32 (z12)), .int (i32 (2))]) (rest := [.int (i32 (1 + y11)), .int (i32 (y10)), .ref (ad 1 0)]) hx hb hml hl.1 hown hK hZ hP hS (c_L_low l g base ad S z12 ((2 : Int)) rz12 (by omega)) t_122 (q_callB hK 121 14 123 t_121 t_14 t_123 f_yL_low ⟨Nat.le_of_ble_eq_true rfl, Nat.le_of_ble_eq_true rfl⟩) rfl rfl (Nat.le_of_ble_eq_true rfl) dL_acts_175 (c2 := 0) (s2 := 0) ⟨by first | rfl | (dsimp only; omega), by first | rfl | (dsimp only; omega)⟩ ⟨by show 0 ≤ 2970; omega, by show 0 ≤ 18559; omega⟩ (q_an (fun H locs hP hS => ?_))
              obtain ⟨y13, hy13⟩ : ∃ y99 : Int, loF z12 ((2 : Int)) = y99 := ⟨_, rfl⟩
              have by13 := lo_b z12 (show 1 ≤ ((2 : Int)) by omega)
              rw [hy13] at by13
              refine q_nm hy13 ?_
              refine q_if_ne (tgt := 185) hx hb ⟨by omega, by omega⟩ dL_acts_178 (by decide) (fun c_14 => ?_) (fun c_14 => ?_)
              · -- y13 ≠ 0
                refine lv_iconst (v := i32 (0)) hx hb dL_acts_185 rfl ?_
                have w9 := IV_loom (mir := False) hI (hI.ce.mpr (show 0 ≤ y10 ∧ y10 < S 1 0 3 by omega)) h_B h_C
                refine W.eq (g2 := F0 m 186 ls (Value.int (i32 (b2 (False))) :: Value.int (i32 (1 + y11)) :: Value.int (i32 (y10)) :: Value.ref (ad 1 0) :: [])) (by simp only [b2_t trivial, b2_f not_false] <;> rfl) ?_
                refine q_callH2 (As := [.ref (ad 1 0), .int (i32 (y10)), .int (i32 (1 + y11)), .int (i32 (b2 (False)))]) (rest := []) hx hb hml hl.1 hown hK hZ hP hS (c_L_loom l g base ad S y10 (1 + y11) False hfl hI.wc ⟨by omega, by omega⟩ ⟨by omega, by omega⟩ hI.hcf hI.hpf) t_442 t_14 t_444 t_443 f_yL_loom ⟨Nat.le_of_ble_eq_true rfl, Nat.le_of_ble_eq_true rfl⟩ rfl rfl (Nat.le_of_ble_eq_true rfl) dL_acts_186 (c2 := 9) (s2 := 793) ⟨by first | rfl | (dsimp only; omega), by first | rfl | (dsimp only; omega)⟩ ⟨by show 9 ≤ 2970; omega, by show 793 ≤ 18559; omega⟩ (fun rr ad' S' H locs hQ hP hS => ?_)
                have hc9 : (ceC S y10) ∧ (1 ≤ (1 + y11) ∧ (1 + y11) ≤ 4 ∧ (1 + y11) ≤ S (4 + y10.toNat) 0 0) ∧ (1 ≤ S (4 + y10.toNat) 0 1 ∧ S 1 0 6 < 20) := ⟨hI.ce.mpr (by omega), h_B, h_C⟩
                obtain ⟨⟨hr9, ek9⟩, hQ⟩ := hQ
                have hs9 := (hQ.resolve_left (fun y9 => y9.1 hc9)).2
                subst hr9
                rw [hs9] at hP
                refine q_nm (b := S 1 0 6) ((lv_0 hc9.1 hc9.2.1 hc9.2.2).trans (rfl)) ?_
                obtain ⟨ad15, had15⟩ : ∃ a9 : Nat → Nat → Nat, a9 = ad' := ⟨_, rfl⟩
                rw [← had15] at ek9 hP
                have ek_ad15 : ∀ x q, x < 4 → ad15 x q = ad x q := fun x q h => (ek9 x q h)
                have el_ad15 : ∀ x q, x < 4 → ad15 x q = ad x q := ek9
                have hl : lv_has ls 13 [(9, .int (i32 (1 + y11))), (8, .int (i32 (y10))), (7, .int (i32 (y1))), (0, .ref (ad15 1 0)), (1, .ref (ad15 3 1)), (2, .ref (ad15 3 2)), (3, .ref (ad15 3 3)), (4, .ref (ad15 3 4)), (5, .int (i32 (x))), (6, .int (i32 (y)))] := by
                  have t9 := hl
                  rw [← el_ad15 1 0 (by decide), ← el_ad15 3 1 (by decide), ← el_ad15 3 2 (by decide), ← el_ad15 3 3 (by decide), ← el_ad15 3 4 (by decide)] at t9
                  exact t9
                skip
                generalize eS16 : lmS S y10 (1 + y11) False = S16 at hP
                have rS16 : ∀ (a1 b1 : Nat) (i1 : Int), rng (S16 a1 b1 i1) := fun a1 b1 i1 => hP.rg a1 b1 i1
                have ivS16 : IV S16 := by rw [← eS16]; exact w9.1
                have h3S16 : ∀ (b1 : Nat) (i1 : Int), S16 3 b1 i1 = S 3 b1 i1 := by rw [← eS16]; exact fun b i => w9.2.1.2.2 3 b i (by omega) (by omega)
                rw [eS16] at w9
                obtain ⟨-, ⟨g6, g7, fr9⟩, gtr, gln⟩ := w9
                refine lv_istore (lv' := [(10, .int (i32 (S 1 0 6))), (9, .int (i32 (1 + y11))), (8, .int (i32 (y10))), (7, .int (i32 (y1))), (0, .ref (ad15 1 0)), (1, .ref (ad15 3 1)), (2, .ref (ad15 3 2)), (3, .ref (ad15 3 3)), (4, .ref (ad15 3 4)), (5, .int (i32 (x))), (6, .int (i32 (y)))]) hx hb dL_acts_189 hl (by decide) rfl (fun ls hl => ?_)
                refine lv_iload hx hb dL_acts_191 (lv_at hl 1 rfl) ?_
                refine lv_aload_n hx hb dL_acts_193 rfl (lv_at hl 6 rfl) ?_
                refine lv_iconst (v := i32 (2)) hx hb dL_acts_194 rfl ?_
                refine lv_iload hx hb dL_acts_195 (lv_at hl 2 rfl) ?_
                refine q_imul hx hb dL_acts_197 ?_
                refine p_iald (k := 3) (r := 2) (n := 10) hx hb hK hP ivS16.a.2.2 rfl rfl (by decide) (by decide) (by omega) (by omega) dL_acts_198 ?_
                refine q_nm (show S16 3 2 (2 * y10) = S 3 2 (2 * y10) from by rw [h3S16]) ?_
                refine q_icmp_le (tgt := 215) hx hb ⟨by omega, by omega⟩ (rS _ _ _) dL_acts_199 (by decide) (fun c_17 => ?_) (fun c_17 => (by exfalso; omega))
                refine lv_aload_n hx hb dL_acts_215 rfl (lv_at hl 6 rfl) ?_
                refine lv_iconst (v := i32 (2)) hx hb dL_acts_216 rfl ?_
                refine lv_iload hx hb dL_acts_217 (lv_at hl 2 rfl) ?_
                refine q_imul hx hb dL_acts_219 ?_
                refine lv_iconst (v := i32 (1)) hx hb dL_acts_220 rfl ?_
                refine q_iadd hx hb dL_acts_221 ?_
                refine p_iald (k := 3) (r := 2) (n := 10) hx hb hK hP ivS16.a.2.2 rfl rfl (by decide) (by decide) (by omega) (by omega) dL_acts_222 ?_
                refine q_nm (show S16 3 2 ((2 * y10) + 1) = S 3 2 ((2 * y10) + 1) from by rw [h3S16]) ?_
                refine q_if_eq (tgt := 234) hx hb (rS _ _ _) dL_acts_223 (by decide) (fun c_18 => (by exfalso; omega)) (fun c_18 => ?_)
                refine lv_aload_n hx hb dL_acts_226 rfl (lv_at hl 5 rfl) ?_
                refine lv_iconst (v := i32 (2)) hx hb dL_acts_227 rfl ?_
                refine p_iald (k := 3) (r := 1) (n := 4) hx hb hK hP ivS16.a.2.2 rfl rfl (by decide) (by decide) (by omega) (by omega) dL_acts_228 ?_
                refine q_nm (show S16 3 1 2 = S 3 1 2 from by rw [h3S16]) ?_
                refine lv_bipush (v := i32 (20)) hx hb dL_acts_229 (by decide) ?_
                refine q_icmp_ne (tgt := 247) hx hb (rS _ _ _) ⟨by decide, by decide⟩ dL_acts_231 (by decide) (fun c_19 => ?_) (fun c_19 => (by exfalso; omega))
                refine lv_aload_n hx hb dL_acts_247 rfl (lv_at hl 5 rfl) ?_
                refine lv_iconst (v := i32 (2)) hx hb dL_acts_248 rfl ?_
                refine lv_dup2_11 hx hb dL_acts_249 rfl rfl ?_
                refine p_iald (k := 3) (r := 1) (n := 4) hx hb hK hP ivS16.a.2.2 rfl rfl (by decide) (by decide) (by omega) (by omega) dL_acts_250 ?_
                refine q_nm (show S16 3 1 2 = S 3 1 2 from by rw [h3S16]) ?_
                refine lv_iconst (v := i32 (1)) hx hb dL_acts_251 rfl ?_
                refine q_iadd hx hb dL_acts_252 ?_
                refine p_iast (k := 3) (r := 1) (n := 4) hx hb hK hP hS ivS16.a.2.2 rfl rfl (by decide) (by decide) (by omega) (by omega) ⟨by omega, by omega⟩ dL_acts_253 (fun H locs hP hS => ?_)
                generalize eS20 : st S16 3 1 2 ((S 3 1 2) + 1) = S20 at hP
                have qS20 : ∀ (a1 b1 : Nat) (i1 : Int), S20 a1 b1 i1 = if a1 = 3 ∧ b1 = 1 ∧ i1 = 2 then (S 3 1 2) + 1 else S16 a1 b1 i1 := fun a1 b1 i1 => by rw [← eS20]; exact st_at _ _ _ _ _ _ _ _
                have rS20 : ∀ (a1 b1 : Nat) (i1 : Int), rng (S20 a1 b1 i1) := fun a1 b1 i1 => hP.rg a1 b1 i1
                have aS20_1 : S20 1 0 (-1) = 1 := by rw [qS20, if_neg (by omega)]; exact ivS16.a.1
                have aS20_2 : S20 2 0 (-1) = 1 := by rw [qS20, if_neg (by omega)]; exact ivS16.a.2.1
                have aS20_3 : S20 3 0 (-1) = 1 := by rw [qS20, if_neg (by omega)]; exact ivS16.a.2.2
                have ivS20 : IV S20 := by rw [← eS20]; exact IV_3 ivS16 (by decide)
                have en : ∀ a : Nat, a ≠ 3 → S20 a = S16 a := fun a h => fe (fun b i => by rw [qS20, if_neg (by omega)])
                have kN2 : peC S20 (S 1 0 6) := ⟨hp20.1, by omega, by rw [en 1 (by decide)]; exact g7⟩
                obtain ⟨na1, na2, na3⟩ := ob_k (en (10 + Int.toNat (S 1 0 6)) (by omega))
                have lv9 : LV S20 := LV_n hV hI.k.1.2 (fun b i h => by rw [qS20, if_neg (by omega), fr9 _ _ _ (by omega) (by omega)]) (by rw [qS20, if_pos ⟨rfl, rfl, rfl⟩, en 1 (by decide), g6, v2]) (by rw [en 1 (by decide), fr9 _ _ _ (by omega) (by omega)]) (by rw [en 2 (by decide)]; exact fe (fun b i => fr9 _ _ _ (by omega) (by omega))) (fun a h1 h2 => by rw [en a (by omega)]; exact fe (fun b i => fr9 _ _ _ (by omega) (by omega)))
                have hcc : ceC S20 y10 := ivS20.ce.mpr (by rw [en 1 (by decide), fr9 _ _ _ (by omega) (by omega)]; omega)
                have hm0 : 0 ≤ (S 3 2 (2 * y10)) * (S 3 2 ((2 * y10) + 1)) := Int.mul_nonneg (by omega) (by omega)
                have hm1 : (S 3 2 (2 * y10)) * (S 3 2 ((2 * y10) + 1)) ≤ 240 := mul240 (by omega) (by omega) (by omega) (by omega)
                refine lv_iload hx hb dL_acts_254 (lv_at hl 0 rfl) ?_
                refine lv_aload_n hx hb dL_acts_256 rfl (lv_at hl 5 rfl) ?_
                refine lv_iconst (v := i32 (2)) hx hb dL_acts_257 rfl ?_
                refine p_iald (k := 3) (r := 1) (n := 4) hx hb hK hP aS20_3 rfl rfl (by decide) (by decide) (by omega) (by omega) dL_acts_258 ?_
                refine q_nm (show S20 3 1 2 = (S 3 1 2) + 1 from by rw [qS20, if_pos ⟨rfl, rfl, rfl⟩]) ?_
                refine lv_iconst (v := i32 (1)) hx hb dL_acts_259 rfl ?_
                refine q_isub hx hb dL_acts_260 ?_
                refine q_icmp_ne (tgt := 314) hx hb (rS _ _ _) ⟨by omega, by omega⟩ dL_acts_261 (by decide) (fun c_21 => (by exfalso; omega)) (fun c_21 => ?_)
                refine lv_aload_n hx hb dL_acts_264 rfl (lv_at hl 4 rfl) ?_
                refine lv_iload hx hb dL_acts_265 (lv_at hl 0 rfl) ?_
                refine lv_iload hx hb dL_acts_267 (lv_at hl 2 rfl) ?_
                refine q_callH2 (As := [.ref (ad15 1 0), .int (i32 (S 1 0 6)), .int (i32 (y10))]) (rest := []) hx hb hml hl.1 hown hK hZ hP hS (c_L_likeness l g base ad15 S20 (S 1 0 6) y10 hfl ivS20.wc (rS _ _ _) ⟨by omega, by omega⟩) t_504 t_14 t_506 t_505 f_yL_likeness ⟨Nat.le_of_ble_eq_true rfl, Nat.le_of_ble_eq_true rfl⟩ rfl rfl (Nat.le_of_ble_eq_true rfl) dL_acts_269 (c2 := 11) (s2 := 805) ⟨by first | rfl | (dsimp only; omega), by first | rfl | (dsimp only; omega)⟩ ⟨by show 11 ≤ 2970; omega, by show 805 ≤ 18559; omega⟩ (q_an (fun H locs hP hS => ?_))
                refine q_nm (b := S 3 2 (2 * y10) * S 3 2 ((2 * y10) + 1)) ((lv_0 ⟨kN2, hcc⟩ trivial trivial).trans (by rw [ln_k (en _ (by omega)) (en _ (by omega)), gln, ← hd1, ← hd3])) ?_
                refine lv_aload_n hx hb dL_acts_272 rfl (lv_at hl 6 rfl) ?_
                refine lv_iconst (v := i32 (2)) hx hb dL_acts_273 rfl ?_
                refine lv_iload hx hb dL_acts_274 (lv_at hl 2 rfl) ?_
                refine q_imul hx hb dL_acts_276 ?_
                refine p_iald (k := 3) (r := 2) (n := 10) hx hb hK hP aS20_3 rfl rfl (by decide) (by decide) (by omega) (by omega) dL_acts_277 ?_
                refine q_nm (show S20 3 2 (2 * y10) = S 3 2 (2 * y10) from by rw [qS20, if_neg (by omega), h3S16]) ?_
                refine lv_aload_n hx hb dL_acts_278 rfl (lv_at hl 6 rfl) ?_
                refine lv_iconst (v := i32 (2)) hx hb dL_acts_279 rfl ?_
                refine lv_iload hx hb dL_acts_280 (lv_at hl 2 rfl) ?_
                refine q_imul hx hb dL_acts_282 ?_
                refine lv_iconst (v := i32 (1)) hx hb dL_acts_283 rfl ?_
                refine q_iadd hx hb dL_acts_284 ?_
                refine p_iald (k := 3) (r := 2) (n := 10) hx hb hK hP aS20_3 rfl rfl (by decide) (by decide) (by omega) (by omega) dL_acts_285 ?_
                refine q_nm (show S20 3 2 ((2 * y10) + 1) = S 3 2 ((2 * y10) + 1) from by rw [qS20, if_neg (by omega), h3S16]) ?_
                refine q_imul hx hb dL_acts_286 ?_
                refine q_icmp_ne (tgt := 314) hx hb ⟨by omega, by omega⟩ ⟨by omega, by omega⟩ dL_acts_287 (by decide) (fun c_22 => (by exfalso; omega)) (fun c_22 => ?_)
                refine lv_aload_n hx hb dL_acts_290 rfl (lv_at hl 4 rfl) ?_
                refine lv_iload hx hb dL_acts_291 (lv_at hl 0 rfl) ?_
                refine q_callH2 (As := [.ref (ad15 1 0), .int (i32 (S 1 0 6))]) (rest := []) hx hb hml hl.1 hown hK hZ hP hS (c_L_isTrue l g base ad15 S20 (S 1 0 6) hfl ivS20.wc (rS _ _ _)) t_516 t_14 t_518 t_517 f_yL_isTrue ⟨Nat.le_of_ble_eq_true rfl, Nat.le_of_ble_eq_true rfl⟩ rfl rfl (Nat.le_of_ble_eq_true rfl) dL_acts_293 (c2 := 12) (s2 := 811) ⟨by first | rfl | (dsimp only; omega), by first | rfl | (dsimp only; omega)⟩ ⟨by show 12 ≤ 2970; omega, by show 811 ≤ 18559; omega⟩ (q_an (fun H locs hP hS => ?_))
                refine q_nm (b := 1) ((lv_0 kN2 trivial trivial).trans (b2_t (na3.mpr gtr))) ?_
                refine lv_iconst (v := i32 (1)) hx hb dL_acts_296 rfl ?_
                refine q_icmp_ne (tgt := 314) hx hb ⟨by decide, by decide⟩ ⟨by decide, by decide⟩ dL_acts_297 (by decide) (fun c_23 => (by exfalso; omega)) (fun c_23 => ?_)
                refine lv_aload_n hx hb dL_acts_300 rfl (lv_at hl 4 rfl) ?_
                refine lv_aload_n hx hb dL_acts_301 rfl (lv_at hl 7 rfl) ?_
                refine lv_iload hx hb dL_acts_302 (lv_at hl 0 rfl) ?_
                refine q_callS2 (As := [.ref (ad15 1 0), .ref (ad15 3 3), .int (i32 (S 1 0 6))]) (rest := []) hx hb hml hl.1 hown hK hZ hP hS (c_L_isPiece l g base ad15 S20 (S 1 0 6) hfl ivS20 kN2 lv9.2.2.2 (rS _ _ _)) t_329 (q_callB hK 328 14 330 t_328 t_14 t_330 f_yL_isPiece ⟨Nat.le_of_ble_eq_true rfl, Nat.le_of_ble_eq_true rfl⟩) rfl rfl (Nat.le_of_ble_eq_true rfl) dL_acts_304 (c2 := 1472) (s2 := 9571) ⟨by first | rfl | (dsimp only; omega), by first | rfl | (dsimp only; omega)⟩ ⟨by show 1472 ≤ 2970; omega, by show 9571 ≤ 18559; omega⟩ (q_an (fun H locs hP hS => ?_))
                refine q_if_eq (tgt := 314) hx hb ⟨by decide, by decide⟩ dL_acts_307 (by decide) (fun h => by omega) (fun _ => ?_)
                refine lv_iconst (v := i32 (1)) hx hb dL_acts_310 rfl ?_
                refine lv_goto (tgt := 315) hx hb dL_acts_311 (by decide) ?_
                subst hQm
                exact q_zret hx hb hr hlocks hP hS (v := 1) (by decide) (by exact ⟨⟨rfl, ek_ad15⟩, ivS20, lv9⟩) (by show 1472 ≤ 2970; omega) (by show 9571 ≤ 18559; omega) dL_acts_315
              · -- y13 = 0
                refine lv_iconst (v := i32 (1)) hx hb dL_acts_181 rfl ?_
                refine lv_goto (tgt := 186) hx hb dL_acts_182 (by decide) ?_
                have w9 := IV_loom (mir := True) hI (hI.ce.mpr (show 0 ≤ y10 ∧ y10 < S 1 0 3 by omega)) h_B h_C
                refine W.eq (g2 := F0 m 186 ls (Value.int (i32 (b2 (True))) :: Value.int (i32 (1 + y11)) :: Value.int (i32 (y10)) :: Value.ref (ad 1 0) :: [])) (by simp only [b2_t trivial, b2_f not_false] <;> rfl) ?_
                refine q_callH2 (As := [.ref (ad 1 0), .int (i32 (y10)), .int (i32 (1 + y11)), .int (i32 (b2 (True)))]) (rest := []) hx hb hml hl.1 hown hK hZ hP hS (c_L_loom l g base ad S y10 (1 + y11) True hfl hI.wc ⟨by omega, by omega⟩ ⟨by omega, by omega⟩ hI.hcf hI.hpf) t_442 t_14 t_444 t_443 f_yL_loom ⟨Nat.le_of_ble_eq_true rfl, Nat.le_of_ble_eq_true rfl⟩ rfl rfl (Nat.le_of_ble_eq_true rfl) dL_acts_186 (c2 := 9) (s2 := 793) ⟨by first | rfl | (dsimp only; omega), by first | rfl | (dsimp only; omega)⟩ ⟨by show 9 ≤ 2970; omega, by show 793 ≤ 18559; omega⟩ (fun rr ad' S' H locs hQ hP hS => ?_)
                have hc9 : (ceC S y10) ∧ (1 ≤ (1 + y11) ∧ (1 + y11) ≤ 4 ∧ (1 + y11) ≤ S (4 + y10.toNat) 0 0) ∧ (1 ≤ S (4 + y10.toNat) 0 1 ∧ S 1 0 6 < 20) := ⟨hI.ce.mpr (by omega), h_B, h_C⟩
                obtain ⟨⟨hr9, ek9⟩, hQ⟩ := hQ
                have hs9 := (hQ.resolve_left (fun y9 => y9.1 hc9)).2
                subst hr9
                rw [hs9] at hP
                refine q_nm (b := S 1 0 6) ((lv_0 hc9.1 hc9.2.1 hc9.2.2).trans (rfl)) ?_
                obtain ⟨ad24, had24⟩ : ∃ a9 : Nat → Nat → Nat, a9 = ad' := ⟨_, rfl⟩
                rw [← had24] at ek9 hP
                have ek_ad24 : ∀ x q, x < 4 → ad24 x q = ad x q := fun x q h => (ek9 x q h)
                have el_ad24 : ∀ x q, x < 4 → ad24 x q = ad x q := ek9
                have hl : lv_has ls 13 [(9, .int (i32 (1 + y11))), (8, .int (i32 (y10))), (7, .int (i32 (y1))), (0, .ref (ad24 1 0)), (1, .ref (ad24 3 1)), (2, .ref (ad24 3 2)), (3, .ref (ad24 3 3)), (4, .ref (ad24 3 4)), (5, .int (i32 (x))), (6, .int (i32 (y)))] := by
                  have t9 := hl
                  rw [← el_ad24 1 0 (by decide), ← el_ad24 3 1 (by decide), ← el_ad24 3 2 (by decide), ← el_ad24 3 3 (by decide), ← el_ad24 3 4 (by decide)] at t9
                  exact t9
                skip
                generalize eS25 : lmS S y10 (1 + y11) True = S25 at hP
                have rS25 : ∀ (a1 b1 : Nat) (i1 : Int), rng (S25 a1 b1 i1) := fun a1 b1 i1 => hP.rg a1 b1 i1
                have ivS25 : IV S25 := by rw [← eS25]; exact w9.1
                have h3S25 : ∀ (b1 : Nat) (i1 : Int), S25 3 b1 i1 = S 3 b1 i1 := by rw [← eS25]; exact fun b i => w9.2.1.2.2 3 b i (by omega) (by omega)
                rw [eS25] at w9
                obtain ⟨-, ⟨g6, g7, fr9⟩, gtr, gln⟩ := w9
                refine lv_istore (lv' := [(10, .int (i32 (S 1 0 6))), (9, .int (i32 (1 + y11))), (8, .int (i32 (y10))), (7, .int (i32 (y1))), (0, .ref (ad24 1 0)), (1, .ref (ad24 3 1)), (2, .ref (ad24 3 2)), (3, .ref (ad24 3 3)), (4, .ref (ad24 3 4)), (5, .int (i32 (x))), (6, .int (i32 (y)))]) hx hb dL_acts_189 hl (by decide) rfl (fun ls hl => ?_)
                refine lv_iload hx hb dL_acts_191 (lv_at hl 1 rfl) ?_
                refine lv_aload_n hx hb dL_acts_193 rfl (lv_at hl 6 rfl) ?_
                refine lv_iconst (v := i32 (2)) hx hb dL_acts_194 rfl ?_
                refine lv_iload hx hb dL_acts_195 (lv_at hl 2 rfl) ?_
                refine q_imul hx hb dL_acts_197 ?_
                refine p_iald (k := 3) (r := 2) (n := 10) hx hb hK hP ivS25.a.2.2 rfl rfl (by decide) (by decide) (by omega) (by omega) dL_acts_198 ?_
                refine q_nm (show S25 3 2 (2 * y10) = S 3 2 (2 * y10) from by rw [h3S25]) ?_
                refine q_icmp_le (tgt := 215) hx hb ⟨by omega, by omega⟩ (rS _ _ _) dL_acts_199 (by decide) (fun c_26 => ?_) (fun c_26 => (by exfalso; omega))
                refine lv_aload_n hx hb dL_acts_215 rfl (lv_at hl 6 rfl) ?_
                refine lv_iconst (v := i32 (2)) hx hb dL_acts_216 rfl ?_
                refine lv_iload hx hb dL_acts_217 (lv_at hl 2 rfl) ?_
                refine q_imul hx hb dL_acts_219 ?_
                refine lv_iconst (v := i32 (1)) hx hb dL_acts_220 rfl ?_
                refine q_iadd hx hb dL_acts_221 ?_
                refine p_iald (k := 3) (r := 2) (n := 10) hx hb hK hP ivS25.a.2.2 rfl rfl (by decide) (by decide) (by omega) (by omega) dL_acts_222 ?_
                refine q_nm (show S25 3 2 ((2 * y10) + 1) = S 3 2 ((2 * y10) + 1) from by rw [h3S25]) ?_
                refine q_if_eq (tgt := 234) hx hb (rS _ _ _) dL_acts_223 (by decide) (fun c_27 => (by exfalso; omega)) (fun c_27 => ?_)
                refine lv_aload_n hx hb dL_acts_226 rfl (lv_at hl 5 rfl) ?_
                refine lv_iconst (v := i32 (2)) hx hb dL_acts_227 rfl ?_
                refine p_iald (k := 3) (r := 1) (n := 4) hx hb hK hP ivS25.a.2.2 rfl rfl (by decide) (by decide) (by omega) (by omega) dL_acts_228 ?_
                refine q_nm (show S25 3 1 2 = S 3 1 2 from by rw [h3S25]) ?_
                refine lv_bipush (v := i32 (20)) hx hb dL_acts_229 (by decide) ?_
                refine q_icmp_ne (tgt := 247) hx hb (rS _ _ _) ⟨by decide, by decide⟩ dL_acts_231 (by decide) (fun c_28 => ?_) (fun c_28 => (by exfalso; omega))
                refine lv_aload_n hx hb dL_acts_247 rfl (lv_at hl 5 rfl) ?_
                refine lv_iconst (v := i32 (2)) hx hb dL_acts_248 rfl ?_
                refine lv_dup2_11 hx hb dL_acts_249 rfl rfl ?_
                refine p_iald (k := 3) (r := 1) (n := 4) hx hb hK hP ivS25.a.2.2 rfl rfl (by decide) (by decide) (by omega) (by omega) dL_acts_250 ?_
                refine q_nm (show S25 3 1 2 = S 3 1 2 from by rw [h3S25]) ?_
                refine lv_iconst (v := i32 (1)) hx hb dL_acts_251 rfl ?_
                refine q_iadd hx hb dL_acts_252 ?_
                refine p_iast (k := 3) (r := 1) (n := 4) hx hb hK hP hS ivS25.a.2.2 rfl rfl (by decide) (by decide) (by omega) (by omega) ⟨by omega, by omega⟩ dL_acts_253 (fun H locs hP hS => ?_)
                generalize eS29 : st S25 3 1 2 ((S 3 1 2) + 1) = S29 at hP
                have qS29 : ∀ (a1 b1 : Nat) (i1 : Int), S29 a1 b1 i1 = if a1 = 3 ∧ b1 = 1 ∧ i1 = 2 then (S 3 1 2) + 1 else S25 a1 b1 i1 := fun a1 b1 i1 => by rw [← eS29]; exact st_at _ _ _ _ _ _ _ _
                have rS29 : ∀ (a1 b1 : Nat) (i1 : Int), rng (S29 a1 b1 i1) := fun a1 b1 i1 => hP.rg a1 b1 i1
                have aS29_1 : S29 1 0 (-1) = 1 := by rw [qS29, if_neg (by omega)]; exact ivS25.a.1
                have aS29_2 : S29 2 0 (-1) = 1 := by rw [qS29, if_neg (by omega)]; exact ivS25.a.2.1
                have aS29_3 : S29 3 0 (-1) = 1 := by rw [qS29, if_neg (by omega)]; exact ivS25.a.2.2
                have ivS29 : IV S29 := by rw [← eS29]; exact IV_3 ivS25 (by decide)
                have en : ∀ a : Nat, a ≠ 3 → S29 a = S25 a := fun a h => fe (fun b i => by rw [qS29, if_neg (by omega)])
                have kN2 : peC S29 (S 1 0 6) := ⟨hp20.1, by omega, by rw [en 1 (by decide)]; exact g7⟩
                obtain ⟨na1, na2, na3⟩ := ob_k (en (10 + Int.toNat (S 1 0 6)) (by omega))
                have lv9 : LV S29 := LV_n hV hI.k.1.2 (fun b i h => by rw [qS29, if_neg (by omega), fr9 _ _ _ (by omega) (by omega)]) (by rw [qS29, if_pos ⟨rfl, rfl, rfl⟩, en 1 (by decide), g6, v2]) (by rw [en 1 (by decide), fr9 _ _ _ (by omega) (by omega)]) (by rw [en 2 (by decide)]; exact fe (fun b i => fr9 _ _ _ (by omega) (by omega))) (fun a h1 h2 => by rw [en a (by omega)]; exact fe (fun b i => fr9 _ _ _ (by omega) (by omega)))
                have hcc : ceC S29 y10 := ivS29.ce.mpr (by rw [en 1 (by decide), fr9 _ _ _ (by omega) (by omega)]; omega)
                have hm0 : 0 ≤ (S 3 2 (2 * y10)) * (S 3 2 ((2 * y10) + 1)) := Int.mul_nonneg (by omega) (by omega)
                have hm1 : (S 3 2 (2 * y10)) * (S 3 2 ((2 * y10) + 1)) ≤ 240 := mul240 (by omega) (by omega) (by omega) (by omega)
                refine lv_iload hx hb dL_acts_254 (lv_at hl 0 rfl) ?_
                refine lv_aload_n hx hb dL_acts_256 rfl (lv_at hl 5 rfl) ?_
                refine lv_iconst (v := i32 (2)) hx hb dL_acts_257 rfl ?_
                refine p_iald (k := 3) (r := 1) (n := 4) hx hb hK hP aS29_3 rfl rfl (by decide) (by decide) (by omega) (by omega) dL_acts_258 ?_
                refine q_nm (show S29 3 1 2 = (S 3 1 2) + 1 from by rw [qS29, if_pos ⟨rfl, rfl, rfl⟩]) ?_
                refine lv_iconst (v := i32 (1)) hx hb dL_acts_259 rfl ?_
                refine q_isub hx hb dL_acts_260 ?_
                refine q_icmp_ne (tgt := 314) hx hb (rS _ _ _) ⟨by omega, by omega⟩ dL_acts_261 (by decide) (fun c_30 => (by exfalso; omega)) (fun c_30 => ?_)
                refine lv_aload_n hx hb dL_acts_264 rfl (lv_at hl 4 rfl) ?_
                refine lv_iload hx hb dL_acts_265 (lv_at hl 0 rfl) ?_
                refine lv_iload hx hb dL_acts_267 (lv_at hl 2 rfl) ?_
                refine q_callH2 (As := [.ref (ad24 1 0), .int (i32 (S 1 0 6)), .int (i32 (y10))]) (rest := []) hx hb hml hl.1 hown hK hZ hP hS (c_L_likeness l g base ad24 S29 (S 1 0 6) y10 hfl ivS29.wc (rS _ _ _) ⟨by omega, by omega⟩) t_504 t_14 t_506 t_505 f_yL_likeness ⟨Nat.le_of_ble_eq_true rfl, Nat.le_of_ble_eq_true rfl⟩ rfl rfl (Nat.le_of_ble_eq_true rfl) dL_acts_269 (c2 := 11) (s2 := 805) ⟨by first | rfl | (dsimp only; omega), by first | rfl | (dsimp only; omega)⟩ ⟨by show 11 ≤ 2970; omega, by show 805 ≤ 18559; omega⟩ (q_an (fun H locs hP hS => ?_))
                refine q_nm (b := S 3 2 (2 * y10) * S 3 2 ((2 * y10) + 1)) ((lv_0 ⟨kN2, hcc⟩ trivial trivial).trans (by rw [ln_k (en _ (by omega)) (en _ (by omega)), gln, ← hd1, ← hd3])) ?_
                refine lv_aload_n hx hb dL_acts_272 rfl (lv_at hl 6 rfl) ?_
                refine lv_iconst (v := i32 (2)) hx hb dL_acts_273 rfl ?_
                refine lv_iload hx hb dL_acts_274 (lv_at hl 2 rfl) ?_
                refine q_imul hx hb dL_acts_276 ?_
                refine p_iald (k := 3) (r := 2) (n := 10) hx hb hK hP aS29_3 rfl rfl (by decide) (by decide) (by omega) (by omega) dL_acts_277 ?_
                refine q_nm (show S29 3 2 (2 * y10) = S 3 2 (2 * y10) from by rw [qS29, if_neg (by omega), h3S25]) ?_
                refine lv_aload_n hx hb dL_acts_278 rfl (lv_at hl 6 rfl) ?_
                refine lv_iconst (v := i32 (2)) hx hb dL_acts_279 rfl ?_
                refine lv_iload hx hb dL_acts_280 (lv_at hl 2 rfl) ?_
                refine q_imul hx hb dL_acts_282 ?_
                refine lv_iconst (v := i32 (1)) hx hb dL_acts_283 rfl ?_
                refine q_iadd hx hb dL_acts_284 ?_
                refine p_iald (k := 3) (r := 2) (n := 10) hx hb hK hP aS29_3 rfl rfl (by decide) (by decide) (by omega) (by omega) dL_acts_285 ?_
                refine q_nm (show S29 3 2 ((2 * y10) + 1) = S 3 2 ((2 * y10) + 1) from by rw [qS29, if_neg (by omega), h3S25]) ?_
                refine q_imul hx hb dL_acts_286 ?_
                refine q_icmp_ne (tgt := 314) hx hb ⟨by omega, by omega⟩ ⟨by omega, by omega⟩ dL_acts_287 (by decide) (fun c_31 => (by exfalso; omega)) (fun c_31 => ?_)
                refine lv_aload_n hx hb dL_acts_290 rfl (lv_at hl 4 rfl) ?_
                refine lv_iload hx hb dL_acts_291 (lv_at hl 0 rfl) ?_
                refine q_callH2 (As := [.ref (ad24 1 0), .int (i32 (S 1 0 6))]) (rest := []) hx hb hml hl.1 hown hK hZ hP hS (c_L_isTrue l g base ad24 S29 (S 1 0 6) hfl ivS29.wc (rS _ _ _)) t_516 t_14 t_518 t_517 f_yL_isTrue ⟨Nat.le_of_ble_eq_true rfl, Nat.le_of_ble_eq_true rfl⟩ rfl rfl (Nat.le_of_ble_eq_true rfl) dL_acts_293 (c2 := 12) (s2 := 811) ⟨by first | rfl | (dsimp only; omega), by first | rfl | (dsimp only; omega)⟩ ⟨by show 12 ≤ 2970; omega, by show 811 ≤ 18559; omega⟩ (q_an (fun H locs hP hS => ?_))
                refine q_nm (b := 1) ((lv_0 kN2 trivial trivial).trans (b2_t (na3.mpr gtr))) ?_
                refine lv_iconst (v := i32 (1)) hx hb dL_acts_296 rfl ?_
                refine q_icmp_ne (tgt := 314) hx hb ⟨by decide, by decide⟩ ⟨by decide, by decide⟩ dL_acts_297 (by decide) (fun c_32 => (by exfalso; omega)) (fun c_32 => ?_)
                refine lv_aload_n hx hb dL_acts_300 rfl (lv_at hl 4 rfl) ?_
                refine lv_aload_n hx hb dL_acts_301 rfl (lv_at hl 7 rfl) ?_
                refine lv_iload hx hb dL_acts_302 (lv_at hl 0 rfl) ?_
                refine q_callS2 (As := [.ref (ad24 1 0), .ref (ad24 3 3), .int (i32 (S 1 0 6))]) (rest := []) hx hb hml hl.1 hown hK hZ hP hS (c_L_isPiece l g base ad24 S29 (S 1 0 6) hfl ivS29 kN2 lv9.2.2.2 (rS _ _ _)) t_329 (q_callB hK 328 14 330 t_328 t_14 t_330 f_yL_isPiece ⟨Nat.le_of_ble_eq_true rfl, Nat.le_of_ble_eq_true rfl⟩) rfl rfl (Nat.le_of_ble_eq_true rfl) dL_acts_304 (c2 := 1472) (s2 := 9571) ⟨by first | rfl | (dsimp only; omega), by first | rfl | (dsimp only; omega)⟩ ⟨by show 1472 ≤ 2970; omega, by show 9571 ≤ 18559; omega⟩ (q_an (fun H locs hP hS => ?_))
                refine q_if_eq (tgt := 314) hx hb ⟨by decide, by decide⟩ dL_acts_307 (by decide) (fun h => by omega) (fun _ => ?_)
                refine lv_iconst (v := i32 (1)) hx hb dL_acts_310 rfl ?_
                refine lv_goto (tgt := 315) hx hb dL_acts_311 (by decide) ?_
                subst hQm
                exact q_zret hx hb hr hlocks hP hS (v := 1) (by decide) (by exact ⟨⟨rfl, ek_ad24⟩, ivS29, lv9⟩) (by show 1472 ≤ 2970; omega) (by show 9571 ≤ 18559; omega) dL_acts_315
            · skip
              obtain ⟨hd1, hd2, hd3⟩ := vd y10 (by omega) (by omega)
              obtain ⟨⟨-, hcw1, hcw2⟩, -⟩ := hI.k.2.2 y10 (by omega) (by omega)
              refine lv_aload_n hx hb dL_acts_165 rfl (lv_at hl 3 rfl) ?_
              refine lv_iload hx hb dL_acts_166 (lv_at hl 1 rfl) ?_
              refine lv_iload hx hb dL_acts_168 (lv_at hl 0 rfl) ?_
              refine lv_iload hx hb dL_acts_170 (lv_at hl 9 rfl) ?_
              refine lv_iconst (v := i32 (2)) hx hb dL_acts_172 rfl ?_
              refine lv_ishr hx hb dL_acts_173 ?_
              obtain ⟨z33, rz33, hz33⟩ := i32_of (i32 (y) >>> (i32 (2) &&& 31))
              rw [hz33]
              refine lv_iconst (v := i32 (2)) hx hb dL_acts_174 rfl ?_
              refine q_callS2 (As := [.int (i32 (z33)), .int (i32 (2))]) (rest := [.int (i32 (1 + y11)), .int (i32 (y10)), .ref (ad 1 0)]) hx hb hml hl.1 hown hK hZ hP hS (c_L_low l g base ad S z33 ((2 : Int)) rz33 (by omega)) t_122 (q_callB hK 121 14 123 t_121 t_14 t_123 f_yL_low ⟨Nat.le_of_ble_eq_true rfl, Nat.le_of_ble_eq_true rfl⟩) rfl rfl (Nat.le_of_ble_eq_true rfl) dL_acts_175 (c2 := 0) (s2 := 0) ⟨by first | rfl | (dsimp only; omega), by first | rfl | (dsimp only; omega)⟩ ⟨by show 0 ≤ 2970; omega, by show 0 ≤ 18559; omega⟩ (q_an (fun H locs hP hS => ?_))
              obtain ⟨y34, hy34⟩ : ∃ y99 : Int, loF z33 ((2 : Int)) = y99 := ⟨_, rfl⟩
              have by34 := lo_b z33 (show 1 ≤ ((2 : Int)) by omega)
              rw [hy34] at by34
              refine q_nm hy34 ?_
              refine q_if_ne (tgt := 185) hx hb ⟨by omega, by omega⟩ dL_acts_178 (by decide) (fun c_35 => ?_) (fun c_35 => ?_)
              · -- y34 ≠ 0
                refine lv_iconst (v := i32 (0)) hx hb dL_acts_185 rfl ?_
                refine W.eq (g2 := F0 m 186 ls (Value.int (i32 (b2 (False))) :: Value.int (i32 (1 + y11)) :: Value.int (i32 (y10)) :: Value.ref (ad 1 0) :: [])) (by simp only [b2_t trivial, b2_f not_false] <;> rfl) ?_
                refine q_callH2 (As := [.ref (ad 1 0), .int (i32 (y10)), .int (i32 (1 + y11)), .int (i32 (b2 (False)))]) (rest := []) hx hb hml hl.1 hown hK hZ hP hS (c_L_loom l g base ad S y10 (1 + y11) False hfl hI.wc ⟨by omega, by omega⟩ ⟨by omega, by omega⟩ hI.hcf hI.hpf) t_442 t_14 t_444 t_443 f_yL_loom ⟨Nat.le_of_ble_eq_true rfl, Nat.le_of_ble_eq_true rfl⟩ rfl rfl (Nat.le_of_ble_eq_true rfl) dL_acts_186 (c2 := 9) (s2 := 793) ⟨by first | rfl | (dsimp only; omega), by first | rfl | (dsimp only; omega)⟩ ⟨by show 9 ≤ 2970; omega, by show 793 ≤ 18559; omega⟩ (fun rr ad' S' H locs hQ hP hS => ?_)
                obtain ⟨⟨hr9, ek9⟩, hQ⟩ := hQ
                have hc9_1 : ceC S y10 := hI.ce.mpr (by omega)
                have hc9_2 : 1 ≤ (1 + y11) ∧ (1 + y11) ≤ 4 ∧ (1 + y11) ≤ S (4 + y10.toNat) 0 0 := h_B
                have hc9_3 : ¬ (1 ≤ S (4 + y10.toNat) 0 1 ∧ S 1 0 6 < 20) := h_C
                have hs9 := (hQ.resolve_right (fun y9 => hc9_3 y9.1.2.2)).2
                subst hr9
                rw [hs9] at hP
                obtain ⟨ad36, had36⟩ : ∃ a9 : Nat → Nat → Nat, a9 = ad' := ⟨_, rfl⟩
                rw [← had36] at ek9 hP
                have ek_ad36 : ∀ x q, x < 4 → ad36 x q = ad x q := fun x q h => (ek9 x q h)
                have el_ad36 : ∀ x q, x < 4 → ad36 x q = ad x q := ek9
                have hl : lv_has ls 13 [(9, .int (i32 (1 + y11))), (8, .int (i32 (y10))), (7, .int (i32 (y1))), (0, .ref (ad36 1 0)), (1, .ref (ad36 3 1)), (2, .ref (ad36 3 2)), (3, .ref (ad36 3 3)), (4, .ref (ad36 3 4)), (5, .int (i32 (x))), (6, .int (i32 (y)))] := by
                  have t9 := hl
                  rw [← el_ad36 1 0 (by decide), ← el_ad36 3 1 (by decide), ← el_ad36 3 2 (by decide), ← el_ad36 3 3 (by decide), ← el_ad36 3 4 (by decide)] at t9
                  exact t9
                skip
                refine q_nm (lv_3 hc9_1 hc9_2 hc9_3) ?_
                refine lv_istore (lv' := [(10, .int (i32 (-1000003))), (9, .int (i32 (1 + y11))), (8, .int (i32 (y10))), (7, .int (i32 (y1))), (0, .ref (ad36 1 0)), (1, .ref (ad36 3 1)), (2, .ref (ad36 3 2)), (3, .ref (ad36 3 3)), (4, .ref (ad36 3 4)), (5, .int (i32 (x))), (6, .int (i32 (y)))]) hx hb dL_acts_189 hl (by decide) rfl (fun ls hl => ?_)
                refine lv_iload hx hb dL_acts_191 (lv_at hl 1 rfl) ?_
                refine lv_aload_n hx hb dL_acts_193 rfl (lv_at hl 6 rfl) ?_
                refine lv_iconst (v := i32 (2)) hx hb dL_acts_194 rfl ?_
                refine lv_iload hx hb dL_acts_195 (lv_at hl 2 rfl) ?_
                refine q_imul hx hb dL_acts_197 ?_
                refine p_iald (k := 3) (r := 2) (n := 10) hx hb hK hP hI.a.2.2 rfl rfl (by decide) (by decide) (by omega) (by omega) dL_acts_198 ?_
                refine q_icmp_le (tgt := 215) hx hb ⟨by omega, by omega⟩ (rS _ _ _) dL_acts_199 (by decide) (fun c_37 => ?_) (fun c_37 => (by exfalso; omega))
                refine lv_aload_n hx hb dL_acts_215 rfl (lv_at hl 6 rfl) ?_
                refine lv_iconst (v := i32 (2)) hx hb dL_acts_216 rfl ?_
                refine lv_iload hx hb dL_acts_217 (lv_at hl 2 rfl) ?_
                refine q_imul hx hb dL_acts_219 ?_
                refine lv_iconst (v := i32 (1)) hx hb dL_acts_220 rfl ?_
                refine q_iadd hx hb dL_acts_221 ?_
                refine p_iald (k := 3) (r := 2) (n := 10) hx hb hK hP hI.a.2.2 rfl rfl (by decide) (by decide) (by omega) (by omega) dL_acts_222 ?_
                refine q_if_eq (tgt := 234) hx hb (rS _ _ _) dL_acts_223 (by decide) (fun c_38 => ?_) (fun c_38 => ?_)
                · -- (S 3 2 ((2 * y10) + 1)) = 0
                  refine lv_iload hx hb dL_acts_234 (lv_at hl 0 rfl) ?_
                  refine q_ldc (z := -1000003) hx hb hown hK t_250 rfl dL_acts_236 ?_
                  refine q_icmp_ne (tgt := 245) hx hb ⟨by decide, by decide⟩ ⟨by decide, by decide⟩ dL_acts_238 (by decide) (fun c_39 => (by exfalso; omega)) (fun c_39 => ?_)
                  refine lv_iconst (v := i32 (1)) hx hb dL_acts_241 rfl ?_
                  refine lv_goto (tgt := 246) hx hb dL_acts_242 (by decide) ?_
                  subst hQm
                  exact q_zret hx hb hr hlocks hP hS (v := 1) (by decide) (by exact ⟨⟨rfl, ek_ad36⟩, hI, hV⟩) (by show 9 ≤ 2970; omega) (by show 793 ≤ 18559; omega) dL_acts_246
                · -- (S 3 2 ((2 * y10) + 1)) ≠ 0
                  refine lv_aload_n hx hb dL_acts_226 rfl (lv_at hl 5 rfl) ?_
                  refine lv_iconst (v := i32 (2)) hx hb dL_acts_227 rfl ?_
                  refine p_iald (k := 3) (r := 1) (n := 4) hx hb hK hP hI.a.2.2 rfl rfl (by decide) (by decide) (by omega) (by omega) dL_acts_228 ?_
                  refine lv_bipush (v := i32 (20)) hx hb dL_acts_229 (by decide) ?_
                  refine q_icmp_ne (tgt := 247) hx hb (rS _ _ _) ⟨by decide, by decide⟩ dL_acts_231 (by decide) (fun c_40 => (by exfalso; exact h_C ⟨by omega, by omega⟩)) (fun c_40 => ?_)
                  refine lv_iload hx hb dL_acts_234 (lv_at hl 0 rfl) ?_
                  refine q_ldc (z := -1000003) hx hb hown hK t_250 rfl dL_acts_236 ?_
                  refine q_icmp_ne (tgt := 245) hx hb ⟨by decide, by decide⟩ ⟨by decide, by decide⟩ dL_acts_238 (by decide) (fun c_41 => (by exfalso; omega)) (fun c_41 => ?_)
                  refine lv_iconst (v := i32 (1)) hx hb dL_acts_241 rfl ?_
                  refine lv_goto (tgt := 246) hx hb dL_acts_242 (by decide) ?_
                  subst hQm
                  exact q_zret hx hb hr hlocks hP hS (v := 1) (by decide) (by exact ⟨⟨rfl, ek_ad36⟩, hI, hV⟩) (by show 9 ≤ 2970; omega) (by show 793 ≤ 18559; omega) dL_acts_246
              · -- y34 = 0
                refine lv_iconst (v := i32 (1)) hx hb dL_acts_181 rfl ?_
                refine lv_goto (tgt := 186) hx hb dL_acts_182 (by decide) ?_
                refine W.eq (g2 := F0 m 186 ls (Value.int (i32 (b2 (True))) :: Value.int (i32 (1 + y11)) :: Value.int (i32 (y10)) :: Value.ref (ad 1 0) :: [])) (by simp only [b2_t trivial, b2_f not_false] <;> rfl) ?_
                refine q_callH2 (As := [.ref (ad 1 0), .int (i32 (y10)), .int (i32 (1 + y11)), .int (i32 (b2 (True)))]) (rest := []) hx hb hml hl.1 hown hK hZ hP hS (c_L_loom l g base ad S y10 (1 + y11) True hfl hI.wc ⟨by omega, by omega⟩ ⟨by omega, by omega⟩ hI.hcf hI.hpf) t_442 t_14 t_444 t_443 f_yL_loom ⟨Nat.le_of_ble_eq_true rfl, Nat.le_of_ble_eq_true rfl⟩ rfl rfl (Nat.le_of_ble_eq_true rfl) dL_acts_186 (c2 := 9) (s2 := 793) ⟨by first | rfl | (dsimp only; omega), by first | rfl | (dsimp only; omega)⟩ ⟨by show 9 ≤ 2970; omega, by show 793 ≤ 18559; omega⟩ (fun rr ad' S' H locs hQ hP hS => ?_)
                obtain ⟨⟨hr9, ek9⟩, hQ⟩ := hQ
                have hc9_1 : ceC S y10 := hI.ce.mpr (by omega)
                have hc9_2 : 1 ≤ (1 + y11) ∧ (1 + y11) ≤ 4 ∧ (1 + y11) ≤ S (4 + y10.toNat) 0 0 := h_B
                have hc9_3 : ¬ (1 ≤ S (4 + y10.toNat) 0 1 ∧ S 1 0 6 < 20) := h_C
                have hs9 := (hQ.resolve_right (fun y9 => hc9_3 y9.1.2.2)).2
                subst hr9
                rw [hs9] at hP
                obtain ⟨ad42, had42⟩ : ∃ a9 : Nat → Nat → Nat, a9 = ad' := ⟨_, rfl⟩
                rw [← had42] at ek9 hP
                have ek_ad42 : ∀ x q, x < 4 → ad42 x q = ad x q := fun x q h => (ek9 x q h)
                have el_ad42 : ∀ x q, x < 4 → ad42 x q = ad x q := ek9
                have hl : lv_has ls 13 [(9, .int (i32 (1 + y11))), (8, .int (i32 (y10))), (7, .int (i32 (y1))), (0, .ref (ad42 1 0)), (1, .ref (ad42 3 1)), (2, .ref (ad42 3 2)), (3, .ref (ad42 3 3)), (4, .ref (ad42 3 4)), (5, .int (i32 (x))), (6, .int (i32 (y)))] := by
                  have t9 := hl
                  rw [← el_ad42 1 0 (by decide), ← el_ad42 3 1 (by decide), ← el_ad42 3 2 (by decide), ← el_ad42 3 3 (by decide), ← el_ad42 3 4 (by decide)] at t9
                  exact t9
                skip
                refine q_nm (lv_3 hc9_1 hc9_2 hc9_3) ?_
                refine lv_istore (lv' := [(10, .int (i32 (-1000003))), (9, .int (i32 (1 + y11))), (8, .int (i32 (y10))), (7, .int (i32 (y1))), (0, .ref (ad42 1 0)), (1, .ref (ad42 3 1)), (2, .ref (ad42 3 2)), (3, .ref (ad42 3 3)), (4, .ref (ad42 3 4)), (5, .int (i32 (x))), (6, .int (i32 (y)))]) hx hb dL_acts_189 hl (by decide) rfl (fun ls hl => ?_)
                refine lv_iload hx hb dL_acts_191 (lv_at hl 1 rfl) ?_
                refine lv_aload_n hx hb dL_acts_193 rfl (lv_at hl 6 rfl) ?_
                refine lv_iconst (v := i32 (2)) hx hb dL_acts_194 rfl ?_
                refine lv_iload hx hb dL_acts_195 (lv_at hl 2 rfl) ?_
                refine q_imul hx hb dL_acts_197 ?_
                refine p_iald (k := 3) (r := 2) (n := 10) hx hb hK hP hI.a.2.2 rfl rfl (by decide) (by decide) (by omega) (by omega) dL_acts_198 ?_
                refine q_icmp_le (tgt := 215) hx hb ⟨by omega, by omega⟩ (rS _ _ _) dL_acts_199 (by decide) (fun c_43 => ?_) (fun c_43 => (by exfalso; omega))
                refine lv_aload_n hx hb dL_acts_215 rfl (lv_at hl 6 rfl) ?_
                refine lv_iconst (v := i32 (2)) hx hb dL_acts_216 rfl ?_
                refine lv_iload hx hb dL_acts_217 (lv_at hl 2 rfl) ?_
                refine q_imul hx hb dL_acts_219 ?_
                refine lv_iconst (v := i32 (1)) hx hb dL_acts_220 rfl ?_
                refine q_iadd hx hb dL_acts_221 ?_
                refine p_iald (k := 3) (r := 2) (n := 10) hx hb hK hP hI.a.2.2 rfl rfl (by decide) (by decide) (by omega) (by omega) dL_acts_222 ?_
                refine q_if_eq (tgt := 234) hx hb (rS _ _ _) dL_acts_223 (by decide) (fun c_44 => ?_) (fun c_44 => ?_)
                · -- (S 3 2 ((2 * y10) + 1)) = 0
                  refine lv_iload hx hb dL_acts_234 (lv_at hl 0 rfl) ?_
                  refine q_ldc (z := -1000003) hx hb hown hK t_250 rfl dL_acts_236 ?_
                  refine q_icmp_ne (tgt := 245) hx hb ⟨by decide, by decide⟩ ⟨by decide, by decide⟩ dL_acts_238 (by decide) (fun c_45 => (by exfalso; omega)) (fun c_45 => ?_)
                  refine lv_iconst (v := i32 (1)) hx hb dL_acts_241 rfl ?_
                  refine lv_goto (tgt := 246) hx hb dL_acts_242 (by decide) ?_
                  subst hQm
                  exact q_zret hx hb hr hlocks hP hS (v := 1) (by decide) (by exact ⟨⟨rfl, ek_ad42⟩, hI, hV⟩) (by show 9 ≤ 2970; omega) (by show 793 ≤ 18559; omega) dL_acts_246
                · -- (S 3 2 ((2 * y10) + 1)) ≠ 0
                  refine lv_aload_n hx hb dL_acts_226 rfl (lv_at hl 5 rfl) ?_
                  refine lv_iconst (v := i32 (2)) hx hb dL_acts_227 rfl ?_
                  refine p_iald (k := 3) (r := 1) (n := 4) hx hb hK hP hI.a.2.2 rfl rfl (by decide) (by decide) (by omega) (by omega) dL_acts_228 ?_
                  refine lv_bipush (v := i32 (20)) hx hb dL_acts_229 (by decide) ?_
                  refine q_icmp_ne (tgt := 247) hx hb (rS _ _ _) ⟨by decide, by decide⟩ dL_acts_231 (by decide) (fun c_46 => (by exfalso; exact h_C ⟨by omega, by omega⟩)) (fun c_46 => ?_)
                  refine lv_iload hx hb dL_acts_234 (lv_at hl 0 rfl) ?_
                  refine q_ldc (z := -1000003) hx hb hown hK t_250 rfl dL_acts_236 ?_
                  refine q_icmp_ne (tgt := 245) hx hb ⟨by decide, by decide⟩ ⟨by decide, by decide⟩ dL_acts_238 (by decide) (fun c_47 => (by exfalso; omega)) (fun c_47 => ?_)
                  refine lv_iconst (v := i32 (1)) hx hb dL_acts_241 rfl ?_
                  refine lv_goto (tgt := 246) hx hb dL_acts_242 (by decide) ?_
                  subst hQm
                  exact q_zret hx hb hr hlocks hP hS (v := 1) (by decide) (by exact ⟨⟨rfl, ek_ad42⟩, hI, hV⟩) (by show 9 ≤ 2970; omega) (by show 793 ≤ 18559; omega) dL_acts_246
          · skip
            obtain ⟨hd1, hd2, hd3⟩ := vd y10 (by omega) (by omega)
            obtain ⟨⟨-, hcw1, hcw2⟩, -⟩ := hI.k.2.2 y10 (by omega) (by omega)
            refine lv_aload_n hx hb dL_acts_165 rfl (lv_at hl 3 rfl) ?_
            refine lv_iload hx hb dL_acts_166 (lv_at hl 1 rfl) ?_
            refine lv_iload hx hb dL_acts_168 (lv_at hl 0 rfl) ?_
            refine lv_iload hx hb dL_acts_170 (lv_at hl 9 rfl) ?_
            refine lv_iconst (v := i32 (2)) hx hb dL_acts_172 rfl ?_
            refine lv_ishr hx hb dL_acts_173 ?_
            obtain ⟨z48, rz48, hz48⟩ := i32_of (i32 (y) >>> (i32 (2) &&& 31))
            rw [hz48]
            refine lv_iconst (v := i32 (2)) hx hb dL_acts_174 rfl ?_
            refine q_callS2 (As := [.int (i32 (z48)), .int (i32 (2))]) (rest := [.int (i32 (1 + y11)), .int (i32 (y10)), .ref (ad 1 0)]) hx hb hml hl.1 hown hK hZ hP hS (c_L_low l g base ad S z48 ((2 : Int)) rz48 (by omega)) t_122 (q_callB hK 121 14 123 t_121 t_14 t_123 f_yL_low ⟨Nat.le_of_ble_eq_true rfl, Nat.le_of_ble_eq_true rfl⟩) rfl rfl (Nat.le_of_ble_eq_true rfl) dL_acts_175 (c2 := 0) (s2 := 0) ⟨by first | rfl | (dsimp only; omega), by first | rfl | (dsimp only; omega)⟩ ⟨by show 0 ≤ 2970; omega, by show 0 ≤ 18559; omega⟩ (q_an (fun H locs hP hS => ?_))
            obtain ⟨y49, hy49⟩ : ∃ y99 : Int, loF z48 ((2 : Int)) = y99 := ⟨_, rfl⟩
            have by49 := lo_b z48 (show 1 ≤ ((2 : Int)) by omega)
            rw [hy49] at by49
            refine q_nm hy49 ?_
            refine q_if_ne (tgt := 185) hx hb ⟨by omega, by omega⟩ dL_acts_178 (by decide) (fun c_50 => ?_) (fun c_50 => ?_)
            · -- y49 ≠ 0
              refine lv_iconst (v := i32 (0)) hx hb dL_acts_185 rfl ?_
              refine W.eq (g2 := F0 m 186 ls (Value.int (i32 (b2 (False))) :: Value.int (i32 (1 + y11)) :: Value.int (i32 (y10)) :: Value.ref (ad 1 0) :: [])) (by simp only [b2_t trivial, b2_f not_false] <;> rfl) ?_
              refine q_callH2 (As := [.ref (ad 1 0), .int (i32 (y10)), .int (i32 (1 + y11)), .int (i32 (b2 (False)))]) (rest := []) hx hb hml hl.1 hown hK hZ hP hS (c_L_loom l g base ad S y10 (1 + y11) False hfl hI.wc ⟨by omega, by omega⟩ ⟨by omega, by omega⟩ hI.hcf hI.hpf) t_442 t_14 t_444 t_443 f_yL_loom ⟨Nat.le_of_ble_eq_true rfl, Nat.le_of_ble_eq_true rfl⟩ rfl rfl (Nat.le_of_ble_eq_true rfl) dL_acts_186 (c2 := 9) (s2 := 793) ⟨by first | rfl | (dsimp only; omega), by first | rfl | (dsimp only; omega)⟩ ⟨by show 9 ≤ 2970; omega, by show 793 ≤ 18559; omega⟩ (fun rr ad' S' H locs hQ hP hS => ?_)
              obtain ⟨⟨hr9, ek9⟩, hQ⟩ := hQ
              have hc9_1 : ceC S y10 := hI.ce.mpr (by omega)
              have hc9_2 : ¬ (1 ≤ (1 + y11) ∧ (1 + y11) ≤ 4 ∧ (1 + y11) ≤ S (4 + y10.toNat) 0 0) := h_B
              have hs9 := (hQ.resolve_right (fun y9 => hc9_2 y9.1.2.1)).2
              subst hr9
              rw [hs9] at hP
              obtain ⟨ad51, had51⟩ : ∃ a9 : Nat → Nat → Nat, a9 = ad' := ⟨_, rfl⟩
              rw [← had51] at ek9 hP
              have ek_ad51 : ∀ x q, x < 4 → ad51 x q = ad x q := fun x q h => (ek9 x q h)
              have el_ad51 : ∀ x q, x < 4 → ad51 x q = ad x q := ek9
              have hl : lv_has ls 13 [(9, .int (i32 (1 + y11))), (8, .int (i32 (y10))), (7, .int (i32 (y1))), (0, .ref (ad51 1 0)), (1, .ref (ad51 3 1)), (2, .ref (ad51 3 2)), (3, .ref (ad51 3 3)), (4, .ref (ad51 3 4)), (5, .int (i32 (x))), (6, .int (i32 (y)))] := by
                have t9 := hl
                rw [← el_ad51 1 0 (by decide), ← el_ad51 3 1 (by decide), ← el_ad51 3 2 (by decide), ← el_ad51 3 3 (by decide), ← el_ad51 3 4 (by decide)] at t9
                exact t9
              skip
              refine q_nm (lv_2 hc9_1 hc9_2) ?_
              refine lv_istore (lv' := [(10, .int (i32 (-1000002))), (9, .int (i32 (1 + y11))), (8, .int (i32 (y10))), (7, .int (i32 (y1))), (0, .ref (ad51 1 0)), (1, .ref (ad51 3 1)), (2, .ref (ad51 3 2)), (3, .ref (ad51 3 3)), (4, .ref (ad51 3 4)), (5, .int (i32 (x))), (6, .int (i32 (y)))]) hx hb dL_acts_189 hl (by decide) rfl (fun ls hl => ?_)
              refine lv_iload hx hb dL_acts_191 (lv_at hl 1 rfl) ?_
              refine lv_aload_n hx hb dL_acts_193 rfl (lv_at hl 6 rfl) ?_
              refine lv_iconst (v := i32 (2)) hx hb dL_acts_194 rfl ?_
              refine lv_iload hx hb dL_acts_195 (lv_at hl 2 rfl) ?_
              refine q_imul hx hb dL_acts_197 ?_
              refine p_iald (k := 3) (r := 2) (n := 10) hx hb hK hP hI.a.2.2 rfl rfl (by decide) (by decide) (by omega) (by omega) dL_acts_198 ?_
              refine q_icmp_le (tgt := 215) hx hb ⟨by omega, by omega⟩ (rS _ _ _) dL_acts_199 (by decide) (fun c_52 => (by exfalso; exact h_B ⟨by omega, by omega, by omega⟩)) (fun c_52 => ?_)
              refine lv_iload hx hb dL_acts_202 (lv_at hl 0 rfl) ?_
              refine q_ldc (z := -1000002) hx hb hown hK t_249 rfl dL_acts_204 ?_
              refine q_icmp_ne (tgt := 213) hx hb ⟨by decide, by decide⟩ ⟨by decide, by decide⟩ dL_acts_206 (by decide) (fun c_53 => (by exfalso; omega)) (fun c_53 => ?_)
              refine lv_iconst (v := i32 (1)) hx hb dL_acts_209 rfl ?_
              refine lv_goto (tgt := 214) hx hb dL_acts_210 (by decide) ?_
              subst hQm
              exact q_zret hx hb hr hlocks hP hS (v := 1) (by decide) (by exact ⟨⟨rfl, ek_ad51⟩, hI, hV⟩) (by show 9 ≤ 2970; omega) (by show 793 ≤ 18559; omega) dL_acts_214
            · -- y49 = 0
              refine lv_iconst (v := i32 (1)) hx hb dL_acts_181 rfl ?_
              refine lv_goto (tgt := 186) hx hb dL_acts_182 (by decide) ?_
              refine W.eq (g2 := F0 m 186 ls (Value.int (i32 (b2 (True))) :: Value.int (i32 (1 + y11)) :: Value.int (i32 (y10)) :: Value.ref (ad 1 0) :: [])) (by simp only [b2_t trivial, b2_f not_false] <;> rfl) ?_
              refine q_callH2 (As := [.ref (ad 1 0), .int (i32 (y10)), .int (i32 (1 + y11)), .int (i32 (b2 (True)))]) (rest := []) hx hb hml hl.1 hown hK hZ hP hS (c_L_loom l g base ad S y10 (1 + y11) True hfl hI.wc ⟨by omega, by omega⟩ ⟨by omega, by omega⟩ hI.hcf hI.hpf) t_442 t_14 t_444 t_443 f_yL_loom ⟨Nat.le_of_ble_eq_true rfl, Nat.le_of_ble_eq_true rfl⟩ rfl rfl (Nat.le_of_ble_eq_true rfl) dL_acts_186 (c2 := 9) (s2 := 793) ⟨by first | rfl | (dsimp only; omega), by first | rfl | (dsimp only; omega)⟩ ⟨by show 9 ≤ 2970; omega, by show 793 ≤ 18559; omega⟩ (fun rr ad' S' H locs hQ hP hS => ?_)
              obtain ⟨⟨hr9, ek9⟩, hQ⟩ := hQ
              have hc9_1 : ceC S y10 := hI.ce.mpr (by omega)
              have hc9_2 : ¬ (1 ≤ (1 + y11) ∧ (1 + y11) ≤ 4 ∧ (1 + y11) ≤ S (4 + y10.toNat) 0 0) := h_B
              have hs9 := (hQ.resolve_right (fun y9 => hc9_2 y9.1.2.1)).2
              subst hr9
              rw [hs9] at hP
              obtain ⟨ad54, had54⟩ : ∃ a9 : Nat → Nat → Nat, a9 = ad' := ⟨_, rfl⟩
              rw [← had54] at ek9 hP
              have ek_ad54 : ∀ x q, x < 4 → ad54 x q = ad x q := fun x q h => (ek9 x q h)
              have el_ad54 : ∀ x q, x < 4 → ad54 x q = ad x q := ek9
              have hl : lv_has ls 13 [(9, .int (i32 (1 + y11))), (8, .int (i32 (y10))), (7, .int (i32 (y1))), (0, .ref (ad54 1 0)), (1, .ref (ad54 3 1)), (2, .ref (ad54 3 2)), (3, .ref (ad54 3 3)), (4, .ref (ad54 3 4)), (5, .int (i32 (x))), (6, .int (i32 (y)))] := by
                have t9 := hl
                rw [← el_ad54 1 0 (by decide), ← el_ad54 3 1 (by decide), ← el_ad54 3 2 (by decide), ← el_ad54 3 3 (by decide), ← el_ad54 3 4 (by decide)] at t9
                exact t9
              skip
              refine q_nm (lv_2 hc9_1 hc9_2) ?_
              refine lv_istore (lv' := [(10, .int (i32 (-1000002))), (9, .int (i32 (1 + y11))), (8, .int (i32 (y10))), (7, .int (i32 (y1))), (0, .ref (ad54 1 0)), (1, .ref (ad54 3 1)), (2, .ref (ad54 3 2)), (3, .ref (ad54 3 3)), (4, .ref (ad54 3 4)), (5, .int (i32 (x))), (6, .int (i32 (y)))]) hx hb dL_acts_189 hl (by decide) rfl (fun ls hl => ?_)
              refine lv_iload hx hb dL_acts_191 (lv_at hl 1 rfl) ?_
              refine lv_aload_n hx hb dL_acts_193 rfl (lv_at hl 6 rfl) ?_
              refine lv_iconst (v := i32 (2)) hx hb dL_acts_194 rfl ?_
              refine lv_iload hx hb dL_acts_195 (lv_at hl 2 rfl) ?_
              refine q_imul hx hb dL_acts_197 ?_
              refine p_iald (k := 3) (r := 2) (n := 10) hx hb hK hP hI.a.2.2 rfl rfl (by decide) (by decide) (by omega) (by omega) dL_acts_198 ?_
              refine q_icmp_le (tgt := 215) hx hb ⟨by omega, by omega⟩ (rS _ _ _) dL_acts_199 (by decide) (fun c_55 => (by exfalso; exact h_B ⟨by omega, by omega, by omega⟩)) (fun c_55 => ?_)
              refine lv_iload hx hb dL_acts_202 (lv_at hl 0 rfl) ?_
              refine q_ldc (z := -1000002) hx hb hown hK t_249 rfl dL_acts_204 ?_
              refine q_icmp_ne (tgt := 213) hx hb ⟨by decide, by decide⟩ ⟨by decide, by decide⟩ dL_acts_206 (by decide) (fun c_56 => (by exfalso; omega)) (fun c_56 => ?_)
              refine lv_iconst (v := i32 (1)) hx hb dL_acts_209 rfl ?_
              refine lv_goto (tgt := 214) hx hb dL_acts_210 (by decide) ?_
              subst hQm
              exact q_zret hx hb hr hlocks hP hS (v := 1) (by decide) (by exact ⟨⟨rfl, ek_ad54⟩, hI, hV⟩) (by show 9 ≤ 2970; omega) (by show 793 ≤ 18559; omega) dL_acts_214
        · -- y1 ≠ 4
          refine lv_aload_n hx hb dL_acts_137 rfl (lv_at hl 2 rfl) ?_
          refine lv_iconst (v := i32 (2)) hx hb dL_acts_138 rfl ?_
          refine p_iald (k := 3) (r := 1) (n := 4) hx hb hK hP hI.a.2.2 rfl rfl (by decide) (by decide) (by omega) (by omega) dL_acts_139 ?_
          refine q_if_ne (tgt := 316) hx hb (rS _ _ _) dL_acts_140 (by decide) (fun c_57 => ?_) (fun c_57 => ?_)
          · -- (S 3 1 2) ≠ 0
            refine lv_iload hx hb dL_acts_316 (lv_at hl 0 rfl) ?_
            refine lv_bipush (v := i32 (11)) hx hb dL_acts_318 (by decide) ?_
            refine q_icmp_ge (tgt := 370) hx hb ⟨by omega, by omega⟩ ⟨by decide, by decide⟩ dL_acts_320 (by decide) (fun c_58 => ?_) (fun c_58 => ?_)
            · -- 11 ≤ y1
              refine lv_iload hx hb dL_acts_370 (lv_at hl 6 rfl) ?_
              refine lv_iconst (v := i32 (4)) hx hb dL_acts_372 rfl ?_
              refine lv_ishr hx hb dL_acts_373 ?_
              obtain ⟨z59, rz59, hz59⟩ := i32_of (i32 (x) >>> (i32 (4) &&& 31))
              rw [hz59]
              refine lv_aload_n hx hb dL_acts_374 rfl (lv_at hl 2 rfl) ?_
              refine lv_iconst (v := i32 (2)) hx hb dL_acts_375 rfl ?_
              refine p_iald (k := 3) (r := 1) (n := 4) hx hb hK hP hI.a.2.2 rfl rfl (by decide) (by decide) (by omega) (by omega) dL_acts_376 ?_
              refine q_callS2 (As := [.int (i32 (z59)), .int (i32 (S 3 1 2))]) (rest := []) hx hb hml hl.1 hown hK hZ hP hS (c_L_low l g base ad S z59 (S 3 1 2) rz59 (by omega)) t_122 (q_callB hK 121 14 123 t_121 t_14 t_123 f_yL_low ⟨Nat.le_of_ble_eq_true rfl, Nat.le_of_ble_eq_true rfl⟩) rfl rfl (Nat.le_of_ble_eq_true rfl) dL_acts_377 (c2 := 0) (s2 := 0) ⟨by first | rfl | (dsimp only; omega), by first | rfl | (dsimp only; omega)⟩ ⟨by show 0 ≤ 2970; omega, by show 0 ≤ 18559; omega⟩ (q_an (fun H locs hP hS => ?_))
              obtain ⟨y60, hy60⟩ : ∃ y99 : Int, loF z59 (S 3 1 2) = y99 := ⟨_, rfl⟩
              have by60 := lo_b z59 (show 1 ≤ (S 3 1 2) by omega)
              rw [hy60] at by60
              refine q_nm hy60 ?_
              refine lv_istore (lv' := [(8, .int (i32 (y60))), (7, .int (i32 (y1))), (0, .ref (ad 1 0)), (1, .ref (ad 3 1)), (2, .ref (ad 3 2)), (3, .ref (ad 3 3)), (4, .ref (ad 3 4)), (5, .int (i32 (x))), (6, .int (i32 (y)))]) hx hb dL_acts_380 hl (by decide) rfl (fun ls hl => ?_)
              refine lv_iload hx hb dL_acts_382 (lv_at hl 1 rfl) ?_
              refine lv_bipush (v := i32 (11)) hx hb dL_acts_384 (by decide) ?_
              refine q_icmp_ne (tgt := 405) hx hb ⟨by omega, by omega⟩ ⟨by decide, by decide⟩ dL_acts_386 (by decide) (fun c_61 => ?_) (fun c_61 => ?_)
              · -- y1 ≠ 11
                refine lv_aload_n hx hb dL_acts_405 rfl (lv_at hl 2 rfl) ?_
                refine lv_iload hx hb dL_acts_406 (lv_at hl 0 rfl) ?_
                refine q_callS2 (As := [.ref (ad 1 0), .int (i32 (y60))]) (rest := []) hx hb hml hl.1 hown hK hZ hP hS (c_L_isThere l g base ad S y60 hfl hI ⟨by omega, by omega⟩) t_264 (q_callB hK 263 14 265 t_263 t_14 t_265 f_yL_isThere ⟨Nat.le_of_ble_eq_true rfl, Nat.le_of_ble_eq_true rfl⟩) rfl rfl (Nat.le_of_ble_eq_true rfl) dL_acts_408 (c2 := 2) (s2 := 12) ⟨by first | rfl | (dsimp only; omega), by first | rfl | (dsimp only; omega)⟩ ⟨by show 2 ≤ 2970; omega, by show 12 ≤ 18559; omega⟩ (q_an (fun H locs hP hS => ?_))
                refine q_if_neb (tgt := 454) hx hb dL_acts_411 (by decide) (fun c_62 => ?_) (fun c_62 => ?_)
                · -- peC S y60
                  refine lv_iload hx hb dL_acts_454 (lv_at hl 8 rfl) ?_
                  refine lv_iconst (v := i32 (3)) hx hb dL_acts_456 rfl ?_
                  refine lv_ishr hx hb dL_acts_457 ?_
                  obtain ⟨z63, rz63, hz63⟩ := i32_of (i32 (y) >>> (i32 (3) &&& 31))
                  rw [hz63]
                  refine lv_aload_n hx hb dL_acts_458 rfl (lv_at hl 3 rfl) ?_
                  refine lv_iconst (v := i32 (0)) hx hb dL_acts_459 rfl ?_
                  refine p_iald (k := 3) (r := 1) (n := 4) hx hb hK hP hI.a.2.2 rfl rfl (by decide) (by decide) (by omega) (by omega) dL_acts_460 ?_
                  refine q_callS2 (As := [.int (i32 (z63)), .int (i32 (S 3 1 0))]) (rest := []) hx hb hml hl.1 hown hK hZ hP hS (c_L_low l g base ad S z63 (S 3 1 0) rz63 (by omega)) t_122 (q_callB hK 121 14 123 t_121 t_14 t_123 f_yL_low ⟨Nat.le_of_ble_eq_true rfl, Nat.le_of_ble_eq_true rfl⟩) rfl rfl (Nat.le_of_ble_eq_true rfl) dL_acts_461 (c2 := 2) (s2 := 12) ⟨by first | rfl | (dsimp only; omega), by first | rfl | (dsimp only; omega)⟩ ⟨by show 2 ≤ 2970; omega, by show 12 ≤ 18559; omega⟩ (q_an (fun H locs hP hS => ?_))
                  obtain ⟨y64, hy64⟩ : ∃ y99 : Int, loF z63 (S 3 1 0) = y99 := ⟨_, rfl⟩
                  have by64 := lo_b z63 (show 1 ≤ (S 3 1 0) by omega)
                  rw [hy64] at by64
                  refine q_nm hy64 ?_
                  refine lv_istore (lv' := [(9, .int (i32 (y64))), (8, .int (i32 (y60))), (7, .int (i32 (y1))), (0, .ref (ad 1 0)), (1, .ref (ad 3 1)), (2, .ref (ad 3 2)), (3, .ref (ad 3 3)), (4, .ref (ad 3 4)), (5, .int (i32 (x))), (6, .int (i32 (y)))]) hx hb dL_acts_464 hl (by decide) rfl (fun ls hl => ?_)
                  by_cases h_F : S (10 + Int.toNat y60) 0 1 = S (4 + Int.toNat y64) 0 1 ∧ S (10 + Int.toNat y60) 0 0 = S (4 + Int.toNat y64) 0 0
                  · skip
                    obtain ⟨hd1, hd2, hd3⟩ := vd y64 (by omega) (by omega)
                    obtain ⟨⟨-, hcw1, hcw2⟩, -⟩ := hI.k.2.2 y64 (by omega) (by omega)
                    obtain ⟨-, pw8, ph8, -⟩ := (hI.pp c_62).1
                    have hm0 : 0 ≤ (S 3 2 (2 * y64)) * (S 3 2 ((2 * y64) + 1)) := Int.mul_nonneg (by omega) (by omega)
                    have hm1 : (S 3 2 (2 * y64)) * (S 3 2 ((2 * y64) + 1)) ≤ 240 := mul240 (by omega) (by omega) (by omega) (by omega)
                    refine lv_aload_n hx hb dL_acts_466 rfl (lv_at hl 3 rfl) ?_
                    refine lv_iload hx hb dL_acts_467 (lv_at hl 1 rfl) ?_
                    refine lv_iload hx hb dL_acts_469 (lv_at hl 0 rfl) ?_
                    have lnb := ln_b (S := S) (o := 10 + Int.toNat y60) (k := 4 + Int.toNat y64) (by omega) (by omega) h_F
                    obtain ⟨ln, hln⟩ : ∃ ln : Int, lnC S (10 + Int.toNat y60) (4 + Int.toNat y64) = ln := ⟨_, rfl⟩
                    rw [hln, ← hd1, ← hd3] at lnb
                    refine q_callH2 (As := [.ref (ad 1 0), .int (i32 (y60)), .int (i32 (y64))]) (rest := []) hx hb hml hl.1 hown hK hZ hP hS (c_L_likeness l g base ad S y60 y64 hfl hI.wc ⟨by omega, by omega⟩ ⟨by omega, by omega⟩) t_504 t_14 t_506 t_505 f_yL_likeness ⟨Nat.le_of_ble_eq_true rfl, Nat.le_of_ble_eq_true rfl⟩ rfl rfl (Nat.le_of_ble_eq_true rfl) dL_acts_471 (c2 := 4) (s2 := 24) ⟨by first | rfl | (dsimp only; omega), by first | rfl | (dsimp only; omega)⟩ ⟨by show 4 ≤ 2970; omega, by show 24 ≤ 18559; omega⟩ (q_an (fun H locs hP hS => ?_))
                    refine q_nm (b := ln) ((lv_0 ⟨c_62, hI.ce.mpr (by omega)⟩ trivial trivial).trans hln) ?_
                    refine lv_istore (lv' := [(10, .int (i32 (ln))), (9, .int (i32 (y64))), (8, .int (i32 (y60))), (7, .int (i32 (y1))), (0, .ref (ad 1 0)), (1, .ref (ad 3 1)), (2, .ref (ad 3 2)), (3, .ref (ad 3 3)), (4, .ref (ad 3 4)), (5, .int (i32 (x))), (6, .int (i32 (y)))]) hx hb dL_acts_474 hl (by decide) rfl (fun ls hl => ?_)
                    refine lv_aload_n hx hb dL_acts_476 rfl (lv_at hl 4 rfl) ?_
                    refine lv_iload hx hb dL_acts_477 (lv_at hl 2 rfl) ?_
                    refine lv_iconst (v := i32 (0)) hx hb dL_acts_479 rfl ?_
                    refine q_callH2 (As := [.ref (ad 1 0), .int (i32 (y60)), .int (i32 (0))]) (rest := []) hx hb hml hl.1 hown hK hZ hP hS (c_L_pieceIs l g base ad S y60 ((0 : Int)) hfl hI.wc ⟨by omega, by omega⟩ ⟨by decide, by decide⟩) t_266 t_14 t_268 t_267 f_yL_pieceIs ⟨Nat.le_of_ble_eq_true rfl, Nat.le_of_ble_eq_true rfl⟩ rfl rfl (Nat.le_of_ble_eq_true rfl) dL_acts_480 (c2 := 6) (s2 := 36) ⟨by first | rfl | (dsimp only; omega), by first | rfl | (dsimp only; omega)⟩ ⟨by show 6 ≤ 2970; omega, by show 36 ≤ 18559; omega⟩ (q_an (fun H locs hP hS => ?_))
                    refine q_nm (b := S (10 + Int.toNat y60) 0 0) (((lv_0 c_62 (by decide) trivial).trans (pcC_0 rfl))) ?_
                    refine lv_aload_n hx hb dL_acts_483 rfl (lv_at hl 6 rfl) ?_
                    refine lv_iconst (v := i32 (2)) hx hb dL_acts_484 rfl ?_
                    refine lv_iload hx hb dL_acts_485 (lv_at hl 1 rfl) ?_
                    refine q_imul hx hb dL_acts_487 ?_
                    refine p_iald (k := 3) (r := 2) (n := 10) hx hb hK hP hI.a.2.2 rfl rfl (by decide) (by decide) (by omega) (by omega) dL_acts_488 ?_
                    refine q_icmp_ne (tgt := 514) hx hb (rS _ _ _) (rS _ _ _) dL_acts_489 (by decide) (fun c_65 => (by exfalso; omega)) (fun c_65 => ?_)
                    refine lv_aload_n hx hb dL_acts_492 rfl (lv_at hl 4 rfl) ?_
                    refine lv_iload hx hb dL_acts_493 (lv_at hl 2 rfl) ?_
                    refine lv_iconst (v := i32 (1)) hx hb dL_acts_495 rfl ?_
                    refine q_callH2 (As := [.ref (ad 1 0), .int (i32 (y60)), .int (i32 (1))]) (rest := []) hx hb hml hl.1 hown hK hZ hP hS (c_L_pieceIs l g base ad S y60 ((1 : Int)) hfl hI.wc ⟨by omega, by omega⟩ ⟨by decide, by decide⟩) t_266 t_14 t_268 t_267 f_yL_pieceIs ⟨Nat.le_of_ble_eq_true rfl, Nat.le_of_ble_eq_true rfl⟩ rfl rfl (Nat.le_of_ble_eq_true rfl) dL_acts_496 (c2 := 8) (s2 := 48) ⟨by first | rfl | (dsimp only; omega), by first | rfl | (dsimp only; omega)⟩ ⟨by show 8 ≤ 2970; omega, by show 48 ≤ 18559; omega⟩ (q_an (fun H locs hP hS => ?_))
                    refine q_nm (b := S (10 + Int.toNat y60) 0 1) (((lv_0 c_62 (by decide) trivial).trans (pcC_1 rfl))) ?_
                    refine lv_aload_n hx hb dL_acts_499 rfl (lv_at hl 6 rfl) ?_
                    refine lv_iconst (v := i32 (2)) hx hb dL_acts_500 rfl ?_
                    refine lv_iload hx hb dL_acts_501 (lv_at hl 1 rfl) ?_
                    refine q_imul hx hb dL_acts_503 ?_
                    refine lv_iconst (v := i32 (1)) hx hb dL_acts_504 rfl ?_
                    refine q_iadd hx hb dL_acts_505 ?_
                    refine p_iald (k := 3) (r := 2) (n := 10) hx hb hK hP hI.a.2.2 rfl rfl (by decide) (by decide) (by omega) (by omega) dL_acts_506 ?_
                    refine q_icmp_ne (tgt := 514) hx hb (rS _ _ _) (rS _ _ _) dL_acts_507 (by decide) (fun c_66 => (by exfalso; omega)) (fun c_66 => ?_)
                    refine lv_iconst (v := i32 (1)) hx hb dL_acts_510 rfl ?_
                    refine lv_goto (tgt := 515) hx hb dL_acts_511 (by decide) ?_
                    refine lv_istore (lv' := [(11, .int (i32 (1))), (10, .int (i32 (ln))), (9, .int (i32 (y64))), (8, .int (i32 (y60))), (7, .int (i32 (y1))), (0, .ref (ad 1 0)), (1, .ref (ad 3 1)), (2, .ref (ad 3 2)), (3, .ref (ad 3 3)), (4, .ref (ad 3 4)), (5, .int (i32 (x))), (6, .int (i32 (y)))]) hx hb dL_acts_515 hl (by decide) rfl (fun ls hl => ?_)
                    refine lv_iload hx hb dL_acts_517 (lv_at hl 0 rfl) ?_
                    refine q_if_eq (tgt := 555) hx hb ⟨by decide, by decide⟩ dL_acts_519 (by decide) (fun h => by omega) (fun _ => ?_)
                    refine lv_iload hx hb dL_acts_522 (lv_at hl 1 rfl) ?_
                    refine q_if_lt (tgt := 551) hx hb ⟨by omega, by omega⟩ dL_acts_524 (by decide) (fun c_67 => (by exfalso; omega)) (fun c_67 => ?_)
                    refine lv_iload hx hb dL_acts_527 (lv_at hl 1 rfl) ?_
                    refine lv_aload_n hx hb dL_acts_529 rfl (lv_at hl 7 rfl) ?_
                    refine lv_iconst (v := i32 (2)) hx hb dL_acts_530 rfl ?_
                    refine lv_iload hx hb dL_acts_531 (lv_at hl 2 rfl) ?_
                    refine q_imul hx hb dL_acts_533 ?_
                    refine p_iald (k := 3) (r := 2) (n := 10) hx hb hK hP hI.a.2.2 rfl rfl (by decide) (by decide) (by omega) (by omega) dL_acts_534 ?_
                    refine lv_aload_n hx hb dL_acts_535 rfl (lv_at hl 7 rfl) ?_
                    refine lv_iconst (v := i32 (2)) hx hb dL_acts_536 rfl ?_
                    refine lv_iload hx hb dL_acts_537 (lv_at hl 2 rfl) ?_
                    refine q_imul hx hb dL_acts_539 ?_
                    refine lv_iconst (v := i32 (1)) hx hb dL_acts_540 rfl ?_
                    refine q_iadd hx hb dL_acts_541 ?_
                    refine p_iald (k := 3) (r := 2) (n := 10) hx hb hK hP hI.a.2.2 rfl rfl (by decide) (by decide) (by omega) (by omega) dL_acts_542 ?_
                    refine q_imul hx hb dL_acts_543 ?_
                    refine q_icmp_gt (tgt := 551) hx hb ⟨by omega, by omega⟩ ⟨by omega, by omega⟩ dL_acts_544 (by decide) (fun c_68 => (by exfalso; omega)) (fun c_68 => ?_)
                    refine lv_iconst (v := i32 (1)) hx hb dL_acts_547 rfl ?_
                    refine lv_goto (tgt := 566) hx hb dL_acts_548 (by decide) ?_
                    refine lv_istore (lv' := [(12, .int (i32 (1))), (11, .int (i32 (1))), (10, .int (i32 (ln))), (9, .int (i32 (y64))), (8, .int (i32 (y60))), (7, .int (i32 (y1))), (0, .ref (ad 1 0)), (1, .ref (ad 3 1)), (2, .ref (ad 3 2)), (3, .ref (ad 3 3)), (4, .ref (ad 3 4)), (5, .int (i32 (x))), (6, .int (i32 (y)))]) hx hb dL_acts_566 hl (by decide) rfl (fun ls hl => ?_)
                    refine lv_iload hx hb dL_acts_568 (lv_at hl 0 rfl) ?_
                    refine q_if_eq (tgt := 673) hx hb ⟨by decide, by decide⟩ dL_acts_570 (by decide) (fun h => by omega) (fun _ => ?_)
                    refine lv_iload hx hb dL_acts_573 (lv_at hl 5 rfl) ?_
                    refine lv_bipush (v := i32 (12)) hx hb dL_acts_575 (by decide) ?_
                    refine q_icmp_ne (tgt := 596) hx hb ⟨by omega, by omega⟩ ⟨by decide, by decide⟩ dL_acts_577 (by decide) (fun c_69 => ?_) (fun c_69 => ?_)
                    · -- y1 ≠ 12
                      refine lv_iload hx hb dL_acts_596 (lv_at hl 5 rfl) ?_
                      refine lv_bipush (v := i32 (13)) hx hb dL_acts_598 (by decide) ?_
                      refine q_icmp_ne (tgt := 617) hx hb ⟨by omega, by omega⟩ ⟨by decide, by decide⟩ dL_acts_600 (by decide) (fun c_70 => ?_) (fun c_70 => ?_)
                      · -- y1 ≠ 13
                        refine lv_iload hx hb dL_acts_617 (lv_at hl 5 rfl) ?_
                        refine lv_bipush (v := i32 (14)) hx hb dL_acts_619 (by decide) ?_
                        refine q_icmp_ne (tgt := 645) hx hb ⟨by omega, by omega⟩ ⟨by decide, by decide⟩ dL_acts_621 (by decide) (fun c_71 => ?_) (fun c_71 => ?_)
                        · -- y1 ≠ 14
                          refine lv_aload_n hx hb dL_acts_645 rfl (lv_at hl 6 rfl) ?_
                          refine lv_aload_n hx hb dL_acts_646 rfl (lv_at hl 9 rfl) ?_
                          refine lv_iload hx hb dL_acts_647 (lv_at hl 4 rfl) ?_
                          refine q_callS2 (As := [.ref (ad 1 0), .ref (ad 3 3), .int (i32 (y60))]) (rest := []) hx hb hml hl.1 hown hK hZ hP hS (c_L_isPiece l g base ad S y60 hfl hI c_62 hV.2.2.2 ⟨by omega, by omega⟩) t_329 (q_callB hK 328 14 330 t_328 t_14 t_330 f_yL_isPiece ⟨Nat.le_of_ble_eq_true rfl, Nat.le_of_ble_eq_true rfl⟩) rfl rfl (Nat.le_of_ble_eq_true rfl) dL_acts_649 (c2 := 1468) (s2 := 8808) ⟨by first | rfl | (dsimp only; omega), by first | rfl | (dsimp only; omega)⟩ ⟨by show 1468 ≤ 2970; omega, by show 8808 ≤ 18559; omega⟩ (q_an (fun H locs hP hS => ?_))
                          refine q_if_eq (tgt := 673) hx hb ⟨by decide, by decide⟩ dL_acts_652 (by decide) (fun h => by omega) (fun _ => ?_)
                          refine lv_aload_n hx hb dL_acts_655 rfl (lv_at hl 6 rfl) ?_
                          refine q_callV2 (k := 1) (As := []) (rest := []) hx hb hml hl.1 hown hK hZ hP hS hI.a.1 rfl rfl rfl (c_X3_balances l g base ad S  hI.wc) t_91 t_92 (q_callB hK 90 15 93 t_90 t_15 t_93 f_yX3_balances ⟨Nat.le_of_ble_eq_true rfl, Nat.le_of_ble_eq_true rfl⟩) rfl rfl (Nat.le_of_ble_eq_true rfl) dL_acts_656 (c2 := 1468) (s2 := 8808) ⟨by first | rfl | (dsimp only; omega), by first | rfl | (dsimp only; omega)⟩ ⟨by show 1468 ≤ 2970; omega, by show 8808 ≤ 18559; omega⟩ (q_an (fun H locs hP hS => ?_))
                          generalize eS72 : blS S 20 = S72 at hP
                          have rS72 : ∀ (a1 b1 : Nat) (i1 : Int), rng (S72 a1 b1 i1) := fun a1 b1 i1 => hP.rg a1 b1 i1
                          have ivS72 : IV S72 := by rw [← eS72]; exact IV_bl hI
                          have h3S72 : ∀ (b1 : Nat) (i1 : Int), S72 3 b1 i1 = S 3 b1 i1 := by rw [← eS72]; exact fun b i => blS_o (by omega)
                          have lv9 : LV S72 := by rw [← eS72]; exact LV_k hV hI.k.1.2 (fun b i => blS_o (by omega)) (blS_o (by omega)) (blS_o (by omega)) (blS_o (by omega)) (fun j => blS_o (by omega)) (fun a h1 h2 => ⟨blS_o (by omega), blS_o (by omega)⟩)
                          refine q_if_eqb (tgt := 673) hx hb dL_acts_659 (by decide) (fun c_73 => (by exfalso; exact c_73 hI.b)) (fun c_73 => ?_)
                          refine lv_aload_n hx hb dL_acts_662 rfl (lv_at hl 6 rfl) ?_
                          have gdb := gd_b ivS72
                          refine q_callV2 (k := 1) (As := []) (rest := []) hx hb hml hl.1 hown hK hZ hP hS ivS72.a.1 rfl rfl rfl (c_X3_gold l g base ad S72  ivS72.wc) t_707 t_708 (q_callB hK 706 15 709 t_706 t_15 t_709 f_yX3_gold ⟨Nat.le_of_ble_eq_true rfl, Nat.le_of_ble_eq_true rfl⟩) rfl rfl (Nat.le_of_ble_eq_true rfl) dL_acts_663 (c2 := 1468) (s2 := 8808) ⟨by first | rfl | (dsimp only; omega), by first | rfl | (dsimp only; omega)⟩ ⟨by show 1468 ≤ 2970; omega, by show 8808 ≤ 18559; omega⟩ (q_an (fun H locs hP hS => ?_))
                          refine q_if_lt (tgt := 673) hx hb ⟨by omega, by omega⟩ dL_acts_666 (by decide) (fun c_74 => (by exfalso; omega)) (fun c_74 => ?_)
                          refine lv_iconst (v := i32 (1)) hx hb dL_acts_669 rfl ?_
                          refine lv_goto (tgt := 674) hx hb dL_acts_670 (by decide) ?_
                          subst hQm
                          exact q_zret hx hb hr hlocks hP hS (v := 1) (by decide) (by exact ⟨⟨rfl, (fun _ _ _ => rfl)⟩, ivS72, lv9⟩) (by show 1468 ≤ 2970; omega) (by show 8808 ≤ 18559; omega) dL_acts_674
                        · -- y1 = 14
                          refine lv_aload_n hx hb dL_acts_624 rfl (lv_at hl 6 rfl) ?_
                          refine lv_aload hx hb dL_acts_625 (lv_at hl 10 rfl) ?_
                          refine lv_iload hx hb dL_acts_627 (lv_at hl 4 rfl) ?_
                          refine lv_iload hx hb dL_acts_629 (lv_at hl 11 rfl) ?_
                          refine lv_bipush (v := i32 (9)) hx hb dL_acts_631 (by decide) ?_
                          refine lv_ishr hx hb dL_acts_633 ?_
                          obtain ⟨z75, rz75, hz75⟩ := i32_of (i32 (x) >>> (i32 (9) &&& 31))
                          rw [hz75]
                          refine lv_iload hx hb dL_acts_634 (lv_at hl 12 rfl) ?_
                          refine q_callS2 (As := [.ref (ad 1 0), .ref (ad 3 4), .int (i32 (y60)), .int (i32 (z75)), .int (i32 (y))]) (rest := []) hx hb hml hl.1 hown hK hZ hP hS (c_L_wears l g base ad S y60 z75 y hfl hI hV c_62 ⟨by omega, by omega⟩ rz75 hrn2) t_688 (q_callB hK 687 14 689 t_687 t_14 t_689 f_yL_wears ⟨Nat.le_of_ble_eq_true rfl, Nat.le_of_ble_eq_true rfl⟩) rfl rfl (Nat.le_of_ble_eq_true rfl) dL_acts_636 (c2 := 16) (s2 := 96) ⟨by first | rfl | (dsimp only; omega), by first | rfl | (dsimp only; omega)⟩ ⟨by show 16 ≤ 2970; omega, by show 96 ≤ 18559; omega⟩ (fun rr ad' S' H locs hQ hP hS => ?_)
                          obtain ⟨⟨hr9, ek9⟩, hI9, hV9⟩ := hQ
                          subst hr9
                          obtain ⟨S76, hS76⟩ : ∃ s9 : St, s9 = S' := ⟨_, rfl⟩
                          rw [← hS76] at hI9 hV9 hP
                          obtain ⟨ad77, had77⟩ : ∃ a9 : Nat → Nat → Nat, a9 = ad' := ⟨_, rfl⟩
                          rw [← had77] at ek9 hP
                          have ek_ad77 : ∀ x q, x < 4 → ad77 x q = ad x q := fun x q h => (ek9 x q h)
                          have el_ad77 : ∀ x q, x < 4 → ad77 x q = ad x q := ek9
                          have hl : lv_has ls 13 [(12, .int (i32 (1))), (11, .int (i32 (1))), (10, .int (i32 (ln))), (9, .int (i32 (y64))), (8, .int (i32 (y60))), (7, .int (i32 (y1))), (0, .ref (ad77 1 0)), (1, .ref (ad77 3 1)), (2, .ref (ad77 3 2)), (3, .ref (ad77 3 3)), (4, .ref (ad77 3 4)), (5, .int (i32 (x))), (6, .int (i32 (y)))] := by
                            have t9 := hl
                            rw [← el_ad77 1 0 (by decide), ← el_ad77 3 1 (by decide), ← el_ad77 3 2 (by decide), ← el_ad77 3 3 (by decide), ← el_ad77 3 4 (by decide)] at t9
                            exact t9
                          skip
                          have ivS76 : IV S76 := hI9
                          have lvS76 : LV S76 := hV9
                          have rS76 : ∀ (a1 b1 : Nat) (i1 : Int), rng (S76 a1 b1 i1) := fun a1 b1 i1 => hP.rg a1 b1 i1
                          refine q_if_eq (tgt := 673) hx hb ⟨by decide, by decide⟩ dL_acts_639 (by decide) (fun h => by omega) (fun _ => ?_)
                          refine lv_goto (tgt := 669) hx hb dL_acts_642 (by decide) ?_
                          refine lv_iconst (v := i32 (1)) hx hb dL_acts_669 rfl ?_
                          refine lv_goto (tgt := 674) hx hb dL_acts_670 (by decide) ?_
                          subst hQm
                          exact q_zret hx hb hr hlocks hP hS (v := 1) (by decide) (by exact ⟨⟨rfl, ek_ad77⟩, ivS76, lvS76⟩) (by show 16 ≤ 2970; omega) (by show 96 ≤ 18559; omega) dL_acts_674
                      · -- y1 = 13
                        refine lv_aload_n hx hb dL_acts_603 rfl (lv_at hl 6 rfl) ?_
                        refine lv_iload hx hb dL_acts_604 (lv_at hl 4 rfl) ?_
                        refine lv_iload hx hb dL_acts_606 (lv_at hl 12 rfl) ?_
                        refine q_callS2 (As := [.ref (ad 1 0), .int (i32 (y60)), .int (i32 (y))]) (rest := []) hx hb hml hl.1 hown hK hZ hP hS (c_L_sews l g base ad S y60 y hfl hI hV c_62 ⟨by omega, by omega⟩ hrn2) t_673 (q_callB hK 672 14 674 t_672 t_14 t_674 f_yL_sews ⟨Nat.le_of_ble_eq_true rfl, Nat.le_of_ble_eq_true rfl⟩) rfl rfl (Nat.le_of_ble_eq_true rfl) dL_acts_608 (c2 := 22) (s2 := 132) ⟨by first | rfl | (dsimp only; omega), by first | rfl | (dsimp only; omega)⟩ ⟨by show 22 ≤ 2970; omega, by show 132 ≤ 18559; omega⟩ (fun rr ad' S' H locs hQ hP hS => ?_)
                        obtain ⟨⟨hr9, ek9⟩, hI9, hV9⟩ := hQ
                        subst hr9
                        obtain ⟨S78, hS78⟩ : ∃ s9 : St, s9 = S' := ⟨_, rfl⟩
                        rw [← hS78] at hI9 hV9 hP
                        obtain ⟨ad79, had79⟩ : ∃ a9 : Nat → Nat → Nat, a9 = ad' := ⟨_, rfl⟩
                        rw [← had79] at ek9 hP
                        have ek_ad79 : ∀ x q, x < 4 → ad79 x q = ad x q := fun x q h => (ek9 x q h)
                        have el_ad79 : ∀ x q, x < 4 → ad79 x q = ad x q := ek9
                        have hl : lv_has ls 13 [(12, .int (i32 (1))), (11, .int (i32 (1))), (10, .int (i32 (ln))), (9, .int (i32 (y64))), (8, .int (i32 (y60))), (7, .int (i32 (y1))), (0, .ref (ad79 1 0)), (1, .ref (ad79 3 1)), (2, .ref (ad79 3 2)), (3, .ref (ad79 3 3)), (4, .ref (ad79 3 4)), (5, .int (i32 (x))), (6, .int (i32 (y)))] := by
                          have t9 := hl
                          rw [← el_ad79 1 0 (by decide), ← el_ad79 3 1 (by decide), ← el_ad79 3 2 (by decide), ← el_ad79 3 3 (by decide), ← el_ad79 3 4 (by decide)] at t9
                          exact t9
                        skip
                        have ivS78 : IV S78 := hI9
                        have lvS78 : LV S78 := hV9
                        have rS78 : ∀ (a1 b1 : Nat) (i1 : Int), rng (S78 a1 b1 i1) := fun a1 b1 i1 => hP.rg a1 b1 i1
                        refine q_if_eq (tgt := 673) hx hb ⟨by decide, by decide⟩ dL_acts_611 (by decide) (fun h => by omega) (fun _ => ?_)
                        refine lv_goto (tgt := 669) hx hb dL_acts_614 (by decide) ?_
                        refine lv_iconst (v := i32 (1)) hx hb dL_acts_669 rfl ?_
                        refine lv_goto (tgt := 674) hx hb dL_acts_670 (by decide) ?_
                        subst hQm
                        exact q_zret hx hb hr hlocks hP hS (v := 1) (by decide) (by exact ⟨⟨rfl, ek_ad79⟩, ivS78, lvS78⟩) (by show 22 ≤ 2970; omega) (by show 132 ≤ 18559; omega) dL_acts_674
                    · -- y1 = 12
                      refine lv_aload_n hx hb dL_acts_580 rfl (lv_at hl 6 rfl) ?_
                      refine lv_aload_n hx hb dL_acts_581 rfl (lv_at hl 7 rfl) ?_
                      refine lv_aload_n hx hb dL_acts_582 rfl (lv_at hl 9 rfl) ?_
                      refine lv_iload hx hb dL_acts_583 (lv_at hl 4 rfl) ?_
                      refine lv_iload hx hb dL_acts_585 (lv_at hl 12 rfl) ?_
                      refine q_callS2 (As := [.ref (ad 1 0), .ref (ad 3 1), .ref (ad 3 3), .int (i32 (y60)), .int (i32 (y))]) (rest := []) hx hb hml hl.1 hown hK hZ hP hS (c_L_cuts l g base ad S y60 y hfl hI hV c_62 ⟨by omega, by omega⟩ hrn2) t_655 (q_callB hK 654 14 656 t_654 t_14 t_656 f_yL_cuts ⟨Nat.le_of_ble_eq_true rfl, Nat.le_of_ble_eq_true rfl⟩) rfl rfl (Nat.le_of_ble_eq_true rfl) dL_acts_587 (c2 := 2970) (s2 := 18559) ⟨by first | rfl | (dsimp only; omega), by first | rfl | (dsimp only; omega)⟩ ⟨by show 2970 ≤ 2970; omega, by show 18559 ≤ 18559; omega⟩ (fun rr ad' S' H locs hQ hP hS => ?_)
                      obtain ⟨⟨hr9, ek9⟩, hI9, hV9⟩ := hQ
                      subst hr9
                      obtain ⟨S80, hS80⟩ : ∃ s9 : St, s9 = S' := ⟨_, rfl⟩
                      rw [← hS80] at hI9 hV9 hP
                      obtain ⟨ad81, had81⟩ : ∃ a9 : Nat → Nat → Nat, a9 = ad' := ⟨_, rfl⟩
                      rw [← had81] at ek9 hP
                      have ek_ad81 : ∀ x q, x < 4 → ad81 x q = ad x q := fun x q h => (ek9 x q h)
                      have el_ad81 : ∀ x q, x < 4 → ad81 x q = ad x q := ek9
                      have hl : lv_has ls 13 [(12, .int (i32 (1))), (11, .int (i32 (1))), (10, .int (i32 (ln))), (9, .int (i32 (y64))), (8, .int (i32 (y60))), (7, .int (i32 (y1))), (0, .ref (ad81 1 0)), (1, .ref (ad81 3 1)), (2, .ref (ad81 3 2)), (3, .ref (ad81 3 3)), (4, .ref (ad81 3 4)), (5, .int (i32 (x))), (6, .int (i32 (y)))] := by
                        have t9 := hl
                        rw [← el_ad81 1 0 (by decide), ← el_ad81 3 1 (by decide), ← el_ad81 3 2 (by decide), ← el_ad81 3 3 (by decide), ← el_ad81 3 4 (by decide)] at t9
                        exact t9
                      skip
                      have ivS80 : IV S80 := hI9
                      have lvS80 : LV S80 := hV9
                      have rS80 : ∀ (a1 b1 : Nat) (i1 : Int), rng (S80 a1 b1 i1) := fun a1 b1 i1 => hP.rg a1 b1 i1
                      refine q_if_eq (tgt := 673) hx hb ⟨by decide, by decide⟩ dL_acts_590 (by decide) (fun h => by omega) (fun _ => ?_)
                      refine lv_goto (tgt := 669) hx hb dL_acts_593 (by decide) ?_
                      refine lv_iconst (v := i32 (1)) hx hb dL_acts_669 rfl ?_
                      refine lv_goto (tgt := 674) hx hb dL_acts_670 (by decide) ?_
                      subst hQm
                      exact q_zret hx hb hr hlocks hP hS (v := 1) (by decide) (by exact ⟨⟨rfl, ek_ad81⟩, ivS80, lvS80⟩) (by show 2970 ≤ 2970; omega) (by show 18559 ≤ 18559; omega) dL_acts_674
                  · skip
                    obtain ⟨hd1, hd2, hd3⟩ := vd y64 (by omega) (by omega)
                    obtain ⟨⟨-, hcw1, hcw2⟩, -⟩ := hI.k.2.2 y64 (by omega) (by omega)
                    obtain ⟨-, pw8, ph8, -⟩ := (hI.pp c_62).1
                    have hm0 : 0 ≤ (S 3 2 (2 * y64)) * (S 3 2 ((2 * y64) + 1)) := Int.mul_nonneg (by omega) (by omega)
                    have hm1 : (S 3 2 (2 * y64)) * (S 3 2 ((2 * y64) + 1)) ≤ 240 := mul240 (by omega) (by omega) (by omega) (by omega)
                    refine lv_aload_n hx hb dL_acts_466 rfl (lv_at hl 3 rfl) ?_
                    refine lv_iload hx hb dL_acts_467 (lv_at hl 1 rfl) ?_
                    refine lv_iload hx hb dL_acts_469 (lv_at hl 0 rfl) ?_
                    refine q_callH2 (As := [.ref (ad 1 0), .int (i32 (y60)), .int (i32 (y64))]) (rest := []) hx hb hml hl.1 hown hK hZ hP hS (c_L_likeness l g base ad S y60 y64 hfl hI.wc ⟨by omega, by omega⟩ ⟨by omega, by omega⟩) t_504 t_14 t_506 t_505 f_yL_likeness ⟨Nat.le_of_ble_eq_true rfl, Nat.le_of_ble_eq_true rfl⟩ rfl rfl (Nat.le_of_ble_eq_true rfl) dL_acts_471 (c2 := 4) (s2 := 24) ⟨by first | rfl | (dsimp only; omega), by first | rfl | (dsimp only; omega)⟩ ⟨by show 4 ≤ 2970; omega, by show 24 ≤ 18559; omega⟩ (q_an (fun H locs hP hS => ?_))
                    refine q_nm (b := -1) ((lv_0 ⟨c_62, hI.ce.mpr (by omega)⟩ trivial trivial).trans (cif_f h_F)) ?_
                    refine lv_istore (lv' := [(10, .int (i32 (-1))), (9, .int (i32 (y64))), (8, .int (i32 (y60))), (7, .int (i32 (y1))), (0, .ref (ad 1 0)), (1, .ref (ad 3 1)), (2, .ref (ad 3 2)), (3, .ref (ad 3 3)), (4, .ref (ad 3 4)), (5, .int (i32 (x))), (6, .int (i32 (y)))]) hx hb dL_acts_474 hl (by decide) rfl (fun ls hl => ?_)
                    refine lv_aload_n hx hb dL_acts_476 rfl (lv_at hl 4 rfl) ?_
                    refine lv_iload hx hb dL_acts_477 (lv_at hl 2 rfl) ?_
                    refine lv_iconst (v := i32 (0)) hx hb dL_acts_479 rfl ?_
                    refine q_callH2 (As := [.ref (ad 1 0), .int (i32 (y60)), .int (i32 (0))]) (rest := []) hx hb hml hl.1 hown hK hZ hP hS (c_L_pieceIs l g base ad S y60 ((0 : Int)) hfl hI.wc ⟨by omega, by omega⟩ ⟨by decide, by decide⟩) t_266 t_14 t_268 t_267 f_yL_pieceIs ⟨Nat.le_of_ble_eq_true rfl, Nat.le_of_ble_eq_true rfl⟩ rfl rfl (Nat.le_of_ble_eq_true rfl) dL_acts_480 (c2 := 6) (s2 := 36) ⟨by first | rfl | (dsimp only; omega), by first | rfl | (dsimp only; omega)⟩ ⟨by show 6 ≤ 2970; omega, by show 36 ≤ 18559; omega⟩ (q_an (fun H locs hP hS => ?_))
                    refine q_nm (b := S (10 + Int.toNat y60) 0 0) (((lv_0 c_62 (by decide) trivial).trans (pcC_0 rfl))) ?_
                    refine lv_aload_n hx hb dL_acts_483 rfl (lv_at hl 6 rfl) ?_
                    refine lv_iconst (v := i32 (2)) hx hb dL_acts_484 rfl ?_
                    refine lv_iload hx hb dL_acts_485 (lv_at hl 1 rfl) ?_
                    refine q_imul hx hb dL_acts_487 ?_
                    refine p_iald (k := 3) (r := 2) (n := 10) hx hb hK hP hI.a.2.2 rfl rfl (by decide) (by decide) (by omega) (by omega) dL_acts_488 ?_
                    refine q_icmp_ne (tgt := 514) hx hb (rS _ _ _) (rS _ _ _) dL_acts_489 (by decide) (fun c_82 => ?_) (fun c_82 => ?_)
                    · -- (S (10 + Int.toNat y60) 0 0) ≠ (S 3 2 (2 * y64))
                      refine lv_iconst (v := i32 (0)) hx hb dL_acts_514 rfl ?_
                      refine lv_istore (lv' := [(11, .int (i32 (0))), (10, .int (i32 (-1))), (9, .int (i32 (y64))), (8, .int (i32 (y60))), (7, .int (i32 (y1))), (0, .ref (ad 1 0)), (1, .ref (ad 3 1)), (2, .ref (ad 3 2)), (3, .ref (ad 3 3)), (4, .ref (ad 3 4)), (5, .int (i32 (x))), (6, .int (i32 (y)))]) hx hb dL_acts_515 hl (by decide) rfl (fun ls hl => ?_)
                      refine lv_iload hx hb dL_acts_517 (lv_at hl 0 rfl) ?_
                      refine q_if_eq (tgt := 555) hx hb ⟨by decide, by decide⟩ dL_acts_519 (by decide) (fun _ => ?_) (fun h => by omega)
                      refine lv_iload hx hb dL_acts_555 (lv_at hl 1 rfl) ?_
                      refine lv_iconst (v := i32 (-1)) hx hb dL_acts_557 rfl ?_
                      refine q_icmp_ne (tgt := 565) hx hb ⟨by decide, by decide⟩ ⟨by decide, by decide⟩ dL_acts_558 (by decide) (fun c_83 => (by exfalso; omega)) (fun c_83 => ?_)
                      refine lv_iconst (v := i32 (1)) hx hb dL_acts_561 rfl ?_
                      refine lv_goto (tgt := 566) hx hb dL_acts_562 (by decide) ?_
                      refine lv_istore (lv' := [(12, .int (i32 (1))), (11, .int (i32 (0))), (10, .int (i32 (-1))), (9, .int (i32 (y64))), (8, .int (i32 (y60))), (7, .int (i32 (y1))), (0, .ref (ad 1 0)), (1, .ref (ad 3 1)), (2, .ref (ad 3 2)), (3, .ref (ad 3 3)), (4, .ref (ad 3 4)), (5, .int (i32 (x))), (6, .int (i32 (y)))]) hx hb dL_acts_566 hl (by decide) rfl (fun ls hl => ?_)
                      refine lv_iload hx hb dL_acts_568 (lv_at hl 0 rfl) ?_
                      refine q_if_eq (tgt := 673) hx hb ⟨by decide, by decide⟩ dL_acts_570 (by decide) (fun h => by omega) (fun _ => ?_)
                      refine lv_iload hx hb dL_acts_573 (lv_at hl 5 rfl) ?_
                      refine lv_bipush (v := i32 (12)) hx hb dL_acts_575 (by decide) ?_
                      refine q_icmp_ne (tgt := 596) hx hb ⟨by omega, by omega⟩ ⟨by decide, by decide⟩ dL_acts_577 (by decide) (fun c_84 => ?_) (fun c_84 => ?_)
                      · -- y1 ≠ 12
                        refine lv_iload hx hb dL_acts_596 (lv_at hl 5 rfl) ?_
                        refine lv_bipush (v := i32 (13)) hx hb dL_acts_598 (by decide) ?_
                        refine q_icmp_ne (tgt := 617) hx hb ⟨by omega, by omega⟩ ⟨by decide, by decide⟩ dL_acts_600 (by decide) (fun c_85 => ?_) (fun c_85 => ?_)
                        · -- y1 ≠ 13
                          refine lv_iload hx hb dL_acts_617 (lv_at hl 5 rfl) ?_
                          refine lv_bipush (v := i32 (14)) hx hb dL_acts_619 (by decide) ?_
                          refine q_icmp_ne (tgt := 645) hx hb ⟨by omega, by omega⟩ ⟨by decide, by decide⟩ dL_acts_621 (by decide) (fun c_86 => ?_) (fun c_86 => ?_)
                          · -- y1 ≠ 14
                            refine lv_aload_n hx hb dL_acts_645 rfl (lv_at hl 6 rfl) ?_
                            refine lv_aload_n hx hb dL_acts_646 rfl (lv_at hl 9 rfl) ?_
                            refine lv_iload hx hb dL_acts_647 (lv_at hl 4 rfl) ?_
                            refine q_callS2 (As := [.ref (ad 1 0), .ref (ad 3 3), .int (i32 (y60))]) (rest := []) hx hb hml hl.1 hown hK hZ hP hS (c_L_isPiece l g base ad S y60 hfl hI c_62 hV.2.2.2 ⟨by omega, by omega⟩) t_329 (q_callB hK 328 14 330 t_328 t_14 t_330 f_yL_isPiece ⟨Nat.le_of_ble_eq_true rfl, Nat.le_of_ble_eq_true rfl⟩) rfl rfl (Nat.le_of_ble_eq_true rfl) dL_acts_649 (c2 := 1466) (s2 := 8796) ⟨by first | rfl | (dsimp only; omega), by first | rfl | (dsimp only; omega)⟩ ⟨by show 1466 ≤ 2970; omega, by show 8796 ≤ 18559; omega⟩ (q_an (fun H locs hP hS => ?_))
                            refine q_if_eq (tgt := 673) hx hb ⟨by decide, by decide⟩ dL_acts_652 (by decide) (fun h => by omega) (fun _ => ?_)
                            refine lv_aload_n hx hb dL_acts_655 rfl (lv_at hl 6 rfl) ?_
                            refine q_callV2 (k := 1) (As := []) (rest := []) hx hb hml hl.1 hown hK hZ hP hS hI.a.1 rfl rfl rfl (c_X3_balances l g base ad S  hI.wc) t_91 t_92 (q_callB hK 90 15 93 t_90 t_15 t_93 f_yX3_balances ⟨Nat.le_of_ble_eq_true rfl, Nat.le_of_ble_eq_true rfl⟩) rfl rfl (Nat.le_of_ble_eq_true rfl) dL_acts_656 (c2 := 1466) (s2 := 8796) ⟨by first | rfl | (dsimp only; omega), by first | rfl | (dsimp only; omega)⟩ ⟨by show 1466 ≤ 2970; omega, by show 8796 ≤ 18559; omega⟩ (q_an (fun H locs hP hS => ?_))
                            generalize eS87 : blS S 20 = S87 at hP
                            have rS87 : ∀ (a1 b1 : Nat) (i1 : Int), rng (S87 a1 b1 i1) := fun a1 b1 i1 => hP.rg a1 b1 i1
                            have ivS87 : IV S87 := by rw [← eS87]; exact IV_bl hI
                            have h3S87 : ∀ (b1 : Nat) (i1 : Int), S87 3 b1 i1 = S 3 b1 i1 := by rw [← eS87]; exact fun b i => blS_o (by omega)
                            have lv9 : LV S87 := by rw [← eS87]; exact LV_k hV hI.k.1.2 (fun b i => blS_o (by omega)) (blS_o (by omega)) (blS_o (by omega)) (blS_o (by omega)) (fun j => blS_o (by omega)) (fun a h1 h2 => ⟨blS_o (by omega), blS_o (by omega)⟩)
                            refine q_if_eqb (tgt := 673) hx hb dL_acts_659 (by decide) (fun c_88 => (by exfalso; exact c_88 hI.b)) (fun c_88 => ?_)
                            refine lv_aload_n hx hb dL_acts_662 rfl (lv_at hl 6 rfl) ?_
                            have gdb := gd_b ivS87
                            refine q_callV2 (k := 1) (As := []) (rest := []) hx hb hml hl.1 hown hK hZ hP hS ivS87.a.1 rfl rfl rfl (c_X3_gold l g base ad S87  ivS87.wc) t_707 t_708 (q_callB hK 706 15 709 t_706 t_15 t_709 f_yX3_gold ⟨Nat.le_of_ble_eq_true rfl, Nat.le_of_ble_eq_true rfl⟩) rfl rfl (Nat.le_of_ble_eq_true rfl) dL_acts_663 (c2 := 1466) (s2 := 8796) ⟨by first | rfl | (dsimp only; omega), by first | rfl | (dsimp only; omega)⟩ ⟨by show 1466 ≤ 2970; omega, by show 8796 ≤ 18559; omega⟩ (q_an (fun H locs hP hS => ?_))
                            refine q_if_lt (tgt := 673) hx hb ⟨by omega, by omega⟩ dL_acts_666 (by decide) (fun c_89 => (by exfalso; omega)) (fun c_89 => ?_)
                            refine lv_iconst (v := i32 (1)) hx hb dL_acts_669 rfl ?_
                            refine lv_goto (tgt := 674) hx hb dL_acts_670 (by decide) ?_
                            subst hQm
                            exact q_zret hx hb hr hlocks hP hS (v := 1) (by decide) (by exact ⟨⟨rfl, (fun _ _ _ => rfl)⟩, ivS87, lv9⟩) (by show 1466 ≤ 2970; omega) (by show 8796 ≤ 18559; omega) dL_acts_674
                          · -- y1 = 14
                            refine lv_aload_n hx hb dL_acts_624 rfl (lv_at hl 6 rfl) ?_
                            refine lv_aload hx hb dL_acts_625 (lv_at hl 10 rfl) ?_
                            refine lv_iload hx hb dL_acts_627 (lv_at hl 4 rfl) ?_
                            refine lv_iload hx hb dL_acts_629 (lv_at hl 11 rfl) ?_
                            refine lv_bipush (v := i32 (9)) hx hb dL_acts_631 (by decide) ?_
                            refine lv_ishr hx hb dL_acts_633 ?_
                            obtain ⟨z90, rz90, hz90⟩ := i32_of (i32 (x) >>> (i32 (9) &&& 31))
                            rw [hz90]
                            refine lv_iload hx hb dL_acts_634 (lv_at hl 12 rfl) ?_
                            refine q_callS2 (As := [.ref (ad 1 0), .ref (ad 3 4), .int (i32 (y60)), .int (i32 (z90)), .int (i32 (y))]) (rest := []) hx hb hml hl.1 hown hK hZ hP hS (c_L_wears l g base ad S y60 z90 y hfl hI hV c_62 ⟨by omega, by omega⟩ rz90 hrn2) t_688 (q_callB hK 687 14 689 t_687 t_14 t_689 f_yL_wears ⟨Nat.le_of_ble_eq_true rfl, Nat.le_of_ble_eq_true rfl⟩) rfl rfl (Nat.le_of_ble_eq_true rfl) dL_acts_636 (c2 := 14) (s2 := 84) ⟨by first | rfl | (dsimp only; omega), by first | rfl | (dsimp only; omega)⟩ ⟨by show 14 ≤ 2970; omega, by show 84 ≤ 18559; omega⟩ (fun rr ad' S' H locs hQ hP hS => ?_)
                            obtain ⟨⟨hr9, ek9⟩, hI9, hV9⟩ := hQ
                            subst hr9
                            obtain ⟨S91, hS91⟩ : ∃ s9 : St, s9 = S' := ⟨_, rfl⟩
                            rw [← hS91] at hI9 hV9 hP
                            obtain ⟨ad92, had92⟩ : ∃ a9 : Nat → Nat → Nat, a9 = ad' := ⟨_, rfl⟩
                            rw [← had92] at ek9 hP
                            have ek_ad92 : ∀ x q, x < 4 → ad92 x q = ad x q := fun x q h => (ek9 x q h)
                            have el_ad92 : ∀ x q, x < 4 → ad92 x q = ad x q := ek9
                            have hl : lv_has ls 13 [(12, .int (i32 (1))), (11, .int (i32 (0))), (10, .int (i32 (-1))), (9, .int (i32 (y64))), (8, .int (i32 (y60))), (7, .int (i32 (y1))), (0, .ref (ad92 1 0)), (1, .ref (ad92 3 1)), (2, .ref (ad92 3 2)), (3, .ref (ad92 3 3)), (4, .ref (ad92 3 4)), (5, .int (i32 (x))), (6, .int (i32 (y)))] := by
                              have t9 := hl
                              rw [← el_ad92 1 0 (by decide), ← el_ad92 3 1 (by decide), ← el_ad92 3 2 (by decide), ← el_ad92 3 3 (by decide), ← el_ad92 3 4 (by decide)] at t9
                              exact t9
                            skip
                            have ivS91 : IV S91 := hI9
                            have lvS91 : LV S91 := hV9
                            have rS91 : ∀ (a1 b1 : Nat) (i1 : Int), rng (S91 a1 b1 i1) := fun a1 b1 i1 => hP.rg a1 b1 i1
                            refine q_if_eq (tgt := 673) hx hb ⟨by decide, by decide⟩ dL_acts_639 (by decide) (fun h => by omega) (fun _ => ?_)
                            refine lv_goto (tgt := 669) hx hb dL_acts_642 (by decide) ?_
                            refine lv_iconst (v := i32 (1)) hx hb dL_acts_669 rfl ?_
                            refine lv_goto (tgt := 674) hx hb dL_acts_670 (by decide) ?_
                            subst hQm
                            exact q_zret hx hb hr hlocks hP hS (v := 1) (by decide) (by exact ⟨⟨rfl, ek_ad92⟩, ivS91, lvS91⟩) (by show 14 ≤ 2970; omega) (by show 84 ≤ 18559; omega) dL_acts_674
                        · -- y1 = 13
                          refine lv_aload_n hx hb dL_acts_603 rfl (lv_at hl 6 rfl) ?_
                          refine lv_iload hx hb dL_acts_604 (lv_at hl 4 rfl) ?_
                          refine lv_iload hx hb dL_acts_606 (lv_at hl 12 rfl) ?_
                          refine q_callS2 (As := [.ref (ad 1 0), .int (i32 (y60)), .int (i32 (y))]) (rest := []) hx hb hml hl.1 hown hK hZ hP hS (c_L_sews l g base ad S y60 y hfl hI hV c_62 ⟨by omega, by omega⟩ hrn2) t_673 (q_callB hK 672 14 674 t_672 t_14 t_674 f_yL_sews ⟨Nat.le_of_ble_eq_true rfl, Nat.le_of_ble_eq_true rfl⟩) rfl rfl (Nat.le_of_ble_eq_true rfl) dL_acts_608 (c2 := 20) (s2 := 120) ⟨by first | rfl | (dsimp only; omega), by first | rfl | (dsimp only; omega)⟩ ⟨by show 20 ≤ 2970; omega, by show 120 ≤ 18559; omega⟩ (fun rr ad' S' H locs hQ hP hS => ?_)
                          obtain ⟨⟨hr9, ek9⟩, hI9, hV9⟩ := hQ
                          subst hr9
                          obtain ⟨S93, hS93⟩ : ∃ s9 : St, s9 = S' := ⟨_, rfl⟩
                          rw [← hS93] at hI9 hV9 hP
                          obtain ⟨ad94, had94⟩ : ∃ a9 : Nat → Nat → Nat, a9 = ad' := ⟨_, rfl⟩
                          rw [← had94] at ek9 hP
                          have ek_ad94 : ∀ x q, x < 4 → ad94 x q = ad x q := fun x q h => (ek9 x q h)
                          have el_ad94 : ∀ x q, x < 4 → ad94 x q = ad x q := ek9
                          have hl : lv_has ls 13 [(12, .int (i32 (1))), (11, .int (i32 (0))), (10, .int (i32 (-1))), (9, .int (i32 (y64))), (8, .int (i32 (y60))), (7, .int (i32 (y1))), (0, .ref (ad94 1 0)), (1, .ref (ad94 3 1)), (2, .ref (ad94 3 2)), (3, .ref (ad94 3 3)), (4, .ref (ad94 3 4)), (5, .int (i32 (x))), (6, .int (i32 (y)))] := by
                            have t9 := hl
                            rw [← el_ad94 1 0 (by decide), ← el_ad94 3 1 (by decide), ← el_ad94 3 2 (by decide), ← el_ad94 3 3 (by decide), ← el_ad94 3 4 (by decide)] at t9
                            exact t9
                          skip
                          have ivS93 : IV S93 := hI9
                          have lvS93 : LV S93 := hV9
                          have rS93 : ∀ (a1 b1 : Nat) (i1 : Int), rng (S93 a1 b1 i1) := fun a1 b1 i1 => hP.rg a1 b1 i1
                          refine q_if_eq (tgt := 673) hx hb ⟨by decide, by decide⟩ dL_acts_611 (by decide) (fun h => by omega) (fun _ => ?_)
                          refine lv_goto (tgt := 669) hx hb dL_acts_614 (by decide) ?_
                          refine lv_iconst (v := i32 (1)) hx hb dL_acts_669 rfl ?_
                          refine lv_goto (tgt := 674) hx hb dL_acts_670 (by decide) ?_
                          subst hQm
                          exact q_zret hx hb hr hlocks hP hS (v := 1) (by decide) (by exact ⟨⟨rfl, ek_ad94⟩, ivS93, lvS93⟩) (by show 20 ≤ 2970; omega) (by show 120 ≤ 18559; omega) dL_acts_674
                      · -- y1 = 12
                        refine lv_aload_n hx hb dL_acts_580 rfl (lv_at hl 6 rfl) ?_
                        refine lv_aload_n hx hb dL_acts_581 rfl (lv_at hl 7 rfl) ?_
                        refine lv_aload_n hx hb dL_acts_582 rfl (lv_at hl 9 rfl) ?_
                        refine lv_iload hx hb dL_acts_583 (lv_at hl 4 rfl) ?_
                        refine lv_iload hx hb dL_acts_585 (lv_at hl 12 rfl) ?_
                        refine q_callS2 (As := [.ref (ad 1 0), .ref (ad 3 1), .ref (ad 3 3), .int (i32 (y60)), .int (i32 (y))]) (rest := []) hx hb hml hl.1 hown hK hZ hP hS (c_L_cuts l g base ad S y60 y hfl hI hV c_62 ⟨by omega, by omega⟩ hrn2) t_655 (q_callB hK 654 14 656 t_654 t_14 t_656 f_yL_cuts ⟨Nat.le_of_ble_eq_true rfl, Nat.le_of_ble_eq_true rfl⟩) rfl rfl (Nat.le_of_ble_eq_true rfl) dL_acts_587 (c2 := 2968) (s2 := 18547) ⟨by first | rfl | (dsimp only; omega), by first | rfl | (dsimp only; omega)⟩ ⟨by show 2968 ≤ 2970; omega, by show 18547 ≤ 18559; omega⟩ (fun rr ad' S' H locs hQ hP hS => ?_)
                        obtain ⟨⟨hr9, ek9⟩, hI9, hV9⟩ := hQ
                        subst hr9
                        obtain ⟨S95, hS95⟩ : ∃ s9 : St, s9 = S' := ⟨_, rfl⟩
                        rw [← hS95] at hI9 hV9 hP
                        obtain ⟨ad96, had96⟩ : ∃ a9 : Nat → Nat → Nat, a9 = ad' := ⟨_, rfl⟩
                        rw [← had96] at ek9 hP
                        have ek_ad96 : ∀ x q, x < 4 → ad96 x q = ad x q := fun x q h => (ek9 x q h)
                        have el_ad96 : ∀ x q, x < 4 → ad96 x q = ad x q := ek9
                        have hl : lv_has ls 13 [(12, .int (i32 (1))), (11, .int (i32 (0))), (10, .int (i32 (-1))), (9, .int (i32 (y64))), (8, .int (i32 (y60))), (7, .int (i32 (y1))), (0, .ref (ad96 1 0)), (1, .ref (ad96 3 1)), (2, .ref (ad96 3 2)), (3, .ref (ad96 3 3)), (4, .ref (ad96 3 4)), (5, .int (i32 (x))), (6, .int (i32 (y)))] := by
                          have t9 := hl
                          rw [← el_ad96 1 0 (by decide), ← el_ad96 3 1 (by decide), ← el_ad96 3 2 (by decide), ← el_ad96 3 3 (by decide), ← el_ad96 3 4 (by decide)] at t9
                          exact t9
                        skip
                        have ivS95 : IV S95 := hI9
                        have lvS95 : LV S95 := hV9
                        have rS95 : ∀ (a1 b1 : Nat) (i1 : Int), rng (S95 a1 b1 i1) := fun a1 b1 i1 => hP.rg a1 b1 i1
                        refine q_if_eq (tgt := 673) hx hb ⟨by decide, by decide⟩ dL_acts_590 (by decide) (fun h => by omega) (fun _ => ?_)
                        refine lv_goto (tgt := 669) hx hb dL_acts_593 (by decide) ?_
                        refine lv_iconst (v := i32 (1)) hx hb dL_acts_669 rfl ?_
                        refine lv_goto (tgt := 674) hx hb dL_acts_670 (by decide) ?_
                        subst hQm
                        exact q_zret hx hb hr hlocks hP hS (v := 1) (by decide) (by exact ⟨⟨rfl, ek_ad96⟩, ivS95, lvS95⟩) (by show 2968 ≤ 2970; omega) (by show 18547 ≤ 18559; omega) dL_acts_674
                    · -- (S (10 + Int.toNat y60) 0 0) = (S 3 2 (2 * y64))
                      refine lv_aload_n hx hb dL_acts_492 rfl (lv_at hl 4 rfl) ?_
                      refine lv_iload hx hb dL_acts_493 (lv_at hl 2 rfl) ?_
                      refine lv_iconst (v := i32 (1)) hx hb dL_acts_495 rfl ?_
                      refine q_callH2 (As := [.ref (ad 1 0), .int (i32 (y60)), .int (i32 (1))]) (rest := []) hx hb hml hl.1 hown hK hZ hP hS (c_L_pieceIs l g base ad S y60 ((1 : Int)) hfl hI.wc ⟨by omega, by omega⟩ ⟨by decide, by decide⟩) t_266 t_14 t_268 t_267 f_yL_pieceIs ⟨Nat.le_of_ble_eq_true rfl, Nat.le_of_ble_eq_true rfl⟩ rfl rfl (Nat.le_of_ble_eq_true rfl) dL_acts_496 (c2 := 8) (s2 := 48) ⟨by first | rfl | (dsimp only; omega), by first | rfl | (dsimp only; omega)⟩ ⟨by show 8 ≤ 2970; omega, by show 48 ≤ 18559; omega⟩ (q_an (fun H locs hP hS => ?_))
                      refine q_nm (b := S (10 + Int.toNat y60) 0 1) (((lv_0 c_62 (by decide) trivial).trans (pcC_1 rfl))) ?_
                      refine lv_aload_n hx hb dL_acts_499 rfl (lv_at hl 6 rfl) ?_
                      refine lv_iconst (v := i32 (2)) hx hb dL_acts_500 rfl ?_
                      refine lv_iload hx hb dL_acts_501 (lv_at hl 1 rfl) ?_
                      refine q_imul hx hb dL_acts_503 ?_
                      refine lv_iconst (v := i32 (1)) hx hb dL_acts_504 rfl ?_
                      refine q_iadd hx hb dL_acts_505 ?_
                      refine p_iald (k := 3) (r := 2) (n := 10) hx hb hK hP hI.a.2.2 rfl rfl (by decide) (by decide) (by omega) (by omega) dL_acts_506 ?_
                      refine q_icmp_ne (tgt := 514) hx hb (rS _ _ _) (rS _ _ _) dL_acts_507 (by decide) (fun c_97 => ?_) (fun c_97 => (by exfalso; exact h_F ⟨by omega, by omega⟩))
                      refine lv_iconst (v := i32 (0)) hx hb dL_acts_514 rfl ?_
                      refine lv_istore (lv' := [(11, .int (i32 (0))), (10, .int (i32 (-1))), (9, .int (i32 (y64))), (8, .int (i32 (y60))), (7, .int (i32 (y1))), (0, .ref (ad 1 0)), (1, .ref (ad 3 1)), (2, .ref (ad 3 2)), (3, .ref (ad 3 3)), (4, .ref (ad 3 4)), (5, .int (i32 (x))), (6, .int (i32 (y)))]) hx hb dL_acts_515 hl (by decide) rfl (fun ls hl => ?_)
                      refine lv_iload hx hb dL_acts_517 (lv_at hl 0 rfl) ?_
                      refine q_if_eq (tgt := 555) hx hb ⟨by decide, by decide⟩ dL_acts_519 (by decide) (fun _ => ?_) (fun h => by omega)
                      refine lv_iload hx hb dL_acts_555 (lv_at hl 1 rfl) ?_
                      refine lv_iconst (v := i32 (-1)) hx hb dL_acts_557 rfl ?_
                      refine q_icmp_ne (tgt := 565) hx hb ⟨by decide, by decide⟩ ⟨by decide, by decide⟩ dL_acts_558 (by decide) (fun c_98 => (by exfalso; omega)) (fun c_98 => ?_)
                      refine lv_iconst (v := i32 (1)) hx hb dL_acts_561 rfl ?_
                      refine lv_goto (tgt := 566) hx hb dL_acts_562 (by decide) ?_
                      refine lv_istore (lv' := [(12, .int (i32 (1))), (11, .int (i32 (0))), (10, .int (i32 (-1))), (9, .int (i32 (y64))), (8, .int (i32 (y60))), (7, .int (i32 (y1))), (0, .ref (ad 1 0)), (1, .ref (ad 3 1)), (2, .ref (ad 3 2)), (3, .ref (ad 3 3)), (4, .ref (ad 3 4)), (5, .int (i32 (x))), (6, .int (i32 (y)))]) hx hb dL_acts_566 hl (by decide) rfl (fun ls hl => ?_)
                      refine lv_iload hx hb dL_acts_568 (lv_at hl 0 rfl) ?_
                      refine q_if_eq (tgt := 673) hx hb ⟨by decide, by decide⟩ dL_acts_570 (by decide) (fun h => by omega) (fun _ => ?_)
                      refine lv_iload hx hb dL_acts_573 (lv_at hl 5 rfl) ?_
                      refine lv_bipush (v := i32 (12)) hx hb dL_acts_575 (by decide) ?_
                      refine q_icmp_ne (tgt := 596) hx hb ⟨by omega, by omega⟩ ⟨by decide, by decide⟩ dL_acts_577 (by decide) (fun c_99 => ?_) (fun c_99 => ?_)
                      · -- y1 ≠ 12
                        refine lv_iload hx hb dL_acts_596 (lv_at hl 5 rfl) ?_
                        refine lv_bipush (v := i32 (13)) hx hb dL_acts_598 (by decide) ?_
                        refine q_icmp_ne (tgt := 617) hx hb ⟨by omega, by omega⟩ ⟨by decide, by decide⟩ dL_acts_600 (by decide) (fun c_100 => ?_) (fun c_100 => ?_)
                        · -- y1 ≠ 13
                          refine lv_iload hx hb dL_acts_617 (lv_at hl 5 rfl) ?_
                          refine lv_bipush (v := i32 (14)) hx hb dL_acts_619 (by decide) ?_
                          refine q_icmp_ne (tgt := 645) hx hb ⟨by omega, by omega⟩ ⟨by decide, by decide⟩ dL_acts_621 (by decide) (fun c_101 => ?_) (fun c_101 => ?_)
                          · -- y1 ≠ 14
                            refine lv_aload_n hx hb dL_acts_645 rfl (lv_at hl 6 rfl) ?_
                            refine lv_aload_n hx hb dL_acts_646 rfl (lv_at hl 9 rfl) ?_
                            refine lv_iload hx hb dL_acts_647 (lv_at hl 4 rfl) ?_
                            refine q_callS2 (As := [.ref (ad 1 0), .ref (ad 3 3), .int (i32 (y60))]) (rest := []) hx hb hml hl.1 hown hK hZ hP hS (c_L_isPiece l g base ad S y60 hfl hI c_62 hV.2.2.2 ⟨by omega, by omega⟩) t_329 (q_callB hK 328 14 330 t_328 t_14 t_330 f_yL_isPiece ⟨Nat.le_of_ble_eq_true rfl, Nat.le_of_ble_eq_true rfl⟩) rfl rfl (Nat.le_of_ble_eq_true rfl) dL_acts_649 (c2 := 1468) (s2 := 8808) ⟨by first | rfl | (dsimp only; omega), by first | rfl | (dsimp only; omega)⟩ ⟨by show 1468 ≤ 2970; omega, by show 8808 ≤ 18559; omega⟩ (q_an (fun H locs hP hS => ?_))
                            refine q_if_eq (tgt := 673) hx hb ⟨by decide, by decide⟩ dL_acts_652 (by decide) (fun h => by omega) (fun _ => ?_)
                            refine lv_aload_n hx hb dL_acts_655 rfl (lv_at hl 6 rfl) ?_
                            refine q_callV2 (k := 1) (As := []) (rest := []) hx hb hml hl.1 hown hK hZ hP hS hI.a.1 rfl rfl rfl (c_X3_balances l g base ad S  hI.wc) t_91 t_92 (q_callB hK 90 15 93 t_90 t_15 t_93 f_yX3_balances ⟨Nat.le_of_ble_eq_true rfl, Nat.le_of_ble_eq_true rfl⟩) rfl rfl (Nat.le_of_ble_eq_true rfl) dL_acts_656 (c2 := 1468) (s2 := 8808) ⟨by first | rfl | (dsimp only; omega), by first | rfl | (dsimp only; omega)⟩ ⟨by show 1468 ≤ 2970; omega, by show 8808 ≤ 18559; omega⟩ (q_an (fun H locs hP hS => ?_))
                            generalize eS102 : blS S 20 = S102 at hP
                            have rS102 : ∀ (a1 b1 : Nat) (i1 : Int), rng (S102 a1 b1 i1) := fun a1 b1 i1 => hP.rg a1 b1 i1
                            have ivS102 : IV S102 := by rw [← eS102]; exact IV_bl hI
                            have h3S102 : ∀ (b1 : Nat) (i1 : Int), S102 3 b1 i1 = S 3 b1 i1 := by rw [← eS102]; exact fun b i => blS_o (by omega)
                            have lv9 : LV S102 := by rw [← eS102]; exact LV_k hV hI.k.1.2 (fun b i => blS_o (by omega)) (blS_o (by omega)) (blS_o (by omega)) (blS_o (by omega)) (fun j => blS_o (by omega)) (fun a h1 h2 => ⟨blS_o (by omega), blS_o (by omega)⟩)
                            refine q_if_eqb (tgt := 673) hx hb dL_acts_659 (by decide) (fun c_103 => (by exfalso; exact c_103 hI.b)) (fun c_103 => ?_)
                            refine lv_aload_n hx hb dL_acts_662 rfl (lv_at hl 6 rfl) ?_
                            have gdb := gd_b ivS102
                            refine q_callV2 (k := 1) (As := []) (rest := []) hx hb hml hl.1 hown hK hZ hP hS ivS102.a.1 rfl rfl rfl (c_X3_gold l g base ad S102  ivS102.wc) t_707 t_708 (q_callB hK 706 15 709 t_706 t_15 t_709 f_yX3_gold ⟨Nat.le_of_ble_eq_true rfl, Nat.le_of_ble_eq_true rfl⟩) rfl rfl (Nat.le_of_ble_eq_true rfl) dL_acts_663 (c2 := 1468) (s2 := 8808) ⟨by first | rfl | (dsimp only; omega), by first | rfl | (dsimp only; omega)⟩ ⟨by show 1468 ≤ 2970; omega, by show 8808 ≤ 18559; omega⟩ (q_an (fun H locs hP hS => ?_))
                            refine q_if_lt (tgt := 673) hx hb ⟨by omega, by omega⟩ dL_acts_666 (by decide) (fun c_104 => (by exfalso; omega)) (fun c_104 => ?_)
                            refine lv_iconst (v := i32 (1)) hx hb dL_acts_669 rfl ?_
                            refine lv_goto (tgt := 674) hx hb dL_acts_670 (by decide) ?_
                            subst hQm
                            exact q_zret hx hb hr hlocks hP hS (v := 1) (by decide) (by exact ⟨⟨rfl, (fun _ _ _ => rfl)⟩, ivS102, lv9⟩) (by show 1468 ≤ 2970; omega) (by show 8808 ≤ 18559; omega) dL_acts_674
                          · -- y1 = 14
                            refine lv_aload_n hx hb dL_acts_624 rfl (lv_at hl 6 rfl) ?_
                            refine lv_aload hx hb dL_acts_625 (lv_at hl 10 rfl) ?_
                            refine lv_iload hx hb dL_acts_627 (lv_at hl 4 rfl) ?_
                            refine lv_iload hx hb dL_acts_629 (lv_at hl 11 rfl) ?_
                            refine lv_bipush (v := i32 (9)) hx hb dL_acts_631 (by decide) ?_
                            refine lv_ishr hx hb dL_acts_633 ?_
                            obtain ⟨z105, rz105, hz105⟩ := i32_of (i32 (x) >>> (i32 (9) &&& 31))
                            rw [hz105]
                            refine lv_iload hx hb dL_acts_634 (lv_at hl 12 rfl) ?_
                            refine q_callS2 (As := [.ref (ad 1 0), .ref (ad 3 4), .int (i32 (y60)), .int (i32 (z105)), .int (i32 (y))]) (rest := []) hx hb hml hl.1 hown hK hZ hP hS (c_L_wears l g base ad S y60 z105 y hfl hI hV c_62 ⟨by omega, by omega⟩ rz105 hrn2) t_688 (q_callB hK 687 14 689 t_687 t_14 t_689 f_yL_wears ⟨Nat.le_of_ble_eq_true rfl, Nat.le_of_ble_eq_true rfl⟩) rfl rfl (Nat.le_of_ble_eq_true rfl) dL_acts_636 (c2 := 16) (s2 := 96) ⟨by first | rfl | (dsimp only; omega), by first | rfl | (dsimp only; omega)⟩ ⟨by show 16 ≤ 2970; omega, by show 96 ≤ 18559; omega⟩ (fun rr ad' S' H locs hQ hP hS => ?_)
                            obtain ⟨⟨hr9, ek9⟩, hI9, hV9⟩ := hQ
                            subst hr9
                            obtain ⟨S106, hS106⟩ : ∃ s9 : St, s9 = S' := ⟨_, rfl⟩
                            rw [← hS106] at hI9 hV9 hP
                            obtain ⟨ad107, had107⟩ : ∃ a9 : Nat → Nat → Nat, a9 = ad' := ⟨_, rfl⟩
                            rw [← had107] at ek9 hP
                            have ek_ad107 : ∀ x q, x < 4 → ad107 x q = ad x q := fun x q h => (ek9 x q h)
                            have el_ad107 : ∀ x q, x < 4 → ad107 x q = ad x q := ek9
                            have hl : lv_has ls 13 [(12, .int (i32 (1))), (11, .int (i32 (0))), (10, .int (i32 (-1))), (9, .int (i32 (y64))), (8, .int (i32 (y60))), (7, .int (i32 (y1))), (0, .ref (ad107 1 0)), (1, .ref (ad107 3 1)), (2, .ref (ad107 3 2)), (3, .ref (ad107 3 3)), (4, .ref (ad107 3 4)), (5, .int (i32 (x))), (6, .int (i32 (y)))] := by
                              have t9 := hl
                              rw [← el_ad107 1 0 (by decide), ← el_ad107 3 1 (by decide), ← el_ad107 3 2 (by decide), ← el_ad107 3 3 (by decide), ← el_ad107 3 4 (by decide)] at t9
                              exact t9
                            skip
                            have ivS106 : IV S106 := hI9
                            have lvS106 : LV S106 := hV9
                            have rS106 : ∀ (a1 b1 : Nat) (i1 : Int), rng (S106 a1 b1 i1) := fun a1 b1 i1 => hP.rg a1 b1 i1
                            refine q_if_eq (tgt := 673) hx hb ⟨by decide, by decide⟩ dL_acts_639 (by decide) (fun h => by omega) (fun _ => ?_)
                            refine lv_goto (tgt := 669) hx hb dL_acts_642 (by decide) ?_
                            refine lv_iconst (v := i32 (1)) hx hb dL_acts_669 rfl ?_
                            refine lv_goto (tgt := 674) hx hb dL_acts_670 (by decide) ?_
                            subst hQm
                            exact q_zret hx hb hr hlocks hP hS (v := 1) (by decide) (by exact ⟨⟨rfl, ek_ad107⟩, ivS106, lvS106⟩) (by show 16 ≤ 2970; omega) (by show 96 ≤ 18559; omega) dL_acts_674
                        · -- y1 = 13
                          refine lv_aload_n hx hb dL_acts_603 rfl (lv_at hl 6 rfl) ?_
                          refine lv_iload hx hb dL_acts_604 (lv_at hl 4 rfl) ?_
                          refine lv_iload hx hb dL_acts_606 (lv_at hl 12 rfl) ?_
                          refine q_callS2 (As := [.ref (ad 1 0), .int (i32 (y60)), .int (i32 (y))]) (rest := []) hx hb hml hl.1 hown hK hZ hP hS (c_L_sews l g base ad S y60 y hfl hI hV c_62 ⟨by omega, by omega⟩ hrn2) t_673 (q_callB hK 672 14 674 t_672 t_14 t_674 f_yL_sews ⟨Nat.le_of_ble_eq_true rfl, Nat.le_of_ble_eq_true rfl⟩) rfl rfl (Nat.le_of_ble_eq_true rfl) dL_acts_608 (c2 := 22) (s2 := 132) ⟨by first | rfl | (dsimp only; omega), by first | rfl | (dsimp only; omega)⟩ ⟨by show 22 ≤ 2970; omega, by show 132 ≤ 18559; omega⟩ (fun rr ad' S' H locs hQ hP hS => ?_)
                          obtain ⟨⟨hr9, ek9⟩, hI9, hV9⟩ := hQ
                          subst hr9
                          obtain ⟨S108, hS108⟩ : ∃ s9 : St, s9 = S' := ⟨_, rfl⟩
                          rw [← hS108] at hI9 hV9 hP
                          obtain ⟨ad109, had109⟩ : ∃ a9 : Nat → Nat → Nat, a9 = ad' := ⟨_, rfl⟩
                          rw [← had109] at ek9 hP
                          have ek_ad109 : ∀ x q, x < 4 → ad109 x q = ad x q := fun x q h => (ek9 x q h)
                          have el_ad109 : ∀ x q, x < 4 → ad109 x q = ad x q := ek9
                          have hl : lv_has ls 13 [(12, .int (i32 (1))), (11, .int (i32 (0))), (10, .int (i32 (-1))), (9, .int (i32 (y64))), (8, .int (i32 (y60))), (7, .int (i32 (y1))), (0, .ref (ad109 1 0)), (1, .ref (ad109 3 1)), (2, .ref (ad109 3 2)), (3, .ref (ad109 3 3)), (4, .ref (ad109 3 4)), (5, .int (i32 (x))), (6, .int (i32 (y)))] := by
                            have t9 := hl
                            rw [← el_ad109 1 0 (by decide), ← el_ad109 3 1 (by decide), ← el_ad109 3 2 (by decide), ← el_ad109 3 3 (by decide), ← el_ad109 3 4 (by decide)] at t9
                            exact t9
                          skip
                          have ivS108 : IV S108 := hI9
                          have lvS108 : LV S108 := hV9
                          have rS108 : ∀ (a1 b1 : Nat) (i1 : Int), rng (S108 a1 b1 i1) := fun a1 b1 i1 => hP.rg a1 b1 i1
                          refine q_if_eq (tgt := 673) hx hb ⟨by decide, by decide⟩ dL_acts_611 (by decide) (fun h => by omega) (fun _ => ?_)
                          refine lv_goto (tgt := 669) hx hb dL_acts_614 (by decide) ?_
                          refine lv_iconst (v := i32 (1)) hx hb dL_acts_669 rfl ?_
                          refine lv_goto (tgt := 674) hx hb dL_acts_670 (by decide) ?_
                          subst hQm
                          exact q_zret hx hb hr hlocks hP hS (v := 1) (by decide) (by exact ⟨⟨rfl, ek_ad109⟩, ivS108, lvS108⟩) (by show 22 ≤ 2970; omega) (by show 132 ≤ 18559; omega) dL_acts_674
                      · -- y1 = 12
                        refine lv_aload_n hx hb dL_acts_580 rfl (lv_at hl 6 rfl) ?_
                        refine lv_aload_n hx hb dL_acts_581 rfl (lv_at hl 7 rfl) ?_
                        refine lv_aload_n hx hb dL_acts_582 rfl (lv_at hl 9 rfl) ?_
                        refine lv_iload hx hb dL_acts_583 (lv_at hl 4 rfl) ?_
                        refine lv_iload hx hb dL_acts_585 (lv_at hl 12 rfl) ?_
                        refine q_callS2 (As := [.ref (ad 1 0), .ref (ad 3 1), .ref (ad 3 3), .int (i32 (y60)), .int (i32 (y))]) (rest := []) hx hb hml hl.1 hown hK hZ hP hS (c_L_cuts l g base ad S y60 y hfl hI hV c_62 ⟨by omega, by omega⟩ hrn2) t_655 (q_callB hK 654 14 656 t_654 t_14 t_656 f_yL_cuts ⟨Nat.le_of_ble_eq_true rfl, Nat.le_of_ble_eq_true rfl⟩) rfl rfl (Nat.le_of_ble_eq_true rfl) dL_acts_587 (c2 := 2970) (s2 := 18559) ⟨by first | rfl | (dsimp only; omega), by first | rfl | (dsimp only; omega)⟩ ⟨by show 2970 ≤ 2970; omega, by show 18559 ≤ 18559; omega⟩ (fun rr ad' S' H locs hQ hP hS => ?_)
                        obtain ⟨⟨hr9, ek9⟩, hI9, hV9⟩ := hQ
                        subst hr9
                        obtain ⟨S110, hS110⟩ : ∃ s9 : St, s9 = S' := ⟨_, rfl⟩
                        rw [← hS110] at hI9 hV9 hP
                        obtain ⟨ad111, had111⟩ : ∃ a9 : Nat → Nat → Nat, a9 = ad' := ⟨_, rfl⟩
                        rw [← had111] at ek9 hP
                        have ek_ad111 : ∀ x q, x < 4 → ad111 x q = ad x q := fun x q h => (ek9 x q h)
                        have el_ad111 : ∀ x q, x < 4 → ad111 x q = ad x q := ek9
                        have hl : lv_has ls 13 [(12, .int (i32 (1))), (11, .int (i32 (0))), (10, .int (i32 (-1))), (9, .int (i32 (y64))), (8, .int (i32 (y60))), (7, .int (i32 (y1))), (0, .ref (ad111 1 0)), (1, .ref (ad111 3 1)), (2, .ref (ad111 3 2)), (3, .ref (ad111 3 3)), (4, .ref (ad111 3 4)), (5, .int (i32 (x))), (6, .int (i32 (y)))] := by
                          have t9 := hl
                          rw [← el_ad111 1 0 (by decide), ← el_ad111 3 1 (by decide), ← el_ad111 3 2 (by decide), ← el_ad111 3 3 (by decide), ← el_ad111 3 4 (by decide)] at t9
                          exact t9
                        skip
                        have ivS110 : IV S110 := hI9
                        have lvS110 : LV S110 := hV9
                        have rS110 : ∀ (a1 b1 : Nat) (i1 : Int), rng (S110 a1 b1 i1) := fun a1 b1 i1 => hP.rg a1 b1 i1
                        refine q_if_eq (tgt := 673) hx hb ⟨by decide, by decide⟩ dL_acts_590 (by decide) (fun h => by omega) (fun _ => ?_)
                        refine lv_goto (tgt := 669) hx hb dL_acts_593 (by decide) ?_
                        refine lv_iconst (v := i32 (1)) hx hb dL_acts_669 rfl ?_
                        refine lv_goto (tgt := 674) hx hb dL_acts_670 (by decide) ?_
                        subst hQm
                        exact q_zret hx hb hr hlocks hP hS (v := 1) (by decide) (by exact ⟨⟨rfl, ek_ad111⟩, ivS110, lvS110⟩) (by show 2970 ≤ 2970; omega) (by show 18559 ≤ 18559; omega) dL_acts_674
                · -- ¬ (peC S y60)
                  refine lv_aload_n hx hb dL_acts_414 rfl (lv_at hl 2 rfl) ?_
                  refine lv_iload hx hb dL_acts_415 (lv_at hl 0 rfl) ?_
                  refine lv_iconst (v := i32 (0)) hx hb dL_acts_417 rfl ?_
                  refine q_callH2 (As := [.ref (ad 1 0), .int (i32 (y60)), .int (i32 (0))]) (rest := []) hx hb hml hl.1 hown hK hZ hP hS (c_L_pieceIs l g base ad S y60 ((0 : Int)) hfl hI.wc ⟨by omega, by omega⟩ ⟨by decide, by decide⟩) t_266 t_14 t_268 t_267 f_yL_pieceIs ⟨Nat.le_of_ble_eq_true rfl, Nat.le_of_ble_eq_true rfl⟩ rfl rfl (Nat.le_of_ble_eq_true rfl) dL_acts_418 (c2 := 4) (s2 := 24) ⟨by first | rfl | (dsimp only; omega), by first | rfl | (dsimp only; omega)⟩ ⟨by show 4 ≤ 2970; omega, by show 24 ≤ 18559; omega⟩ (q_an (fun H locs hP hS => ?_))
                  refine q_nm (b := -1000001) (lv_1 c_62) ?_
                  refine q_ldc (z := -1000001) hx hb hown hK t_248 rfl dL_acts_421 ?_
                  refine q_icmp_ne (tgt := 452) hx hb ⟨by decide, by decide⟩ ⟨by decide, by decide⟩ dL_acts_423 (by decide) (fun c_112 => (by exfalso; omega)) (fun c_112 => ?_)
                  refine lv_aload_n hx hb dL_acts_426 rfl (lv_at hl 2 rfl) ?_
                  refine lv_iload hx hb dL_acts_427 (lv_at hl 0 rfl) ?_
                  refine q_callH2 (As := [.ref (ad 1 0), .int (i32 (y60))]) (rest := []) hx hb hml hl.1 hown hK hZ hP hS (c_L_wash l g base ad S y60 hfl hI.wc ⟨by omega, by omega⟩) t_630 t_14 t_632 t_631 f_yL_wash ⟨Nat.le_of_ble_eq_true rfl, Nat.le_of_ble_eq_true rfl⟩ rfl rfl (Nat.le_of_ble_eq_true rfl) dL_acts_429 (c2 := 6) (s2 := 36) ⟨by first | rfl | (dsimp only; omega), by first | rfl | (dsimp only; omega)⟩ ⟨by show 6 ≤ 2970; omega, by show 36 ≤ 18559; omega⟩ (fun rr ad' S' H locs hQ hP hS => ?_)
                  obtain ⟨⟨hr9, ek9⟩, hQ⟩ := hQ
                  have hc9_1 : ¬ (peC S y60) := c_62
                  have hs9 := (hQ.resolve_right (fun y9 => hc9_1 y9.1.1)).2
                  subst hr9
                  rw [ek9] at hP
                  rw [hs9] at hP
                  refine q_nm (lv_1 hc9_1) ?_
                  refine q_ldc (z := -1000001) hx hb hown hK t_248 rfl dL_acts_432 ?_
                  refine q_icmp_ne (tgt := 452) hx hb ⟨by decide, by decide⟩ ⟨by decide, by decide⟩ dL_acts_434 (by decide) (fun h => by first | exact absurd c_112 h | exact absurd h c_112 | omega) (fun _ => ?_)
                  refine lv_aload_n hx hb dL_acts_437 rfl (lv_at hl 2 rfl) ?_
                  refine lv_iload hx hb dL_acts_438 (lv_at hl 0 rfl) ?_
                  refine q_callH2 (As := [.ref (ad 1 0), .int (i32 (y60))]) (rest := []) hx hb hml hl.1 hown hK hZ hP hS (c_L_isTrue l g base ad S y60 hfl hI.wc ⟨by omega, by omega⟩) t_516 t_14 t_518 t_517 f_yL_isTrue ⟨Nat.le_of_ble_eq_true rfl, Nat.le_of_ble_eq_true rfl⟩ rfl rfl (Nat.le_of_ble_eq_true rfl) dL_acts_440 (c2 := 7) (s2 := 42) ⟨by first | rfl | (dsimp only; omega), by first | rfl | (dsimp only; omega)⟩ ⟨by show 7 ≤ 2970; omega, by show 42 ≤ 18559; omega⟩ (q_an (fun H locs hP hS => ?_))
                  refine q_nm (b := -1000001) (lv_1 c_62) ?_
                  refine q_ldc (z := -1000001) hx hb hown hK t_248 rfl dL_acts_443 ?_
                  refine q_icmp_ne (tgt := 452) hx hb ⟨by decide, by decide⟩ ⟨by decide, by decide⟩ dL_acts_445 (by decide) (fun h => by first | exact absurd c_112 h | exact absurd h c_112 | omega) (fun _ => ?_)
                  refine lv_iconst (v := i32 (1)) hx hb dL_acts_448 rfl ?_
                  refine lv_goto (tgt := 453) hx hb dL_acts_449 (by decide) ?_
                  subst hQm
                  exact q_zret hx hb hr hlocks hP hS (v := 1) (by decide) (by exact ⟨⟨rfl, (fun _ _ _ => rfl)⟩, hI, hV⟩) (by show 7 ≤ 2970; omega) (by show 42 ≤ 18559; omega) dL_acts_453
              · -- y1 = 11
                refine lv_aload_n hx hb dL_acts_389 rfl (lv_at hl 2 rfl) ?_
                refine lv_aload_n hx hb dL_acts_390 rfl (lv_at hl 5 rfl) ?_
                refine lv_iload hx hb dL_acts_391 (lv_at hl 0 rfl) ?_
                refine lv_iload hx hb dL_acts_393 (lv_at hl 8 rfl) ?_
                refine lv_aload_n hx hb dL_acts_395 rfl (lv_at hl 3 rfl) ?_
                refine lv_iconst (v := i32 (2)) hx hb dL_acts_396 rfl ?_
                refine p_iald (k := 3) (r := 1) (n := 4) hx hb hK hP hI.a.2.2 rfl rfl (by decide) (by decide) (by omega) (by omega) dL_acts_397 ?_
                refine q_callS2 (As := [.int (i32 (y)), .int (i32 (S 3 1 2))]) (rest := [.int (i32 (y60)), .ref (ad 3 3), .ref (ad 1 0)]) hx hb hml hl.1 hown hK hZ hP hS (c_L_low l g base ad S y (S 3 1 2) hrn2 (by omega)) t_122 (q_callB hK 121 14 123 t_121 t_14 t_123 f_yL_low ⟨Nat.le_of_ble_eq_true rfl, Nat.le_of_ble_eq_true rfl⟩) rfl rfl (Nat.le_of_ble_eq_true rfl) dL_acts_398 (c2 := 0) (s2 := 0) ⟨by first | rfl | (dsimp only; omega), by first | rfl | (dsimp only; omega)⟩ ⟨by show 0 ≤ 2970; omega, by show 0 ≤ 18559; omega⟩ (q_an (fun H locs hP hS => ?_))
                obtain ⟨y113, hy113⟩ : ∃ y99 : Int, loF y (S 3 1 2) = y99 := ⟨_, rfl⟩
                have by113 := lo_b y (show 1 ≤ (S 3 1 2) by omega)
                rw [hy113] at by113
                refine q_nm hy113 ?_
                refine q_callS2 (As := [.ref (ad 1 0), .ref (ad 3 3), .int (i32 (y60)), .int (i32 (y113))]) (rest := []) hx hb hml hl.1 hown hK hZ hP hS (c_L_joins l g base ad S y60 y113 hfl hI hV ⟨by omega, by omega⟩ ⟨by omega, by omega⟩) t_583 (q_callB hK 582 14 584 t_582 t_14 t_584 f_yL_joins ⟨Nat.le_of_ble_eq_true rfl, Nat.le_of_ble_eq_true rfl⟩) rfl rfl (Nat.le_of_ble_eq_true rfl) dL_acts_401 (c2 := 1498) (s2 := 8988) ⟨by first | rfl | (dsimp only; omega), by first | rfl | (dsimp only; omega)⟩ ⟨by show 1498 ≤ 2970; omega, by show 8988 ≤ 18559; omega⟩ (fun rr ad' S' H locs hQ hP hS => ?_)
                obtain ⟨⟨hr9, ek9⟩, hI9, hV9⟩ := hQ
                subst hr9
                obtain ⟨S114, hS114⟩ : ∃ s9 : St, s9 = S' := ⟨_, rfl⟩
                rw [← hS114] at hI9 hV9 hP
                obtain ⟨ad115, had115⟩ : ∃ a9 : Nat → Nat → Nat, a9 = ad' := ⟨_, rfl⟩
                rw [← had115] at ek9 hP
                have ek_ad115 : ∀ x q, x < 4 → ad115 x q = ad x q := fun x q h => (ek9 x q h)
                have el_ad115 : ∀ x q, x < 4 → ad115 x q = ad x q := ek9
                have hl : lv_has ls 13 [(8, .int (i32 (y60))), (7, .int (i32 (y1))), (0, .ref (ad115 1 0)), (1, .ref (ad115 3 1)), (2, .ref (ad115 3 2)), (3, .ref (ad115 3 3)), (4, .ref (ad115 3 4)), (5, .int (i32 (x))), (6, .int (i32 (y)))] := by
                  have t9 := hl
                  rw [← el_ad115 1 0 (by decide), ← el_ad115 3 1 (by decide), ← el_ad115 3 2 (by decide), ← el_ad115 3 3 (by decide), ← el_ad115 3 4 (by decide)] at t9
                  exact t9
                skip
                have ivS114 : IV S114 := hI9
                have lvS114 : LV S114 := hV9
                have rS114 : ∀ (a1 b1 : Nat) (i1 : Int), rng (S114 a1 b1 i1) := fun a1 b1 i1 => hP.rg a1 b1 i1
                subst hQm
                exact q_zret hx hb hr hlocks hP hS (v := 1) (by decide) (by exact ⟨⟨rfl, ek_ad115⟩, ivS114, lvS114⟩) (by show 1498 ≤ 2970; omega) (by show 8988 ≤ 18559; omega) dL_acts_404
            · -- y1 < 11
              refine lv_aload_n hx hb dL_acts_323 rfl (lv_at hl 1 rfl) ?_
              refine lv_aload_n hx hb dL_acts_324 rfl (lv_at hl 2 rfl) ?_
              refine lv_iload hx hb dL_acts_325 (lv_at hl 6 rfl) ?_
              refine lv_iconst (v := i32 (4)) hx hb dL_acts_327 rfl ?_
              refine lv_ishr hx hb dL_acts_328 ?_
              obtain ⟨z116, rz116, hz116⟩ := i32_of (i32 (x) >>> (i32 (4) &&& 31))
              rw [hz116]
              refine lv_iload hx hb dL_acts_329 (lv_at hl 7 rfl) ?_
              refine q_callS2 (As := [.ref (ad 1 0), .ref (ad 3 1), .int (i32 (z116)), .int (i32 (y))]) (rest := []) hx hb hml hl.1 hown hK hZ hP hS (c_L_weaves l g base ad S z116 y hfl hI hV (by omega) rz116 hrn2) t_532 (q_callB hK 531 14 533 t_531 t_14 t_533 f_yL_weaves ⟨Nat.le_of_ble_eq_true rfl, Nat.le_of_ble_eq_true rfl⟩) rfl rfl (Nat.le_of_ble_eq_true rfl) dL_acts_331 (c2 := 8) (s2 := 48) ⟨by first | rfl | (dsimp only; omega), by first | rfl | (dsimp only; omega)⟩ ⟨by show 8 ≤ 2970; omega, by show 48 ≤ 18559; omega⟩ (fun rr ad' S' H locs hQ hP hS => ?_)
              obtain ⟨⟨⟨hr9, ek9⟩, hI9, hV9⟩, hW9⟩ := hQ
              subst hr9
              obtain ⟨S117, hS117⟩ : ∃ s9 : St, s9 = S' := ⟨_, rfl⟩
              rw [← hS117] at hI9 hV9 hP hW9
              obtain ⟨ad118, had118⟩ : ∃ a9 : Nat → Nat → Nat, a9 = ad' := ⟨_, rfl⟩
              rw [← had118] at ek9 hP
              have ek_ad118 : ∀ x q, x < 4 → ad118 x q = ad x q := fun x q h => (ek9 x q h)
              have el_ad118 : ∀ x q, x < 4 → ad118 x q = ad x q := ek9
              have hl : lv_has ls 13 [(7, .int (i32 (y1))), (0, .ref (ad118 1 0)), (1, .ref (ad118 3 1)), (2, .ref (ad118 3 2)), (3, .ref (ad118 3 3)), (4, .ref (ad118 3 4)), (5, .int (i32 (x))), (6, .int (i32 (y)))] := by
                have t9 := hl
                rw [← el_ad118 1 0 (by decide), ← el_ad118 3 1 (by decide), ← el_ad118 3 2 (by decide), ← el_ad118 3 3 (by decide), ← el_ad118 3 4 (by decide)] at t9
                exact t9
              skip
              have ivS117 : IV S117 := hI9
              have lvS117 : LV S117 := hV9
              have hwS117 := hW9
              have rS117 : ∀ (a1 b1 : Nat) (i1 : Int), rng (S117 a1 b1 i1) := fun a1 b1 i1 => hP.rg a1 b1 i1
              refine q_if_eq (tgt := 368) hx hb ⟨by decide, by decide⟩ dL_acts_334 (by decide) (fun h => by omega) (fun _ => ?_)
              refine lv_iload hx hb dL_acts_337 (lv_at hl 7 rfl) ?_
              refine lv_iconst (v := i32 (3)) hx hb dL_acts_339 rfl ?_
              refine lv_ishr hx hb dL_acts_340 ?_
              obtain ⟨z119, rz119, hz119⟩ := i32_of (i32 (y) >>> (i32 (3) &&& 31))
              rw [hz119]
              refine lv_iconst (v := i32 (3)) hx hb dL_acts_341 rfl ?_
              refine q_callS2 (As := [.int (i32 (z119)), .int (i32 (3))]) (rest := []) hx hb hml hl.1 hown hK hZ hP hS (c_L_low l g base ad118 S117 z119 ((3 : Int)) rz119 (by omega)) t_122 (q_callB hK 121 14 123 t_121 t_14 t_123 f_yL_low ⟨Nat.le_of_ble_eq_true rfl, Nat.le_of_ble_eq_true rfl⟩) rfl rfl (Nat.le_of_ble_eq_true rfl) dL_acts_342 (c2 := 8) (s2 := 48) ⟨by first | rfl | (dsimp only; omega), by first | rfl | (dsimp only; omega)⟩ ⟨by show 8 ≤ 2970; omega, by show 48 ≤ 18559; omega⟩ (q_an (fun H locs hP hS => ?_))
              obtain ⟨y120, hy120⟩ : ∃ y99 : Int, loF z119 ((3 : Int)) = y99 := ⟨_, rfl⟩
              have by120 := lo_b z119 (show 1 ≤ ((3 : Int)) by omega)
              rw [hy120] at by120
              refine q_nm hy120 ?_
              refine q_if_gt (tgt := 364) hx hb ⟨by omega, by omega⟩ dL_acts_345 (by decide) (fun c_121 => ?_) (fun c_121 => ?_)
              · -- 0 < y120
                refine lv_iconst (v := i32 (1)) hx hb dL_acts_364 rfl ?_
                refine lv_goto (tgt := 369) hx hb dL_acts_365 (by decide) ?_
                subst hQm
                exact q_zret hx hb hr hlocks hP hS (v := 1) (by decide) (by exact ⟨⟨rfl, ek_ad118⟩, ivS117, lvS117⟩) (by show 8 ≤ 2970; omega) (by show 48 ≤ 18559; omega) dL_acts_369
              · -- y120 ≤ 0
                refine lv_aload_n hx hb dL_acts_348 rfl (lv_at hl 1 rfl) ?_
                refine lv_aload_n hx hb dL_acts_349 rfl (lv_at hl 2 rfl) ?_
                refine lv_iload hx hb dL_acts_350 (lv_at hl 6 rfl) ?_
                refine lv_iconst (v := i32 (4)) hx hb dL_acts_352 rfl ?_
                refine lv_ishr hx hb dL_acts_353 ?_
                obtain ⟨z122, rz122, hz122⟩ := i32_of (i32 (x) >>> (i32 (4) &&& 31))
                rw [hz122]
                refine lv_iload hx hb dL_acts_354 (lv_at hl 7 rfl) ?_
                refine lv_iconst (v := i32 (1)) hx hb dL_acts_356 rfl ?_
                refine q_iadd hx hb dL_acts_357 ?_
                obtain ⟨yw, ryw, hyw⟩ := i32_any (y + 1)
                rw [hyw]
                refine q_callS2 (As := [.ref (ad118 1 0), .ref (ad118 3 1), .int (i32 (z122)), .int (i32 (yw))]) (rest := []) hx hb hml hl.1 hown hK hZ hP hS (c_L_weaves l g base ad118 S117 z122 yw hfl ivS117 lvS117 (by rw [hwS117]; omega) rz122 ryw) t_532 (q_callB hK 531 14 533 t_531 t_14 t_533 f_yL_weaves ⟨Nat.le_of_ble_eq_true rfl, Nat.le_of_ble_eq_true rfl⟩) rfl rfl (Nat.le_of_ble_eq_true rfl) dL_acts_358 (c2 := 16) (s2 := 96) ⟨by first | rfl | (dsimp only; omega), by first | rfl | (dsimp only; omega)⟩ ⟨by show 16 ≤ 2970; omega, by show 96 ≤ 18559; omega⟩ (fun rr ad' S' H locs hQ hP hS => ?_)
                obtain ⟨⟨⟨hr9, ek9⟩, hI9, hV9⟩, hW9⟩ := hQ
                subst hr9
                obtain ⟨S123, hS123⟩ : ∃ s9 : St, s9 = S' := ⟨_, rfl⟩
                rw [← hS123] at hI9 hV9 hP hW9
                obtain ⟨ad124, had124⟩ : ∃ a9 : Nat → Nat → Nat, a9 = ad' := ⟨_, rfl⟩
                rw [← had124] at ek9 hP
                have ek_ad124 : ∀ x q, x < 4 → ad124 x q = ad x q := fun x q h => (ek9 x q h).trans (ek_ad118 x q h)
                have el_ad124 : ∀ x q, x < 4 → ad124 x q = ad118 x q := ek9
                have hl : lv_has ls 13 [(7, .int (i32 (y1))), (0, .ref (ad124 1 0)), (1, .ref (ad124 3 1)), (2, .ref (ad124 3 2)), (3, .ref (ad124 3 3)), (4, .ref (ad124 3 4)), (5, .int (i32 (x))), (6, .int (i32 (y)))] := by
                  have t9 := hl
                  rw [← el_ad124 1 0 (by decide), ← el_ad124 3 1 (by decide), ← el_ad124 3 2 (by decide), ← el_ad124 3 3 (by decide), ← el_ad124 3 4 (by decide)] at t9
                  exact t9
                skip
                have ivS123 : IV S123 := hI9
                have lvS123 : LV S123 := hV9
                have hwS123 := hW9
                have rS123 : ∀ (a1 b1 : Nat) (i1 : Int), rng (S123 a1 b1 i1) := fun a1 b1 i1 => hP.rg a1 b1 i1
                refine q_if_eq (tgt := 368) hx hb ⟨by decide, by decide⟩ dL_acts_361 (by decide) (fun h => by omega) (fun _ => ?_)
                refine lv_iconst (v := i32 (1)) hx hb dL_acts_364 rfl ?_
                refine lv_goto (tgt := 369) hx hb dL_acts_365 (by decide) ?_
                subst hQm
                exact q_zret hx hb hr hlocks hP hS (v := 1) (by decide) (by exact ⟨⟨rfl, ek_ad124⟩, ivS123, lvS123⟩) (by show 16 ≤ 2970; omega) (by show 96 ≤ 18559; omega) dL_acts_369
          · -- (S 3 1 2) = 0
            refine lv_iload hx hb dL_acts_143 (lv_at hl 6 rfl) ?_
            refine lv_iconst (v := i32 (4)) hx hb dL_acts_145 rfl ?_
            refine lv_ishr hx hb dL_acts_146 ?_
            obtain ⟨z125, rz125, hz125⟩ := i32_of (i32 (x) >>> (i32 (4) &&& 31))
            rw [hz125]
            refine lv_aload_n hx hb dL_acts_147 rfl (lv_at hl 2 rfl) ?_
            refine lv_iconst (v := i32 (0)) hx hb dL_acts_148 rfl ?_
            refine p_iald (k := 3) (r := 1) (n := 4) hx hb hK hP hI.a.2.2 rfl rfl (by decide) (by decide) (by omega) (by omega) dL_acts_149 ?_
            refine q_callS2 (As := [.int (i32 (z125)), .int (i32 (S 3 1 0))]) (rest := []) hx hb hml hl.1 hown hK hZ hP hS (c_L_low l g base ad S z125 (S 3 1 0) rz125 (by omega)) t_122 (q_callB hK 121 14 123 t_121 t_14 t_123 f_yL_low ⟨Nat.le_of_ble_eq_true rfl, Nat.le_of_ble_eq_true rfl⟩) rfl rfl (Nat.le_of_ble_eq_true rfl) dL_acts_150 (c2 := 0) (s2 := 0) ⟨by first | rfl | (dsimp only; omega), by first | rfl | (dsimp only; omega)⟩ ⟨by show 0 ≤ 2970; omega, by show 0 ≤ 18559; omega⟩ (q_an (fun H locs hP hS => ?_))
            obtain ⟨y126, hy126⟩ : ∃ y99 : Int, loF z125 (S 3 1 0) = y99 := ⟨_, rfl⟩
            have by126 := lo_b z125 (show 1 ≤ (S 3 1 0) by omega)
            rw [hy126] at by126
            refine q_nm hy126 ?_
            refine lv_istore (lv' := [(8, .int (i32 (y126))), (7, .int (i32 (y1))), (0, .ref (ad 1 0)), (1, .ref (ad 3 1)), (2, .ref (ad 3 2)), (3, .ref (ad 3 3)), (4, .ref (ad 3 4)), (5, .int (i32 (x))), (6, .int (i32 (y)))]) hx hb dL_acts_153 hl (by decide) rfl (fun ls hl => ?_)
            refine lv_iconst (v := i32 (1)) hx hb dL_acts_155 rfl ?_
            refine lv_iload hx hb dL_acts_156 (lv_at hl 8 rfl) ?_
            refine lv_iconst (v := i32 (4)) hx hb dL_acts_158 rfl ?_
            refine q_callS2 (As := [.int (i32 (y)), .int (i32 (4))]) (rest := [.int (i32 (1))]) hx hb hml hl.1 hown hK hZ hP hS (c_L_low l g base ad S y ((4 : Int)) hrn2 (by omega)) t_122 (q_callB hK 121 14 123 t_121 t_14 t_123 f_yL_low ⟨Nat.le_of_ble_eq_true rfl, Nat.le_of_ble_eq_true rfl⟩) rfl rfl (Nat.le_of_ble_eq_true rfl) dL_acts_159 (c2 := 0) (s2 := 0) ⟨by first | rfl | (dsimp only; omega), by first | rfl | (dsimp only; omega)⟩ ⟨by show 0 ≤ 2970; omega, by show 0 ≤ 18559; omega⟩ (q_an (fun H locs hP hS => ?_))
            obtain ⟨y127, hy127⟩ : ∃ y99 : Int, loF y ((4 : Int)) = y99 := ⟨_, rfl⟩
            have by127 := lo_b y (show 1 ≤ ((4 : Int)) by omega)
            rw [hy127] at by127
            refine q_nm hy127 ?_
            refine q_iadd hx hb dL_acts_162 ?_
            refine lv_istore (lv' := [(9, .int (i32 (1 + y127))), (8, .int (i32 (y126))), (7, .int (i32 (y1))), (0, .ref (ad 1 0)), (1, .ref (ad 3 1)), (2, .ref (ad 3 2)), (3, .ref (ad 3 3)), (4, .ref (ad 3 4)), (5, .int (i32 (x))), (6, .int (i32 (y)))]) hx hb dL_acts_163 hl (by decide) rfl (fun ls hl => ?_)
            by_cases h_B : 1 ≤ 1 + y127 ∧ 1 + y127 ≤ 4 ∧ 1 + y127 ≤ S (4 + Int.toNat y126) 0 0
            · skip
              by_cases h_C : 1 ≤ S (4 + Int.toNat y126) 0 1 ∧ S 1 0 6 < 20
              · skip
                obtain ⟨hd1, hd2, hd3⟩ := vd y126 (by omega) (by omega)
                obtain ⟨⟨-, hcw1, hcw2⟩, -⟩ := hI.k.2.2 y126 (by omega) (by omega)
                refine lv_aload_n hx hb dL_acts_165 rfl (lv_at hl 3 rfl) ?_
                refine lv_iload hx hb dL_acts_166 (lv_at hl 1 rfl) ?_
                refine lv_iload hx hb dL_acts_168 (lv_at hl 0 rfl) ?_
                refine lv_iload hx hb dL_acts_170 (lv_at hl 9 rfl) ?_
                refine lv_iconst (v := i32 (2)) hx hb dL_acts_172 rfl ?_
                refine lv_ishr hx hb dL_acts_173 ?_
                obtain ⟨z128, rz128, hz128⟩ := i32_of (i32 (y) >>> (i32 (2) &&& 31))
                rw [hz128]
                refine lv_iconst (v := i32 (2)) hx hb dL_acts_174 rfl ?_
                refine q_callS2 (As := [.int (i32 (z128)), .int (i32 (2))]) (rest := [.int (i32 (1 + y127)), .int (i32 (y126)), .ref (ad 1 0)]) hx hb hml hl.1 hown hK hZ hP hS (c_L_low l g base ad S z128 ((2 : Int)) rz128 (by omega)) t_122 (q_callB hK 121 14 123 t_121 t_14 t_123 f_yL_low ⟨Nat.le_of_ble_eq_true rfl, Nat.le_of_ble_eq_true rfl⟩) rfl rfl (Nat.le_of_ble_eq_true rfl) dL_acts_175 (c2 := 0) (s2 := 0) ⟨by first | rfl | (dsimp only; omega), by first | rfl | (dsimp only; omega)⟩ ⟨by show 0 ≤ 2970; omega, by show 0 ≤ 18559; omega⟩ (q_an (fun H locs hP hS => ?_))
                obtain ⟨y129, hy129⟩ : ∃ y99 : Int, loF z128 ((2 : Int)) = y99 := ⟨_, rfl⟩
                have by129 := lo_b z128 (show 1 ≤ ((2 : Int)) by omega)
                rw [hy129] at by129
                refine q_nm hy129 ?_
                refine q_if_ne (tgt := 185) hx hb ⟨by omega, by omega⟩ dL_acts_178 (by decide) (fun c_130 => ?_) (fun c_130 => ?_)
                · -- y129 ≠ 0
                  refine lv_iconst (v := i32 (0)) hx hb dL_acts_185 rfl ?_
                  have w9 := IV_loom (mir := False) hI (hI.ce.mpr (show 0 ≤ y126 ∧ y126 < S 1 0 3 by omega)) h_B h_C
                  refine W.eq (g2 := F0 m 186 ls (Value.int (i32 (b2 (False))) :: Value.int (i32 (1 + y127)) :: Value.int (i32 (y126)) :: Value.ref (ad 1 0) :: [])) (by simp only [b2_t trivial, b2_f not_false] <;> rfl) ?_
                  refine q_callH2 (As := [.ref (ad 1 0), .int (i32 (y126)), .int (i32 (1 + y127)), .int (i32 (b2 (False)))]) (rest := []) hx hb hml hl.1 hown hK hZ hP hS (c_L_loom l g base ad S y126 (1 + y127) False hfl hI.wc ⟨by omega, by omega⟩ ⟨by omega, by omega⟩ hI.hcf hI.hpf) t_442 t_14 t_444 t_443 f_yL_loom ⟨Nat.le_of_ble_eq_true rfl, Nat.le_of_ble_eq_true rfl⟩ rfl rfl (Nat.le_of_ble_eq_true rfl) dL_acts_186 (c2 := 9) (s2 := 793) ⟨by first | rfl | (dsimp only; omega), by first | rfl | (dsimp only; omega)⟩ ⟨by show 9 ≤ 2970; omega, by show 793 ≤ 18559; omega⟩ (fun rr ad' S' H locs hQ hP hS => ?_)
                  have hc9 : (ceC S y126) ∧ (1 ≤ (1 + y127) ∧ (1 + y127) ≤ 4 ∧ (1 + y127) ≤ S (4 + y126.toNat) 0 0) ∧ (1 ≤ S (4 + y126.toNat) 0 1 ∧ S 1 0 6 < 20) := ⟨hI.ce.mpr (by omega), h_B, h_C⟩
                  obtain ⟨⟨hr9, ek9⟩, hQ⟩ := hQ
                  have hs9 := (hQ.resolve_left (fun y9 => y9.1 hc9)).2
                  subst hr9
                  rw [hs9] at hP
                  refine q_nm (b := S 1 0 6) ((lv_0 hc9.1 hc9.2.1 hc9.2.2).trans (rfl)) ?_
                  obtain ⟨ad131, had131⟩ : ∃ a9 : Nat → Nat → Nat, a9 = ad' := ⟨_, rfl⟩
                  rw [← had131] at ek9 hP
                  have ek_ad131 : ∀ x q, x < 4 → ad131 x q = ad x q := fun x q h => (ek9 x q h)
                  have el_ad131 : ∀ x q, x < 4 → ad131 x q = ad x q := ek9
                  have hl : lv_has ls 13 [(9, .int (i32 (1 + y127))), (8, .int (i32 (y126))), (7, .int (i32 (y1))), (0, .ref (ad131 1 0)), (1, .ref (ad131 3 1)), (2, .ref (ad131 3 2)), (3, .ref (ad131 3 3)), (4, .ref (ad131 3 4)), (5, .int (i32 (x))), (6, .int (i32 (y)))] := by
                    have t9 := hl
                    rw [← el_ad131 1 0 (by decide), ← el_ad131 3 1 (by decide), ← el_ad131 3 2 (by decide), ← el_ad131 3 3 (by decide), ← el_ad131 3 4 (by decide)] at t9
                    exact t9
                  skip
                  generalize eS132 : lmS S y126 (1 + y127) False = S132 at hP
                  have rS132 : ∀ (a1 b1 : Nat) (i1 : Int), rng (S132 a1 b1 i1) := fun a1 b1 i1 => hP.rg a1 b1 i1
                  have ivS132 : IV S132 := by rw [← eS132]; exact w9.1
                  have h3S132 : ∀ (b1 : Nat) (i1 : Int), S132 3 b1 i1 = S 3 b1 i1 := by rw [← eS132]; exact fun b i => w9.2.1.2.2 3 b i (by omega) (by omega)
                  rw [eS132] at w9
                  obtain ⟨-, ⟨g6, g7, fr9⟩, gtr, gln⟩ := w9
                  refine lv_istore (lv' := [(10, .int (i32 (S 1 0 6))), (9, .int (i32 (1 + y127))), (8, .int (i32 (y126))), (7, .int (i32 (y1))), (0, .ref (ad131 1 0)), (1, .ref (ad131 3 1)), (2, .ref (ad131 3 2)), (3, .ref (ad131 3 3)), (4, .ref (ad131 3 4)), (5, .int (i32 (x))), (6, .int (i32 (y)))]) hx hb dL_acts_189 hl (by decide) rfl (fun ls hl => ?_)
                  refine lv_iload hx hb dL_acts_191 (lv_at hl 1 rfl) ?_
                  refine lv_aload_n hx hb dL_acts_193 rfl (lv_at hl 6 rfl) ?_
                  refine lv_iconst (v := i32 (2)) hx hb dL_acts_194 rfl ?_
                  refine lv_iload hx hb dL_acts_195 (lv_at hl 2 rfl) ?_
                  refine q_imul hx hb dL_acts_197 ?_
                  refine p_iald (k := 3) (r := 2) (n := 10) hx hb hK hP ivS132.a.2.2 rfl rfl (by decide) (by decide) (by omega) (by omega) dL_acts_198 ?_
                  refine q_nm (show S132 3 2 (2 * y126) = S 3 2 (2 * y126) from by rw [h3S132]) ?_
                  refine q_icmp_le (tgt := 215) hx hb ⟨by omega, by omega⟩ (rS _ _ _) dL_acts_199 (by decide) (fun c_133 => ?_) (fun c_133 => (by exfalso; omega))
                  refine lv_aload_n hx hb dL_acts_215 rfl (lv_at hl 6 rfl) ?_
                  refine lv_iconst (v := i32 (2)) hx hb dL_acts_216 rfl ?_
                  refine lv_iload hx hb dL_acts_217 (lv_at hl 2 rfl) ?_
                  refine q_imul hx hb dL_acts_219 ?_
                  refine lv_iconst (v := i32 (1)) hx hb dL_acts_220 rfl ?_
                  refine q_iadd hx hb dL_acts_221 ?_
                  refine p_iald (k := 3) (r := 2) (n := 10) hx hb hK hP ivS132.a.2.2 rfl rfl (by decide) (by decide) (by omega) (by omega) dL_acts_222 ?_
                  refine q_nm (show S132 3 2 ((2 * y126) + 1) = S 3 2 ((2 * y126) + 1) from by rw [h3S132]) ?_
                  refine q_if_eq (tgt := 234) hx hb (rS _ _ _) dL_acts_223 (by decide) (fun c_134 => (by exfalso; omega)) (fun c_134 => ?_)
                  refine lv_aload_n hx hb dL_acts_226 rfl (lv_at hl 5 rfl) ?_
                  refine lv_iconst (v := i32 (2)) hx hb dL_acts_227 rfl ?_
                  refine p_iald (k := 3) (r := 1) (n := 4) hx hb hK hP ivS132.a.2.2 rfl rfl (by decide) (by decide) (by omega) (by omega) dL_acts_228 ?_
                  refine q_nm (show S132 3 1 2 = S 3 1 2 from by rw [h3S132]) ?_
                  refine lv_bipush (v := i32 (20)) hx hb dL_acts_229 (by decide) ?_
                  refine q_icmp_ne (tgt := 247) hx hb (rS _ _ _) ⟨by decide, by decide⟩ dL_acts_231 (by decide) (fun c_135 => ?_) (fun c_135 => (by exfalso; omega))
                  refine lv_aload_n hx hb dL_acts_247 rfl (lv_at hl 5 rfl) ?_
                  refine lv_iconst (v := i32 (2)) hx hb dL_acts_248 rfl ?_
                  refine lv_dup2_11 hx hb dL_acts_249 rfl rfl ?_
                  refine p_iald (k := 3) (r := 1) (n := 4) hx hb hK hP ivS132.a.2.2 rfl rfl (by decide) (by decide) (by omega) (by omega) dL_acts_250 ?_
                  refine q_nm (show S132 3 1 2 = S 3 1 2 from by rw [h3S132]) ?_
                  refine lv_iconst (v := i32 (1)) hx hb dL_acts_251 rfl ?_
                  refine q_iadd hx hb dL_acts_252 ?_
                  refine p_iast (k := 3) (r := 1) (n := 4) hx hb hK hP hS ivS132.a.2.2 rfl rfl (by decide) (by decide) (by omega) (by omega) ⟨by omega, by omega⟩ dL_acts_253 (fun H locs hP hS => ?_)
                  generalize eS136 : st S132 3 1 2 ((S 3 1 2) + 1) = S136 at hP
                  have qS136 : ∀ (a1 b1 : Nat) (i1 : Int), S136 a1 b1 i1 = if a1 = 3 ∧ b1 = 1 ∧ i1 = 2 then (S 3 1 2) + 1 else S132 a1 b1 i1 := fun a1 b1 i1 => by rw [← eS136]; exact st_at _ _ _ _ _ _ _ _
                  have rS136 : ∀ (a1 b1 : Nat) (i1 : Int), rng (S136 a1 b1 i1) := fun a1 b1 i1 => hP.rg a1 b1 i1
                  have aS136_1 : S136 1 0 (-1) = 1 := by rw [qS136, if_neg (by omega)]; exact ivS132.a.1
                  have aS136_2 : S136 2 0 (-1) = 1 := by rw [qS136, if_neg (by omega)]; exact ivS132.a.2.1
                  have aS136_3 : S136 3 0 (-1) = 1 := by rw [qS136, if_neg (by omega)]; exact ivS132.a.2.2
                  have ivS136 : IV S136 := by rw [← eS136]; exact IV_3 ivS132 (by decide)
                  have en : ∀ a : Nat, a ≠ 3 → S136 a = S132 a := fun a h => fe (fun b i => by rw [qS136, if_neg (by omega)])
                  have kN2 : peC S136 (S 1 0 6) := ⟨hp20.1, by omega, by rw [en 1 (by decide)]; exact g7⟩
                  obtain ⟨na1, na2, na3⟩ := ob_k (en (10 + Int.toNat (S 1 0 6)) (by omega))
                  have lv9 : LV S136 := LV_n hV hI.k.1.2 (fun b i h => by rw [qS136, if_neg (by omega), fr9 _ _ _ (by omega) (by omega)]) (by rw [qS136, if_pos ⟨rfl, rfl, rfl⟩, en 1 (by decide), g6, v2]) (by rw [en 1 (by decide), fr9 _ _ _ (by omega) (by omega)]) (by rw [en 2 (by decide)]; exact fe (fun b i => fr9 _ _ _ (by omega) (by omega))) (fun a h1 h2 => by rw [en a (by omega)]; exact fe (fun b i => fr9 _ _ _ (by omega) (by omega)))
                  have hcc : ceC S136 y126 := ivS136.ce.mpr (by rw [en 1 (by decide), fr9 _ _ _ (by omega) (by omega)]; omega)
                  have hm0 : 0 ≤ (S 3 2 (2 * y126)) * (S 3 2 ((2 * y126) + 1)) := Int.mul_nonneg (by omega) (by omega)
                  have hm1 : (S 3 2 (2 * y126)) * (S 3 2 ((2 * y126) + 1)) ≤ 240 := mul240 (by omega) (by omega) (by omega) (by omega)
                  refine lv_iload hx hb dL_acts_254 (lv_at hl 0 rfl) ?_
                  refine lv_aload_n hx hb dL_acts_256 rfl (lv_at hl 5 rfl) ?_
                  refine lv_iconst (v := i32 (2)) hx hb dL_acts_257 rfl ?_
                  refine p_iald (k := 3) (r := 1) (n := 4) hx hb hK hP aS136_3 rfl rfl (by decide) (by decide) (by omega) (by omega) dL_acts_258 ?_
                  refine q_nm (show S136 3 1 2 = (S 3 1 2) + 1 from by rw [qS136, if_pos ⟨rfl, rfl, rfl⟩]) ?_
                  refine lv_iconst (v := i32 (1)) hx hb dL_acts_259 rfl ?_
                  refine q_isub hx hb dL_acts_260 ?_
                  refine q_icmp_ne (tgt := 314) hx hb (rS _ _ _) ⟨by omega, by omega⟩ dL_acts_261 (by decide) (fun c_137 => (by exfalso; omega)) (fun c_137 => ?_)
                  refine lv_aload_n hx hb dL_acts_264 rfl (lv_at hl 4 rfl) ?_
                  refine lv_iload hx hb dL_acts_265 (lv_at hl 0 rfl) ?_
                  refine lv_iload hx hb dL_acts_267 (lv_at hl 2 rfl) ?_
                  refine q_callH2 (As := [.ref (ad131 1 0), .int (i32 (S 1 0 6)), .int (i32 (y126))]) (rest := []) hx hb hml hl.1 hown hK hZ hP hS (c_L_likeness l g base ad131 S136 (S 1 0 6) y126 hfl ivS136.wc (rS _ _ _) ⟨by omega, by omega⟩) t_504 t_14 t_506 t_505 f_yL_likeness ⟨Nat.le_of_ble_eq_true rfl, Nat.le_of_ble_eq_true rfl⟩ rfl rfl (Nat.le_of_ble_eq_true rfl) dL_acts_269 (c2 := 11) (s2 := 805) ⟨by first | rfl | (dsimp only; omega), by first | rfl | (dsimp only; omega)⟩ ⟨by show 11 ≤ 2970; omega, by show 805 ≤ 18559; omega⟩ (q_an (fun H locs hP hS => ?_))
                  refine q_nm (b := S 3 2 (2 * y126) * S 3 2 ((2 * y126) + 1)) ((lv_0 ⟨kN2, hcc⟩ trivial trivial).trans (by rw [ln_k (en _ (by omega)) (en _ (by omega)), gln, ← hd1, ← hd3])) ?_
                  refine lv_aload_n hx hb dL_acts_272 rfl (lv_at hl 6 rfl) ?_
                  refine lv_iconst (v := i32 (2)) hx hb dL_acts_273 rfl ?_
                  refine lv_iload hx hb dL_acts_274 (lv_at hl 2 rfl) ?_
                  refine q_imul hx hb dL_acts_276 ?_
                  refine p_iald (k := 3) (r := 2) (n := 10) hx hb hK hP aS136_3 rfl rfl (by decide) (by decide) (by omega) (by omega) dL_acts_277 ?_
                  refine q_nm (show S136 3 2 (2 * y126) = S 3 2 (2 * y126) from by rw [qS136, if_neg (by omega), h3S132]) ?_
                  refine lv_aload_n hx hb dL_acts_278 rfl (lv_at hl 6 rfl) ?_
                  refine lv_iconst (v := i32 (2)) hx hb dL_acts_279 rfl ?_
                  refine lv_iload hx hb dL_acts_280 (lv_at hl 2 rfl) ?_
                  refine q_imul hx hb dL_acts_282 ?_
                  refine lv_iconst (v := i32 (1)) hx hb dL_acts_283 rfl ?_
                  refine q_iadd hx hb dL_acts_284 ?_
                  refine p_iald (k := 3) (r := 2) (n := 10) hx hb hK hP aS136_3 rfl rfl (by decide) (by decide) (by omega) (by omega) dL_acts_285 ?_
                  refine q_nm (show S136 3 2 ((2 * y126) + 1) = S 3 2 ((2 * y126) + 1) from by rw [qS136, if_neg (by omega), h3S132]) ?_
                  refine q_imul hx hb dL_acts_286 ?_
                  refine q_icmp_ne (tgt := 314) hx hb ⟨by omega, by omega⟩ ⟨by omega, by omega⟩ dL_acts_287 (by decide) (fun c_138 => (by exfalso; omega)) (fun c_138 => ?_)
                  refine lv_aload_n hx hb dL_acts_290 rfl (lv_at hl 4 rfl) ?_
                  refine lv_iload hx hb dL_acts_291 (lv_at hl 0 rfl) ?_
                  refine q_callH2 (As := [.ref (ad131 1 0), .int (i32 (S 1 0 6))]) (rest := []) hx hb hml hl.1 hown hK hZ hP hS (c_L_isTrue l g base ad131 S136 (S 1 0 6) hfl ivS136.wc (rS _ _ _)) t_516 t_14 t_518 t_517 f_yL_isTrue ⟨Nat.le_of_ble_eq_true rfl, Nat.le_of_ble_eq_true rfl⟩ rfl rfl (Nat.le_of_ble_eq_true rfl) dL_acts_293 (c2 := 12) (s2 := 811) ⟨by first | rfl | (dsimp only; omega), by first | rfl | (dsimp only; omega)⟩ ⟨by show 12 ≤ 2970; omega, by show 811 ≤ 18559; omega⟩ (q_an (fun H locs hP hS => ?_))
                  refine q_nm (b := 1) ((lv_0 kN2 trivial trivial).trans (b2_t (na3.mpr gtr))) ?_
                  refine lv_iconst (v := i32 (1)) hx hb dL_acts_296 rfl ?_
                  refine q_icmp_ne (tgt := 314) hx hb ⟨by decide, by decide⟩ ⟨by decide, by decide⟩ dL_acts_297 (by decide) (fun c_139 => (by exfalso; omega)) (fun c_139 => ?_)
                  refine lv_aload_n hx hb dL_acts_300 rfl (lv_at hl 4 rfl) ?_
                  refine lv_aload_n hx hb dL_acts_301 rfl (lv_at hl 7 rfl) ?_
                  refine lv_iload hx hb dL_acts_302 (lv_at hl 0 rfl) ?_
                  refine q_callS2 (As := [.ref (ad131 1 0), .ref (ad131 3 3), .int (i32 (S 1 0 6))]) (rest := []) hx hb hml hl.1 hown hK hZ hP hS (c_L_isPiece l g base ad131 S136 (S 1 0 6) hfl ivS136 kN2 lv9.2.2.2 (rS _ _ _)) t_329 (q_callB hK 328 14 330 t_328 t_14 t_330 f_yL_isPiece ⟨Nat.le_of_ble_eq_true rfl, Nat.le_of_ble_eq_true rfl⟩) rfl rfl (Nat.le_of_ble_eq_true rfl) dL_acts_304 (c2 := 1472) (s2 := 9571) ⟨by first | rfl | (dsimp only; omega), by first | rfl | (dsimp only; omega)⟩ ⟨by show 1472 ≤ 2970; omega, by show 9571 ≤ 18559; omega⟩ (q_an (fun H locs hP hS => ?_))
                  refine q_if_eq (tgt := 314) hx hb ⟨by decide, by decide⟩ dL_acts_307 (by decide) (fun h => by omega) (fun _ => ?_)
                  refine lv_iconst (v := i32 (1)) hx hb dL_acts_310 rfl ?_
                  refine lv_goto (tgt := 315) hx hb dL_acts_311 (by decide) ?_
                  subst hQm
                  exact q_zret hx hb hr hlocks hP hS (v := 1) (by decide) (by exact ⟨⟨rfl, ek_ad131⟩, ivS136, lv9⟩) (by show 1472 ≤ 2970; omega) (by show 9571 ≤ 18559; omega) dL_acts_315
                · -- y129 = 0
                  refine lv_iconst (v := i32 (1)) hx hb dL_acts_181 rfl ?_
                  refine lv_goto (tgt := 186) hx hb dL_acts_182 (by decide) ?_
                  have w9 := IV_loom (mir := True) hI (hI.ce.mpr (show 0 ≤ y126 ∧ y126 < S 1 0 3 by omega)) h_B h_C
                  refine W.eq (g2 := F0 m 186 ls (Value.int (i32 (b2 (True))) :: Value.int (i32 (1 + y127)) :: Value.int (i32 (y126)) :: Value.ref (ad 1 0) :: [])) (by simp only [b2_t trivial, b2_f not_false] <;> rfl) ?_
                  refine q_callH2 (As := [.ref (ad 1 0), .int (i32 (y126)), .int (i32 (1 + y127)), .int (i32 (b2 (True)))]) (rest := []) hx hb hml hl.1 hown hK hZ hP hS (c_L_loom l g base ad S y126 (1 + y127) True hfl hI.wc ⟨by omega, by omega⟩ ⟨by omega, by omega⟩ hI.hcf hI.hpf) t_442 t_14 t_444 t_443 f_yL_loom ⟨Nat.le_of_ble_eq_true rfl, Nat.le_of_ble_eq_true rfl⟩ rfl rfl (Nat.le_of_ble_eq_true rfl) dL_acts_186 (c2 := 9) (s2 := 793) ⟨by first | rfl | (dsimp only; omega), by first | rfl | (dsimp only; omega)⟩ ⟨by show 9 ≤ 2970; omega, by show 793 ≤ 18559; omega⟩ (fun rr ad' S' H locs hQ hP hS => ?_)
                  have hc9 : (ceC S y126) ∧ (1 ≤ (1 + y127) ∧ (1 + y127) ≤ 4 ∧ (1 + y127) ≤ S (4 + y126.toNat) 0 0) ∧ (1 ≤ S (4 + y126.toNat) 0 1 ∧ S 1 0 6 < 20) := ⟨hI.ce.mpr (by omega), h_B, h_C⟩
                  obtain ⟨⟨hr9, ek9⟩, hQ⟩ := hQ
                  have hs9 := (hQ.resolve_left (fun y9 => y9.1 hc9)).2
                  subst hr9
                  rw [hs9] at hP
                  refine q_nm (b := S 1 0 6) ((lv_0 hc9.1 hc9.2.1 hc9.2.2).trans (rfl)) ?_
                  obtain ⟨ad140, had140⟩ : ∃ a9 : Nat → Nat → Nat, a9 = ad' := ⟨_, rfl⟩
                  rw [← had140] at ek9 hP
                  have ek_ad140 : ∀ x q, x < 4 → ad140 x q = ad x q := fun x q h => (ek9 x q h)
                  have el_ad140 : ∀ x q, x < 4 → ad140 x q = ad x q := ek9
                  have hl : lv_has ls 13 [(9, .int (i32 (1 + y127))), (8, .int (i32 (y126))), (7, .int (i32 (y1))), (0, .ref (ad140 1 0)), (1, .ref (ad140 3 1)), (2, .ref (ad140 3 2)), (3, .ref (ad140 3 3)), (4, .ref (ad140 3 4)), (5, .int (i32 (x))), (6, .int (i32 (y)))] := by
                    have t9 := hl
                    rw [← el_ad140 1 0 (by decide), ← el_ad140 3 1 (by decide), ← el_ad140 3 2 (by decide), ← el_ad140 3 3 (by decide), ← el_ad140 3 4 (by decide)] at t9
                    exact t9
                  skip
                  generalize eS141 : lmS S y126 (1 + y127) True = S141 at hP
                  have rS141 : ∀ (a1 b1 : Nat) (i1 : Int), rng (S141 a1 b1 i1) := fun a1 b1 i1 => hP.rg a1 b1 i1
                  have ivS141 : IV S141 := by rw [← eS141]; exact w9.1
                  have h3S141 : ∀ (b1 : Nat) (i1 : Int), S141 3 b1 i1 = S 3 b1 i1 := by rw [← eS141]; exact fun b i => w9.2.1.2.2 3 b i (by omega) (by omega)
                  rw [eS141] at w9
                  obtain ⟨-, ⟨g6, g7, fr9⟩, gtr, gln⟩ := w9
                  refine lv_istore (lv' := [(10, .int (i32 (S 1 0 6))), (9, .int (i32 (1 + y127))), (8, .int (i32 (y126))), (7, .int (i32 (y1))), (0, .ref (ad140 1 0)), (1, .ref (ad140 3 1)), (2, .ref (ad140 3 2)), (3, .ref (ad140 3 3)), (4, .ref (ad140 3 4)), (5, .int (i32 (x))), (6, .int (i32 (y)))]) hx hb dL_acts_189 hl (by decide) rfl (fun ls hl => ?_)
                  refine lv_iload hx hb dL_acts_191 (lv_at hl 1 rfl) ?_
                  refine lv_aload_n hx hb dL_acts_193 rfl (lv_at hl 6 rfl) ?_
                  refine lv_iconst (v := i32 (2)) hx hb dL_acts_194 rfl ?_
                  refine lv_iload hx hb dL_acts_195 (lv_at hl 2 rfl) ?_
                  refine q_imul hx hb dL_acts_197 ?_
                  refine p_iald (k := 3) (r := 2) (n := 10) hx hb hK hP ivS141.a.2.2 rfl rfl (by decide) (by decide) (by omega) (by omega) dL_acts_198 ?_
                  refine q_nm (show S141 3 2 (2 * y126) = S 3 2 (2 * y126) from by rw [h3S141]) ?_
                  refine q_icmp_le (tgt := 215) hx hb ⟨by omega, by omega⟩ (rS _ _ _) dL_acts_199 (by decide) (fun c_142 => ?_) (fun c_142 => (by exfalso; omega))
                  refine lv_aload_n hx hb dL_acts_215 rfl (lv_at hl 6 rfl) ?_
                  refine lv_iconst (v := i32 (2)) hx hb dL_acts_216 rfl ?_
                  refine lv_iload hx hb dL_acts_217 (lv_at hl 2 rfl) ?_
                  refine q_imul hx hb dL_acts_219 ?_
                  refine lv_iconst (v := i32 (1)) hx hb dL_acts_220 rfl ?_
                  refine q_iadd hx hb dL_acts_221 ?_
                  refine p_iald (k := 3) (r := 2) (n := 10) hx hb hK hP ivS141.a.2.2 rfl rfl (by decide) (by decide) (by omega) (by omega) dL_acts_222 ?_
                  refine q_nm (show S141 3 2 ((2 * y126) + 1) = S 3 2 ((2 * y126) + 1) from by rw [h3S141]) ?_
                  refine q_if_eq (tgt := 234) hx hb (rS _ _ _) dL_acts_223 (by decide) (fun c_143 => (by exfalso; omega)) (fun c_143 => ?_)
                  refine lv_aload_n hx hb dL_acts_226 rfl (lv_at hl 5 rfl) ?_
                  refine lv_iconst (v := i32 (2)) hx hb dL_acts_227 rfl ?_
                  refine p_iald (k := 3) (r := 1) (n := 4) hx hb hK hP ivS141.a.2.2 rfl rfl (by decide) (by decide) (by omega) (by omega) dL_acts_228 ?_
                  refine q_nm (show S141 3 1 2 = S 3 1 2 from by rw [h3S141]) ?_
                  refine lv_bipush (v := i32 (20)) hx hb dL_acts_229 (by decide) ?_
                  refine q_icmp_ne (tgt := 247) hx hb (rS _ _ _) ⟨by decide, by decide⟩ dL_acts_231 (by decide) (fun c_144 => ?_) (fun c_144 => (by exfalso; omega))
                  refine lv_aload_n hx hb dL_acts_247 rfl (lv_at hl 5 rfl) ?_
                  refine lv_iconst (v := i32 (2)) hx hb dL_acts_248 rfl ?_
                  refine lv_dup2_11 hx hb dL_acts_249 rfl rfl ?_
                  refine p_iald (k := 3) (r := 1) (n := 4) hx hb hK hP ivS141.a.2.2 rfl rfl (by decide) (by decide) (by omega) (by omega) dL_acts_250 ?_
                  refine q_nm (show S141 3 1 2 = S 3 1 2 from by rw [h3S141]) ?_
                  refine lv_iconst (v := i32 (1)) hx hb dL_acts_251 rfl ?_
                  refine q_iadd hx hb dL_acts_252 ?_
                  refine p_iast (k := 3) (r := 1) (n := 4) hx hb hK hP hS ivS141.a.2.2 rfl rfl (by decide) (by decide) (by omega) (by omega) ⟨by omega, by omega⟩ dL_acts_253 (fun H locs hP hS => ?_)
                  generalize eS145 : st S141 3 1 2 ((S 3 1 2) + 1) = S145 at hP
                  have qS145 : ∀ (a1 b1 : Nat) (i1 : Int), S145 a1 b1 i1 = if a1 = 3 ∧ b1 = 1 ∧ i1 = 2 then (S 3 1 2) + 1 else S141 a1 b1 i1 := fun a1 b1 i1 => by rw [← eS145]; exact st_at _ _ _ _ _ _ _ _
                  have rS145 : ∀ (a1 b1 : Nat) (i1 : Int), rng (S145 a1 b1 i1) := fun a1 b1 i1 => hP.rg a1 b1 i1
                  have aS145_1 : S145 1 0 (-1) = 1 := by rw [qS145, if_neg (by omega)]; exact ivS141.a.1
                  have aS145_2 : S145 2 0 (-1) = 1 := by rw [qS145, if_neg (by omega)]; exact ivS141.a.2.1
                  have aS145_3 : S145 3 0 (-1) = 1 := by rw [qS145, if_neg (by omega)]; exact ivS141.a.2.2
                  have ivS145 : IV S145 := by rw [← eS145]; exact IV_3 ivS141 (by decide)
                  have en : ∀ a : Nat, a ≠ 3 → S145 a = S141 a := fun a h => fe (fun b i => by rw [qS145, if_neg (by omega)])
                  have kN2 : peC S145 (S 1 0 6) := ⟨hp20.1, by omega, by rw [en 1 (by decide)]; exact g7⟩
                  obtain ⟨na1, na2, na3⟩ := ob_k (en (10 + Int.toNat (S 1 0 6)) (by omega))
                  have lv9 : LV S145 := LV_n hV hI.k.1.2 (fun b i h => by rw [qS145, if_neg (by omega), fr9 _ _ _ (by omega) (by omega)]) (by rw [qS145, if_pos ⟨rfl, rfl, rfl⟩, en 1 (by decide), g6, v2]) (by rw [en 1 (by decide), fr9 _ _ _ (by omega) (by omega)]) (by rw [en 2 (by decide)]; exact fe (fun b i => fr9 _ _ _ (by omega) (by omega))) (fun a h1 h2 => by rw [en a (by omega)]; exact fe (fun b i => fr9 _ _ _ (by omega) (by omega)))
                  have hcc : ceC S145 y126 := ivS145.ce.mpr (by rw [en 1 (by decide), fr9 _ _ _ (by omega) (by omega)]; omega)
                  have hm0 : 0 ≤ (S 3 2 (2 * y126)) * (S 3 2 ((2 * y126) + 1)) := Int.mul_nonneg (by omega) (by omega)
                  have hm1 : (S 3 2 (2 * y126)) * (S 3 2 ((2 * y126) + 1)) ≤ 240 := mul240 (by omega) (by omega) (by omega) (by omega)
                  refine lv_iload hx hb dL_acts_254 (lv_at hl 0 rfl) ?_
                  refine lv_aload_n hx hb dL_acts_256 rfl (lv_at hl 5 rfl) ?_
                  refine lv_iconst (v := i32 (2)) hx hb dL_acts_257 rfl ?_
                  refine p_iald (k := 3) (r := 1) (n := 4) hx hb hK hP aS145_3 rfl rfl (by decide) (by decide) (by omega) (by omega) dL_acts_258 ?_
                  refine q_nm (show S145 3 1 2 = (S 3 1 2) + 1 from by rw [qS145, if_pos ⟨rfl, rfl, rfl⟩]) ?_
                  refine lv_iconst (v := i32 (1)) hx hb dL_acts_259 rfl ?_
                  refine q_isub hx hb dL_acts_260 ?_
                  refine q_icmp_ne (tgt := 314) hx hb (rS _ _ _) ⟨by omega, by omega⟩ dL_acts_261 (by decide) (fun c_146 => (by exfalso; omega)) (fun c_146 => ?_)
                  refine lv_aload_n hx hb dL_acts_264 rfl (lv_at hl 4 rfl) ?_
                  refine lv_iload hx hb dL_acts_265 (lv_at hl 0 rfl) ?_
                  refine lv_iload hx hb dL_acts_267 (lv_at hl 2 rfl) ?_
                  refine q_callH2 (As := [.ref (ad140 1 0), .int (i32 (S 1 0 6)), .int (i32 (y126))]) (rest := []) hx hb hml hl.1 hown hK hZ hP hS (c_L_likeness l g base ad140 S145 (S 1 0 6) y126 hfl ivS145.wc (rS _ _ _) ⟨by omega, by omega⟩) t_504 t_14 t_506 t_505 f_yL_likeness ⟨Nat.le_of_ble_eq_true rfl, Nat.le_of_ble_eq_true rfl⟩ rfl rfl (Nat.le_of_ble_eq_true rfl) dL_acts_269 (c2 := 11) (s2 := 805) ⟨by first | rfl | (dsimp only; omega), by first | rfl | (dsimp only; omega)⟩ ⟨by show 11 ≤ 2970; omega, by show 805 ≤ 18559; omega⟩ (q_an (fun H locs hP hS => ?_))
                  refine q_nm (b := S 3 2 (2 * y126) * S 3 2 ((2 * y126) + 1)) ((lv_0 ⟨kN2, hcc⟩ trivial trivial).trans (by rw [ln_k (en _ (by omega)) (en _ (by omega)), gln, ← hd1, ← hd3])) ?_
                  refine lv_aload_n hx hb dL_acts_272 rfl (lv_at hl 6 rfl) ?_
                  refine lv_iconst (v := i32 (2)) hx hb dL_acts_273 rfl ?_
                  refine lv_iload hx hb dL_acts_274 (lv_at hl 2 rfl) ?_
                  refine q_imul hx hb dL_acts_276 ?_
                  refine p_iald (k := 3) (r := 2) (n := 10) hx hb hK hP aS145_3 rfl rfl (by decide) (by decide) (by omega) (by omega) dL_acts_277 ?_
                  refine q_nm (show S145 3 2 (2 * y126) = S 3 2 (2 * y126) from by rw [qS145, if_neg (by omega), h3S141]) ?_
                  refine lv_aload_n hx hb dL_acts_278 rfl (lv_at hl 6 rfl) ?_
                  refine lv_iconst (v := i32 (2)) hx hb dL_acts_279 rfl ?_
                  refine lv_iload hx hb dL_acts_280 (lv_at hl 2 rfl) ?_
                  refine q_imul hx hb dL_acts_282 ?_
                  refine lv_iconst (v := i32 (1)) hx hb dL_acts_283 rfl ?_
                  refine q_iadd hx hb dL_acts_284 ?_
                  refine p_iald (k := 3) (r := 2) (n := 10) hx hb hK hP aS145_3 rfl rfl (by decide) (by decide) (by omega) (by omega) dL_acts_285 ?_
                  refine q_nm (show S145 3 2 ((2 * y126) + 1) = S 3 2 ((2 * y126) + 1) from by rw [qS145, if_neg (by omega), h3S141]) ?_
                  refine q_imul hx hb dL_acts_286 ?_
                  refine q_icmp_ne (tgt := 314) hx hb ⟨by omega, by omega⟩ ⟨by omega, by omega⟩ dL_acts_287 (by decide) (fun c_147 => (by exfalso; omega)) (fun c_147 => ?_)
                  refine lv_aload_n hx hb dL_acts_290 rfl (lv_at hl 4 rfl) ?_
                  refine lv_iload hx hb dL_acts_291 (lv_at hl 0 rfl) ?_
                  refine q_callH2 (As := [.ref (ad140 1 0), .int (i32 (S 1 0 6))]) (rest := []) hx hb hml hl.1 hown hK hZ hP hS (c_L_isTrue l g base ad140 S145 (S 1 0 6) hfl ivS145.wc (rS _ _ _)) t_516 t_14 t_518 t_517 f_yL_isTrue ⟨Nat.le_of_ble_eq_true rfl, Nat.le_of_ble_eq_true rfl⟩ rfl rfl (Nat.le_of_ble_eq_true rfl) dL_acts_293 (c2 := 12) (s2 := 811) ⟨by first | rfl | (dsimp only; omega), by first | rfl | (dsimp only; omega)⟩ ⟨by show 12 ≤ 2970; omega, by show 811 ≤ 18559; omega⟩ (q_an (fun H locs hP hS => ?_))
                  refine q_nm (b := 1) ((lv_0 kN2 trivial trivial).trans (b2_t (na3.mpr gtr))) ?_
                  refine lv_iconst (v := i32 (1)) hx hb dL_acts_296 rfl ?_
                  refine q_icmp_ne (tgt := 314) hx hb ⟨by decide, by decide⟩ ⟨by decide, by decide⟩ dL_acts_297 (by decide) (fun c_148 => (by exfalso; omega)) (fun c_148 => ?_)
                  refine lv_aload_n hx hb dL_acts_300 rfl (lv_at hl 4 rfl) ?_
                  refine lv_aload_n hx hb dL_acts_301 rfl (lv_at hl 7 rfl) ?_
                  refine lv_iload hx hb dL_acts_302 (lv_at hl 0 rfl) ?_
                  refine q_callS2 (As := [.ref (ad140 1 0), .ref (ad140 3 3), .int (i32 (S 1 0 6))]) (rest := []) hx hb hml hl.1 hown hK hZ hP hS (c_L_isPiece l g base ad140 S145 (S 1 0 6) hfl ivS145 kN2 lv9.2.2.2 (rS _ _ _)) t_329 (q_callB hK 328 14 330 t_328 t_14 t_330 f_yL_isPiece ⟨Nat.le_of_ble_eq_true rfl, Nat.le_of_ble_eq_true rfl⟩) rfl rfl (Nat.le_of_ble_eq_true rfl) dL_acts_304 (c2 := 1472) (s2 := 9571) ⟨by first | rfl | (dsimp only; omega), by first | rfl | (dsimp only; omega)⟩ ⟨by show 1472 ≤ 2970; omega, by show 9571 ≤ 18559; omega⟩ (q_an (fun H locs hP hS => ?_))
                  refine q_if_eq (tgt := 314) hx hb ⟨by decide, by decide⟩ dL_acts_307 (by decide) (fun h => by omega) (fun _ => ?_)
                  refine lv_iconst (v := i32 (1)) hx hb dL_acts_310 rfl ?_
                  refine lv_goto (tgt := 315) hx hb dL_acts_311 (by decide) ?_
                  subst hQm
                  exact q_zret hx hb hr hlocks hP hS (v := 1) (by decide) (by exact ⟨⟨rfl, ek_ad140⟩, ivS145, lv9⟩) (by show 1472 ≤ 2970; omega) (by show 9571 ≤ 18559; omega) dL_acts_315
              · skip
                obtain ⟨hd1, hd2, hd3⟩ := vd y126 (by omega) (by omega)
                obtain ⟨⟨-, hcw1, hcw2⟩, -⟩ := hI.k.2.2 y126 (by omega) (by omega)
                refine lv_aload_n hx hb dL_acts_165 rfl (lv_at hl 3 rfl) ?_
                refine lv_iload hx hb dL_acts_166 (lv_at hl 1 rfl) ?_
                refine lv_iload hx hb dL_acts_168 (lv_at hl 0 rfl) ?_
                refine lv_iload hx hb dL_acts_170 (lv_at hl 9 rfl) ?_
                refine lv_iconst (v := i32 (2)) hx hb dL_acts_172 rfl ?_
                refine lv_ishr hx hb dL_acts_173 ?_
                obtain ⟨z149, rz149, hz149⟩ := i32_of (i32 (y) >>> (i32 (2) &&& 31))
                rw [hz149]
                refine lv_iconst (v := i32 (2)) hx hb dL_acts_174 rfl ?_
                refine q_callS2 (As := [.int (i32 (z149)), .int (i32 (2))]) (rest := [.int (i32 (1 + y127)), .int (i32 (y126)), .ref (ad 1 0)]) hx hb hml hl.1 hown hK hZ hP hS (c_L_low l g base ad S z149 ((2 : Int)) rz149 (by omega)) t_122 (q_callB hK 121 14 123 t_121 t_14 t_123 f_yL_low ⟨Nat.le_of_ble_eq_true rfl, Nat.le_of_ble_eq_true rfl⟩) rfl rfl (Nat.le_of_ble_eq_true rfl) dL_acts_175 (c2 := 0) (s2 := 0) ⟨by first | rfl | (dsimp only; omega), by first | rfl | (dsimp only; omega)⟩ ⟨by show 0 ≤ 2970; omega, by show 0 ≤ 18559; omega⟩ (q_an (fun H locs hP hS => ?_))
                obtain ⟨y150, hy150⟩ : ∃ y99 : Int, loF z149 ((2 : Int)) = y99 := ⟨_, rfl⟩
                have by150 := lo_b z149 (show 1 ≤ ((2 : Int)) by omega)
                rw [hy150] at by150
                refine q_nm hy150 ?_
                refine q_if_ne (tgt := 185) hx hb ⟨by omega, by omega⟩ dL_acts_178 (by decide) (fun c_151 => ?_) (fun c_151 => ?_)
                · -- y150 ≠ 0
                  refine lv_iconst (v := i32 (0)) hx hb dL_acts_185 rfl ?_
                  refine W.eq (g2 := F0 m 186 ls (Value.int (i32 (b2 (False))) :: Value.int (i32 (1 + y127)) :: Value.int (i32 (y126)) :: Value.ref (ad 1 0) :: [])) (by simp only [b2_t trivial, b2_f not_false] <;> rfl) ?_
                  refine q_callH2 (As := [.ref (ad 1 0), .int (i32 (y126)), .int (i32 (1 + y127)), .int (i32 (b2 (False)))]) (rest := []) hx hb hml hl.1 hown hK hZ hP hS (c_L_loom l g base ad S y126 (1 + y127) False hfl hI.wc ⟨by omega, by omega⟩ ⟨by omega, by omega⟩ hI.hcf hI.hpf) t_442 t_14 t_444 t_443 f_yL_loom ⟨Nat.le_of_ble_eq_true rfl, Nat.le_of_ble_eq_true rfl⟩ rfl rfl (Nat.le_of_ble_eq_true rfl) dL_acts_186 (c2 := 9) (s2 := 793) ⟨by first | rfl | (dsimp only; omega), by first | rfl | (dsimp only; omega)⟩ ⟨by show 9 ≤ 2970; omega, by show 793 ≤ 18559; omega⟩ (fun rr ad' S' H locs hQ hP hS => ?_)
                  obtain ⟨⟨hr9, ek9⟩, hQ⟩ := hQ
                  have hc9_1 : ceC S y126 := hI.ce.mpr (by omega)
                  have hc9_2 : 1 ≤ (1 + y127) ∧ (1 + y127) ≤ 4 ∧ (1 + y127) ≤ S (4 + y126.toNat) 0 0 := h_B
                  have hc9_3 : ¬ (1 ≤ S (4 + y126.toNat) 0 1 ∧ S 1 0 6 < 20) := h_C
                  have hs9 := (hQ.resolve_right (fun y9 => hc9_3 y9.1.2.2)).2
                  subst hr9
                  rw [hs9] at hP
                  obtain ⟨ad152, had152⟩ : ∃ a9 : Nat → Nat → Nat, a9 = ad' := ⟨_, rfl⟩
                  rw [← had152] at ek9 hP
                  have ek_ad152 : ∀ x q, x < 4 → ad152 x q = ad x q := fun x q h => (ek9 x q h)
                  have el_ad152 : ∀ x q, x < 4 → ad152 x q = ad x q := ek9
                  have hl : lv_has ls 13 [(9, .int (i32 (1 + y127))), (8, .int (i32 (y126))), (7, .int (i32 (y1))), (0, .ref (ad152 1 0)), (1, .ref (ad152 3 1)), (2, .ref (ad152 3 2)), (3, .ref (ad152 3 3)), (4, .ref (ad152 3 4)), (5, .int (i32 (x))), (6, .int (i32 (y)))] := by
                    have t9 := hl
                    rw [← el_ad152 1 0 (by decide), ← el_ad152 3 1 (by decide), ← el_ad152 3 2 (by decide), ← el_ad152 3 3 (by decide), ← el_ad152 3 4 (by decide)] at t9
                    exact t9
                  skip
                  refine q_nm (lv_3 hc9_1 hc9_2 hc9_3) ?_
                  refine lv_istore (lv' := [(10, .int (i32 (-1000003))), (9, .int (i32 (1 + y127))), (8, .int (i32 (y126))), (7, .int (i32 (y1))), (0, .ref (ad152 1 0)), (1, .ref (ad152 3 1)), (2, .ref (ad152 3 2)), (3, .ref (ad152 3 3)), (4, .ref (ad152 3 4)), (5, .int (i32 (x))), (6, .int (i32 (y)))]) hx hb dL_acts_189 hl (by decide) rfl (fun ls hl => ?_)
                  refine lv_iload hx hb dL_acts_191 (lv_at hl 1 rfl) ?_
                  refine lv_aload_n hx hb dL_acts_193 rfl (lv_at hl 6 rfl) ?_
                  refine lv_iconst (v := i32 (2)) hx hb dL_acts_194 rfl ?_
                  refine lv_iload hx hb dL_acts_195 (lv_at hl 2 rfl) ?_
                  refine q_imul hx hb dL_acts_197 ?_
                  refine p_iald (k := 3) (r := 2) (n := 10) hx hb hK hP hI.a.2.2 rfl rfl (by decide) (by decide) (by omega) (by omega) dL_acts_198 ?_
                  refine q_icmp_le (tgt := 215) hx hb ⟨by omega, by omega⟩ (rS _ _ _) dL_acts_199 (by decide) (fun c_153 => ?_) (fun c_153 => (by exfalso; omega))
                  refine lv_aload_n hx hb dL_acts_215 rfl (lv_at hl 6 rfl) ?_
                  refine lv_iconst (v := i32 (2)) hx hb dL_acts_216 rfl ?_
                  refine lv_iload hx hb dL_acts_217 (lv_at hl 2 rfl) ?_
                  refine q_imul hx hb dL_acts_219 ?_
                  refine lv_iconst (v := i32 (1)) hx hb dL_acts_220 rfl ?_
                  refine q_iadd hx hb dL_acts_221 ?_
                  refine p_iald (k := 3) (r := 2) (n := 10) hx hb hK hP hI.a.2.2 rfl rfl (by decide) (by decide) (by omega) (by omega) dL_acts_222 ?_
                  refine q_if_eq (tgt := 234) hx hb (rS _ _ _) dL_acts_223 (by decide) (fun c_154 => ?_) (fun c_154 => ?_)
                  · -- (S 3 2 ((2 * y126) + 1)) = 0
                    refine lv_iload hx hb dL_acts_234 (lv_at hl 0 rfl) ?_
                    refine q_ldc (z := -1000003) hx hb hown hK t_250 rfl dL_acts_236 ?_
                    refine q_icmp_ne (tgt := 245) hx hb ⟨by decide, by decide⟩ ⟨by decide, by decide⟩ dL_acts_238 (by decide) (fun c_155 => (by exfalso; omega)) (fun c_155 => ?_)
                    refine lv_iconst (v := i32 (1)) hx hb dL_acts_241 rfl ?_
                    refine lv_goto (tgt := 246) hx hb dL_acts_242 (by decide) ?_
                    subst hQm
                    exact q_zret hx hb hr hlocks hP hS (v := 1) (by decide) (by exact ⟨⟨rfl, ek_ad152⟩, hI, hV⟩) (by show 9 ≤ 2970; omega) (by show 793 ≤ 18559; omega) dL_acts_246
                  · -- (S 3 2 ((2 * y126) + 1)) ≠ 0
                    refine lv_aload_n hx hb dL_acts_226 rfl (lv_at hl 5 rfl) ?_
                    refine lv_iconst (v := i32 (2)) hx hb dL_acts_227 rfl ?_
                    refine p_iald (k := 3) (r := 1) (n := 4) hx hb hK hP hI.a.2.2 rfl rfl (by decide) (by decide) (by omega) (by omega) dL_acts_228 ?_
                    refine lv_bipush (v := i32 (20)) hx hb dL_acts_229 (by decide) ?_
                    refine q_icmp_ne (tgt := 247) hx hb (rS _ _ _) ⟨by decide, by decide⟩ dL_acts_231 (by decide) (fun c_156 => (by exfalso; exact h_C ⟨by omega, by omega⟩)) (fun c_156 => ?_)
                    refine lv_iload hx hb dL_acts_234 (lv_at hl 0 rfl) ?_
                    refine q_ldc (z := -1000003) hx hb hown hK t_250 rfl dL_acts_236 ?_
                    refine q_icmp_ne (tgt := 245) hx hb ⟨by decide, by decide⟩ ⟨by decide, by decide⟩ dL_acts_238 (by decide) (fun c_157 => (by exfalso; omega)) (fun c_157 => ?_)
                    refine lv_iconst (v := i32 (1)) hx hb dL_acts_241 rfl ?_
                    refine lv_goto (tgt := 246) hx hb dL_acts_242 (by decide) ?_
                    subst hQm
                    exact q_zret hx hb hr hlocks hP hS (v := 1) (by decide) (by exact ⟨⟨rfl, ek_ad152⟩, hI, hV⟩) (by show 9 ≤ 2970; omega) (by show 793 ≤ 18559; omega) dL_acts_246
                · -- y150 = 0
                  refine lv_iconst (v := i32 (1)) hx hb dL_acts_181 rfl ?_
                  refine lv_goto (tgt := 186) hx hb dL_acts_182 (by decide) ?_
                  refine W.eq (g2 := F0 m 186 ls (Value.int (i32 (b2 (True))) :: Value.int (i32 (1 + y127)) :: Value.int (i32 (y126)) :: Value.ref (ad 1 0) :: [])) (by simp only [b2_t trivial, b2_f not_false] <;> rfl) ?_
                  refine q_callH2 (As := [.ref (ad 1 0), .int (i32 (y126)), .int (i32 (1 + y127)), .int (i32 (b2 (True)))]) (rest := []) hx hb hml hl.1 hown hK hZ hP hS (c_L_loom l g base ad S y126 (1 + y127) True hfl hI.wc ⟨by omega, by omega⟩ ⟨by omega, by omega⟩ hI.hcf hI.hpf) t_442 t_14 t_444 t_443 f_yL_loom ⟨Nat.le_of_ble_eq_true rfl, Nat.le_of_ble_eq_true rfl⟩ rfl rfl (Nat.le_of_ble_eq_true rfl) dL_acts_186 (c2 := 9) (s2 := 793) ⟨by first | rfl | (dsimp only; omega), by first | rfl | (dsimp only; omega)⟩ ⟨by show 9 ≤ 2970; omega, by show 793 ≤ 18559; omega⟩ (fun rr ad' S' H locs hQ hP hS => ?_)
                  obtain ⟨⟨hr9, ek9⟩, hQ⟩ := hQ
                  have hc9_1 : ceC S y126 := hI.ce.mpr (by omega)
                  have hc9_2 : 1 ≤ (1 + y127) ∧ (1 + y127) ≤ 4 ∧ (1 + y127) ≤ S (4 + y126.toNat) 0 0 := h_B
                  have hc9_3 : ¬ (1 ≤ S (4 + y126.toNat) 0 1 ∧ S 1 0 6 < 20) := h_C
                  have hs9 := (hQ.resolve_right (fun y9 => hc9_3 y9.1.2.2)).2
                  subst hr9
                  rw [hs9] at hP
                  obtain ⟨ad158, had158⟩ : ∃ a9 : Nat → Nat → Nat, a9 = ad' := ⟨_, rfl⟩
                  rw [← had158] at ek9 hP
                  have ek_ad158 : ∀ x q, x < 4 → ad158 x q = ad x q := fun x q h => (ek9 x q h)
                  have el_ad158 : ∀ x q, x < 4 → ad158 x q = ad x q := ek9
                  have hl : lv_has ls 13 [(9, .int (i32 (1 + y127))), (8, .int (i32 (y126))), (7, .int (i32 (y1))), (0, .ref (ad158 1 0)), (1, .ref (ad158 3 1)), (2, .ref (ad158 3 2)), (3, .ref (ad158 3 3)), (4, .ref (ad158 3 4)), (5, .int (i32 (x))), (6, .int (i32 (y)))] := by
                    have t9 := hl
                    rw [← el_ad158 1 0 (by decide), ← el_ad158 3 1 (by decide), ← el_ad158 3 2 (by decide), ← el_ad158 3 3 (by decide), ← el_ad158 3 4 (by decide)] at t9
                    exact t9
                  skip
                  refine q_nm (lv_3 hc9_1 hc9_2 hc9_3) ?_
                  refine lv_istore (lv' := [(10, .int (i32 (-1000003))), (9, .int (i32 (1 + y127))), (8, .int (i32 (y126))), (7, .int (i32 (y1))), (0, .ref (ad158 1 0)), (1, .ref (ad158 3 1)), (2, .ref (ad158 3 2)), (3, .ref (ad158 3 3)), (4, .ref (ad158 3 4)), (5, .int (i32 (x))), (6, .int (i32 (y)))]) hx hb dL_acts_189 hl (by decide) rfl (fun ls hl => ?_)
                  refine lv_iload hx hb dL_acts_191 (lv_at hl 1 rfl) ?_
                  refine lv_aload_n hx hb dL_acts_193 rfl (lv_at hl 6 rfl) ?_
                  refine lv_iconst (v := i32 (2)) hx hb dL_acts_194 rfl ?_
                  refine lv_iload hx hb dL_acts_195 (lv_at hl 2 rfl) ?_
                  refine q_imul hx hb dL_acts_197 ?_
                  refine p_iald (k := 3) (r := 2) (n := 10) hx hb hK hP hI.a.2.2 rfl rfl (by decide) (by decide) (by omega) (by omega) dL_acts_198 ?_
                  refine q_icmp_le (tgt := 215) hx hb ⟨by omega, by omega⟩ (rS _ _ _) dL_acts_199 (by decide) (fun c_159 => ?_) (fun c_159 => (by exfalso; omega))
                  refine lv_aload_n hx hb dL_acts_215 rfl (lv_at hl 6 rfl) ?_
                  refine lv_iconst (v := i32 (2)) hx hb dL_acts_216 rfl ?_
                  refine lv_iload hx hb dL_acts_217 (lv_at hl 2 rfl) ?_
                  refine q_imul hx hb dL_acts_219 ?_
                  refine lv_iconst (v := i32 (1)) hx hb dL_acts_220 rfl ?_
                  refine q_iadd hx hb dL_acts_221 ?_
                  refine p_iald (k := 3) (r := 2) (n := 10) hx hb hK hP hI.a.2.2 rfl rfl (by decide) (by decide) (by omega) (by omega) dL_acts_222 ?_
                  refine q_if_eq (tgt := 234) hx hb (rS _ _ _) dL_acts_223 (by decide) (fun c_160 => ?_) (fun c_160 => ?_)
                  · -- (S 3 2 ((2 * y126) + 1)) = 0
                    refine lv_iload hx hb dL_acts_234 (lv_at hl 0 rfl) ?_
                    refine q_ldc (z := -1000003) hx hb hown hK t_250 rfl dL_acts_236 ?_
                    refine q_icmp_ne (tgt := 245) hx hb ⟨by decide, by decide⟩ ⟨by decide, by decide⟩ dL_acts_238 (by decide) (fun c_161 => (by exfalso; omega)) (fun c_161 => ?_)
                    refine lv_iconst (v := i32 (1)) hx hb dL_acts_241 rfl ?_
                    refine lv_goto (tgt := 246) hx hb dL_acts_242 (by decide) ?_
                    subst hQm
                    exact q_zret hx hb hr hlocks hP hS (v := 1) (by decide) (by exact ⟨⟨rfl, ek_ad158⟩, hI, hV⟩) (by show 9 ≤ 2970; omega) (by show 793 ≤ 18559; omega) dL_acts_246
                  · -- (S 3 2 ((2 * y126) + 1)) ≠ 0
                    refine lv_aload_n hx hb dL_acts_226 rfl (lv_at hl 5 rfl) ?_
                    refine lv_iconst (v := i32 (2)) hx hb dL_acts_227 rfl ?_
                    refine p_iald (k := 3) (r := 1) (n := 4) hx hb hK hP hI.a.2.2 rfl rfl (by decide) (by decide) (by omega) (by omega) dL_acts_228 ?_
                    refine lv_bipush (v := i32 (20)) hx hb dL_acts_229 (by decide) ?_
                    refine q_icmp_ne (tgt := 247) hx hb (rS _ _ _) ⟨by decide, by decide⟩ dL_acts_231 (by decide) (fun c_162 => (by exfalso; exact h_C ⟨by omega, by omega⟩)) (fun c_162 => ?_)
                    refine lv_iload hx hb dL_acts_234 (lv_at hl 0 rfl) ?_
                    refine q_ldc (z := -1000003) hx hb hown hK t_250 rfl dL_acts_236 ?_
                    refine q_icmp_ne (tgt := 245) hx hb ⟨by decide, by decide⟩ ⟨by decide, by decide⟩ dL_acts_238 (by decide) (fun c_163 => (by exfalso; omega)) (fun c_163 => ?_)
                    refine lv_iconst (v := i32 (1)) hx hb dL_acts_241 rfl ?_
                    refine lv_goto (tgt := 246) hx hb dL_acts_242 (by decide) ?_
                    subst hQm
                    exact q_zret hx hb hr hlocks hP hS (v := 1) (by decide) (by exact ⟨⟨rfl, ek_ad158⟩, hI, hV⟩) (by show 9 ≤ 2970; omega) (by show 793 ≤ 18559; omega) dL_acts_246
            · skip
              obtain ⟨hd1, hd2, hd3⟩ := vd y126 (by omega) (by omega)
              obtain ⟨⟨-, hcw1, hcw2⟩, -⟩ := hI.k.2.2 y126 (by omega) (by omega)
              refine lv_aload_n hx hb dL_acts_165 rfl (lv_at hl 3 rfl) ?_
              refine lv_iload hx hb dL_acts_166 (lv_at hl 1 rfl) ?_
              refine lv_iload hx hb dL_acts_168 (lv_at hl 0 rfl) ?_
              refine lv_iload hx hb dL_acts_170 (lv_at hl 9 rfl) ?_
              refine lv_iconst (v := i32 (2)) hx hb dL_acts_172 rfl ?_
              refine lv_ishr hx hb dL_acts_173 ?_
              obtain ⟨z164, rz164, hz164⟩ := i32_of (i32 (y) >>> (i32 (2) &&& 31))
              rw [hz164]
              refine lv_iconst (v := i32 (2)) hx hb dL_acts_174 rfl ?_
              refine q_callS2 (As := [.int (i32 (z164)), .int (i32 (2))]) (rest := [.int (i32 (1 + y127)), .int (i32 (y126)), .ref (ad 1 0)]) hx hb hml hl.1 hown hK hZ hP hS (c_L_low l g base ad S z164 ((2 : Int)) rz164 (by omega)) t_122 (q_callB hK 121 14 123 t_121 t_14 t_123 f_yL_low ⟨Nat.le_of_ble_eq_true rfl, Nat.le_of_ble_eq_true rfl⟩) rfl rfl (Nat.le_of_ble_eq_true rfl) dL_acts_175 (c2 := 0) (s2 := 0) ⟨by first | rfl | (dsimp only; omega), by first | rfl | (dsimp only; omega)⟩ ⟨by show 0 ≤ 2970; omega, by show 0 ≤ 18559; omega⟩ (q_an (fun H locs hP hS => ?_))
              obtain ⟨y165, hy165⟩ : ∃ y99 : Int, loF z164 ((2 : Int)) = y99 := ⟨_, rfl⟩
              have by165 := lo_b z164 (show 1 ≤ ((2 : Int)) by omega)
              rw [hy165] at by165
              refine q_nm hy165 ?_
              refine q_if_ne (tgt := 185) hx hb ⟨by omega, by omega⟩ dL_acts_178 (by decide) (fun c_166 => ?_) (fun c_166 => ?_)
              · -- y165 ≠ 0
                refine lv_iconst (v := i32 (0)) hx hb dL_acts_185 rfl ?_
                refine W.eq (g2 := F0 m 186 ls (Value.int (i32 (b2 (False))) :: Value.int (i32 (1 + y127)) :: Value.int (i32 (y126)) :: Value.ref (ad 1 0) :: [])) (by simp only [b2_t trivial, b2_f not_false] <;> rfl) ?_
                refine q_callH2 (As := [.ref (ad 1 0), .int (i32 (y126)), .int (i32 (1 + y127)), .int (i32 (b2 (False)))]) (rest := []) hx hb hml hl.1 hown hK hZ hP hS (c_L_loom l g base ad S y126 (1 + y127) False hfl hI.wc ⟨by omega, by omega⟩ ⟨by omega, by omega⟩ hI.hcf hI.hpf) t_442 t_14 t_444 t_443 f_yL_loom ⟨Nat.le_of_ble_eq_true rfl, Nat.le_of_ble_eq_true rfl⟩ rfl rfl (Nat.le_of_ble_eq_true rfl) dL_acts_186 (c2 := 9) (s2 := 793) ⟨by first | rfl | (dsimp only; omega), by first | rfl | (dsimp only; omega)⟩ ⟨by show 9 ≤ 2970; omega, by show 793 ≤ 18559; omega⟩ (fun rr ad' S' H locs hQ hP hS => ?_)
                obtain ⟨⟨hr9, ek9⟩, hQ⟩ := hQ
                have hc9_1 : ceC S y126 := hI.ce.mpr (by omega)
                have hc9_2 : ¬ (1 ≤ (1 + y127) ∧ (1 + y127) ≤ 4 ∧ (1 + y127) ≤ S (4 + y126.toNat) 0 0) := h_B
                have hs9 := (hQ.resolve_right (fun y9 => hc9_2 y9.1.2.1)).2
                subst hr9
                rw [hs9] at hP
                obtain ⟨ad167, had167⟩ : ∃ a9 : Nat → Nat → Nat, a9 = ad' := ⟨_, rfl⟩
                rw [← had167] at ek9 hP
                have ek_ad167 : ∀ x q, x < 4 → ad167 x q = ad x q := fun x q h => (ek9 x q h)
                have el_ad167 : ∀ x q, x < 4 → ad167 x q = ad x q := ek9
                have hl : lv_has ls 13 [(9, .int (i32 (1 + y127))), (8, .int (i32 (y126))), (7, .int (i32 (y1))), (0, .ref (ad167 1 0)), (1, .ref (ad167 3 1)), (2, .ref (ad167 3 2)), (3, .ref (ad167 3 3)), (4, .ref (ad167 3 4)), (5, .int (i32 (x))), (6, .int (i32 (y)))] := by
                  have t9 := hl
                  rw [← el_ad167 1 0 (by decide), ← el_ad167 3 1 (by decide), ← el_ad167 3 2 (by decide), ← el_ad167 3 3 (by decide), ← el_ad167 3 4 (by decide)] at t9
                  exact t9
                skip
                refine q_nm (lv_2 hc9_1 hc9_2) ?_
                refine lv_istore (lv' := [(10, .int (i32 (-1000002))), (9, .int (i32 (1 + y127))), (8, .int (i32 (y126))), (7, .int (i32 (y1))), (0, .ref (ad167 1 0)), (1, .ref (ad167 3 1)), (2, .ref (ad167 3 2)), (3, .ref (ad167 3 3)), (4, .ref (ad167 3 4)), (5, .int (i32 (x))), (6, .int (i32 (y)))]) hx hb dL_acts_189 hl (by decide) rfl (fun ls hl => ?_)
                refine lv_iload hx hb dL_acts_191 (lv_at hl 1 rfl) ?_
                refine lv_aload_n hx hb dL_acts_193 rfl (lv_at hl 6 rfl) ?_
                refine lv_iconst (v := i32 (2)) hx hb dL_acts_194 rfl ?_
                refine lv_iload hx hb dL_acts_195 (lv_at hl 2 rfl) ?_
                refine q_imul hx hb dL_acts_197 ?_
                refine p_iald (k := 3) (r := 2) (n := 10) hx hb hK hP hI.a.2.2 rfl rfl (by decide) (by decide) (by omega) (by omega) dL_acts_198 ?_
                refine q_icmp_le (tgt := 215) hx hb ⟨by omega, by omega⟩ (rS _ _ _) dL_acts_199 (by decide) (fun c_168 => (by exfalso; exact h_B ⟨by omega, by omega, by omega⟩)) (fun c_168 => ?_)
                refine lv_iload hx hb dL_acts_202 (lv_at hl 0 rfl) ?_
                refine q_ldc (z := -1000002) hx hb hown hK t_249 rfl dL_acts_204 ?_
                refine q_icmp_ne (tgt := 213) hx hb ⟨by decide, by decide⟩ ⟨by decide, by decide⟩ dL_acts_206 (by decide) (fun c_169 => (by exfalso; omega)) (fun c_169 => ?_)
                refine lv_iconst (v := i32 (1)) hx hb dL_acts_209 rfl ?_
                refine lv_goto (tgt := 214) hx hb dL_acts_210 (by decide) ?_
                subst hQm
                exact q_zret hx hb hr hlocks hP hS (v := 1) (by decide) (by exact ⟨⟨rfl, ek_ad167⟩, hI, hV⟩) (by show 9 ≤ 2970; omega) (by show 793 ≤ 18559; omega) dL_acts_214
              · -- y165 = 0
                refine lv_iconst (v := i32 (1)) hx hb dL_acts_181 rfl ?_
                refine lv_goto (tgt := 186) hx hb dL_acts_182 (by decide) ?_
                refine W.eq (g2 := F0 m 186 ls (Value.int (i32 (b2 (True))) :: Value.int (i32 (1 + y127)) :: Value.int (i32 (y126)) :: Value.ref (ad 1 0) :: [])) (by simp only [b2_t trivial, b2_f not_false] <;> rfl) ?_
                refine q_callH2 (As := [.ref (ad 1 0), .int (i32 (y126)), .int (i32 (1 + y127)), .int (i32 (b2 (True)))]) (rest := []) hx hb hml hl.1 hown hK hZ hP hS (c_L_loom l g base ad S y126 (1 + y127) True hfl hI.wc ⟨by omega, by omega⟩ ⟨by omega, by omega⟩ hI.hcf hI.hpf) t_442 t_14 t_444 t_443 f_yL_loom ⟨Nat.le_of_ble_eq_true rfl, Nat.le_of_ble_eq_true rfl⟩ rfl rfl (Nat.le_of_ble_eq_true rfl) dL_acts_186 (c2 := 9) (s2 := 793) ⟨by first | rfl | (dsimp only; omega), by first | rfl | (dsimp only; omega)⟩ ⟨by show 9 ≤ 2970; omega, by show 793 ≤ 18559; omega⟩ (fun rr ad' S' H locs hQ hP hS => ?_)
                obtain ⟨⟨hr9, ek9⟩, hQ⟩ := hQ
                have hc9_1 : ceC S y126 := hI.ce.mpr (by omega)
                have hc9_2 : ¬ (1 ≤ (1 + y127) ∧ (1 + y127) ≤ 4 ∧ (1 + y127) ≤ S (4 + y126.toNat) 0 0) := h_B
                have hs9 := (hQ.resolve_right (fun y9 => hc9_2 y9.1.2.1)).2
                subst hr9
                rw [hs9] at hP
                obtain ⟨ad170, had170⟩ : ∃ a9 : Nat → Nat → Nat, a9 = ad' := ⟨_, rfl⟩
                rw [← had170] at ek9 hP
                have ek_ad170 : ∀ x q, x < 4 → ad170 x q = ad x q := fun x q h => (ek9 x q h)
                have el_ad170 : ∀ x q, x < 4 → ad170 x q = ad x q := ek9
                have hl : lv_has ls 13 [(9, .int (i32 (1 + y127))), (8, .int (i32 (y126))), (7, .int (i32 (y1))), (0, .ref (ad170 1 0)), (1, .ref (ad170 3 1)), (2, .ref (ad170 3 2)), (3, .ref (ad170 3 3)), (4, .ref (ad170 3 4)), (5, .int (i32 (x))), (6, .int (i32 (y)))] := by
                  have t9 := hl
                  rw [← el_ad170 1 0 (by decide), ← el_ad170 3 1 (by decide), ← el_ad170 3 2 (by decide), ← el_ad170 3 3 (by decide), ← el_ad170 3 4 (by decide)] at t9
                  exact t9
                skip
                refine q_nm (lv_2 hc9_1 hc9_2) ?_
                refine lv_istore (lv' := [(10, .int (i32 (-1000002))), (9, .int (i32 (1 + y127))), (8, .int (i32 (y126))), (7, .int (i32 (y1))), (0, .ref (ad170 1 0)), (1, .ref (ad170 3 1)), (2, .ref (ad170 3 2)), (3, .ref (ad170 3 3)), (4, .ref (ad170 3 4)), (5, .int (i32 (x))), (6, .int (i32 (y)))]) hx hb dL_acts_189 hl (by decide) rfl (fun ls hl => ?_)
                refine lv_iload hx hb dL_acts_191 (lv_at hl 1 rfl) ?_
                refine lv_aload_n hx hb dL_acts_193 rfl (lv_at hl 6 rfl) ?_
                refine lv_iconst (v := i32 (2)) hx hb dL_acts_194 rfl ?_
                refine lv_iload hx hb dL_acts_195 (lv_at hl 2 rfl) ?_
                refine q_imul hx hb dL_acts_197 ?_
                refine p_iald (k := 3) (r := 2) (n := 10) hx hb hK hP hI.a.2.2 rfl rfl (by decide) (by decide) (by omega) (by omega) dL_acts_198 ?_
                refine q_icmp_le (tgt := 215) hx hb ⟨by omega, by omega⟩ (rS _ _ _) dL_acts_199 (by decide) (fun c_171 => (by exfalso; exact h_B ⟨by omega, by omega, by omega⟩)) (fun c_171 => ?_)
                refine lv_iload hx hb dL_acts_202 (lv_at hl 0 rfl) ?_
                refine q_ldc (z := -1000002) hx hb hown hK t_249 rfl dL_acts_204 ?_
                refine q_icmp_ne (tgt := 213) hx hb ⟨by decide, by decide⟩ ⟨by decide, by decide⟩ dL_acts_206 (by decide) (fun c_172 => (by exfalso; omega)) (fun c_172 => ?_)
                refine lv_iconst (v := i32 (1)) hx hb dL_acts_209 rfl ?_
                refine lv_goto (tgt := 214) hx hb dL_acts_210 (by decide) ?_
                subst hQm
                exact q_zret hx hb hr hlocks hP hS (v := 1) (by decide) (by exact ⟨⟨rfl, ek_ad170⟩, hI, hV⟩) (by show 9 ≤ 2970; omega) (by show 793 ≤ 18559; omega) dL_acts_214
      · -- y1 = 3
        refine lv_aload_n hx hb dL_acts_40 rfl (lv_at hl 2 rfl) ?_
        refine lv_iconst (v := i32 (1)) hx hb dL_acts_41 rfl ?_
        refine p_iald (k := 3) (r := 1) (n := 4) hx hb hK hP hI.a.2.2 rfl rfl (by decide) (by decide) (by omega) (by omega) dL_acts_42 ?_
        refine lv_bipush (v := i32 (20)) hx hb dL_acts_43 (by decide) ?_
        refine q_icmp_ge (tgt := 131) hx hb (rS _ _ _) ⟨by decide, by decide⟩ dL_acts_45 (by decide) (fun c_173 => ?_) (fun c_173 => ?_)
        · -- 20 ≤ (S 3 1 1)
          refine lv_iload hx hb dL_acts_131 (lv_at hl 0 rfl) ?_
          refine lv_iconst (v := i32 (4)) hx hb dL_acts_133 rfl ?_
          refine q_icmp_eq (tgt := 143) hx hb ⟨by omega, by omega⟩ ⟨by decide, by decide⟩ dL_acts_134 (by decide) (fun c_174 => ?_) (fun c_174 => ?_)
          · -- y1 = 4
            refine lv_iload hx hb dL_acts_143 (lv_at hl 6 rfl) ?_
            refine lv_iconst (v := i32 (4)) hx hb dL_acts_145 rfl ?_
            refine lv_ishr hx hb dL_acts_146 ?_
            obtain ⟨z175, rz175, hz175⟩ := i32_of (i32 (x) >>> (i32 (4) &&& 31))
            rw [hz175]
            refine lv_aload_n hx hb dL_acts_147 rfl (lv_at hl 2 rfl) ?_
            refine lv_iconst (v := i32 (0)) hx hb dL_acts_148 rfl ?_
            refine p_iald (k := 3) (r := 1) (n := 4) hx hb hK hP hI.a.2.2 rfl rfl (by decide) (by decide) (by omega) (by omega) dL_acts_149 ?_
            refine q_callS2 (As := [.int (i32 (z175)), .int (i32 (S 3 1 0))]) (rest := []) hx hb hml hl.1 hown hK hZ hP hS (c_L_low l g base ad S z175 (S 3 1 0) rz175 (by omega)) t_122 (q_callB hK 121 14 123 t_121 t_14 t_123 f_yL_low ⟨Nat.le_of_ble_eq_true rfl, Nat.le_of_ble_eq_true rfl⟩) rfl rfl (Nat.le_of_ble_eq_true rfl) dL_acts_150 (c2 := 0) (s2 := 0) ⟨by first | rfl | (dsimp only; omega), by first | rfl | (dsimp only; omega)⟩ ⟨by show 0 ≤ 2970; omega, by show 0 ≤ 18559; omega⟩ (q_an (fun H locs hP hS => ?_))
            obtain ⟨y176, hy176⟩ : ∃ y99 : Int, loF z175 (S 3 1 0) = y99 := ⟨_, rfl⟩
            have by176 := lo_b z175 (show 1 ≤ (S 3 1 0) by omega)
            rw [hy176] at by176
            refine q_nm hy176 ?_
            refine lv_istore (lv' := [(8, .int (i32 (y176))), (7, .int (i32 (y1))), (0, .ref (ad 1 0)), (1, .ref (ad 3 1)), (2, .ref (ad 3 2)), (3, .ref (ad 3 3)), (4, .ref (ad 3 4)), (5, .int (i32 (x))), (6, .int (i32 (y)))]) hx hb dL_acts_153 hl (by decide) rfl (fun ls hl => ?_)
            refine lv_iconst (v := i32 (1)) hx hb dL_acts_155 rfl ?_
            refine lv_iload hx hb dL_acts_156 (lv_at hl 8 rfl) ?_
            refine lv_iconst (v := i32 (4)) hx hb dL_acts_158 rfl ?_
            refine q_callS2 (As := [.int (i32 (y)), .int (i32 (4))]) (rest := [.int (i32 (1))]) hx hb hml hl.1 hown hK hZ hP hS (c_L_low l g base ad S y ((4 : Int)) hrn2 (by omega)) t_122 (q_callB hK 121 14 123 t_121 t_14 t_123 f_yL_low ⟨Nat.le_of_ble_eq_true rfl, Nat.le_of_ble_eq_true rfl⟩) rfl rfl (Nat.le_of_ble_eq_true rfl) dL_acts_159 (c2 := 0) (s2 := 0) ⟨by first | rfl | (dsimp only; omega), by first | rfl | (dsimp only; omega)⟩ ⟨by show 0 ≤ 2970; omega, by show 0 ≤ 18559; omega⟩ (q_an (fun H locs hP hS => ?_))
            obtain ⟨y177, hy177⟩ : ∃ y99 : Int, loF y ((4 : Int)) = y99 := ⟨_, rfl⟩
            have by177 := lo_b y (show 1 ≤ ((4 : Int)) by omega)
            rw [hy177] at by177
            refine q_nm hy177 ?_
            refine q_iadd hx hb dL_acts_162 ?_
            refine lv_istore (lv' := [(9, .int (i32 (1 + y177))), (8, .int (i32 (y176))), (7, .int (i32 (y1))), (0, .ref (ad 1 0)), (1, .ref (ad 3 1)), (2, .ref (ad 3 2)), (3, .ref (ad 3 3)), (4, .ref (ad 3 4)), (5, .int (i32 (x))), (6, .int (i32 (y)))]) hx hb dL_acts_163 hl (by decide) rfl (fun ls hl => ?_)
            by_cases h_B : 1 ≤ 1 + y177 ∧ 1 + y177 ≤ 4 ∧ 1 + y177 ≤ S (4 + Int.toNat y176) 0 0
            · skip
              by_cases h_C : 1 ≤ S (4 + Int.toNat y176) 0 1 ∧ S 1 0 6 < 20
              · skip
                obtain ⟨hd1, hd2, hd3⟩ := vd y176 (by omega) (by omega)
                obtain ⟨⟨-, hcw1, hcw2⟩, -⟩ := hI.k.2.2 y176 (by omega) (by omega)
                refine lv_aload_n hx hb dL_acts_165 rfl (lv_at hl 3 rfl) ?_
                refine lv_iload hx hb dL_acts_166 (lv_at hl 1 rfl) ?_
                refine lv_iload hx hb dL_acts_168 (lv_at hl 0 rfl) ?_
                refine lv_iload hx hb dL_acts_170 (lv_at hl 9 rfl) ?_
                refine lv_iconst (v := i32 (2)) hx hb dL_acts_172 rfl ?_
                refine lv_ishr hx hb dL_acts_173 ?_
                obtain ⟨z178, rz178, hz178⟩ := i32_of (i32 (y) >>> (i32 (2) &&& 31))
                rw [hz178]
                refine lv_iconst (v := i32 (2)) hx hb dL_acts_174 rfl ?_
                refine q_callS2 (As := [.int (i32 (z178)), .int (i32 (2))]) (rest := [.int (i32 (1 + y177)), .int (i32 (y176)), .ref (ad 1 0)]) hx hb hml hl.1 hown hK hZ hP hS (c_L_low l g base ad S z178 ((2 : Int)) rz178 (by omega)) t_122 (q_callB hK 121 14 123 t_121 t_14 t_123 f_yL_low ⟨Nat.le_of_ble_eq_true rfl, Nat.le_of_ble_eq_true rfl⟩) rfl rfl (Nat.le_of_ble_eq_true rfl) dL_acts_175 (c2 := 0) (s2 := 0) ⟨by first | rfl | (dsimp only; omega), by first | rfl | (dsimp only; omega)⟩ ⟨by show 0 ≤ 2970; omega, by show 0 ≤ 18559; omega⟩ (q_an (fun H locs hP hS => ?_))
                obtain ⟨y179, hy179⟩ : ∃ y99 : Int, loF z178 ((2 : Int)) = y99 := ⟨_, rfl⟩
                have by179 := lo_b z178 (show 1 ≤ ((2 : Int)) by omega)
                rw [hy179] at by179
                refine q_nm hy179 ?_
                refine q_if_ne (tgt := 185) hx hb ⟨by omega, by omega⟩ dL_acts_178 (by decide) (fun c_180 => ?_) (fun c_180 => ?_)
                · -- y179 ≠ 0
                  refine lv_iconst (v := i32 (0)) hx hb dL_acts_185 rfl ?_
                  have w9 := IV_loom (mir := False) hI (hI.ce.mpr (show 0 ≤ y176 ∧ y176 < S 1 0 3 by omega)) h_B h_C
                  refine W.eq (g2 := F0 m 186 ls (Value.int (i32 (b2 (False))) :: Value.int (i32 (1 + y177)) :: Value.int (i32 (y176)) :: Value.ref (ad 1 0) :: [])) (by simp only [b2_t trivial, b2_f not_false] <;> rfl) ?_
                  refine q_callH2 (As := [.ref (ad 1 0), .int (i32 (y176)), .int (i32 (1 + y177)), .int (i32 (b2 (False)))]) (rest := []) hx hb hml hl.1 hown hK hZ hP hS (c_L_loom l g base ad S y176 (1 + y177) False hfl hI.wc ⟨by omega, by omega⟩ ⟨by omega, by omega⟩ hI.hcf hI.hpf) t_442 t_14 t_444 t_443 f_yL_loom ⟨Nat.le_of_ble_eq_true rfl, Nat.le_of_ble_eq_true rfl⟩ rfl rfl (Nat.le_of_ble_eq_true rfl) dL_acts_186 (c2 := 9) (s2 := 793) ⟨by first | rfl | (dsimp only; omega), by first | rfl | (dsimp only; omega)⟩ ⟨by show 9 ≤ 2970; omega, by show 793 ≤ 18559; omega⟩ (fun rr ad' S' H locs hQ hP hS => ?_)
                  have hc9 : (ceC S y176) ∧ (1 ≤ (1 + y177) ∧ (1 + y177) ≤ 4 ∧ (1 + y177) ≤ S (4 + y176.toNat) 0 0) ∧ (1 ≤ S (4 + y176.toNat) 0 1 ∧ S 1 0 6 < 20) := ⟨hI.ce.mpr (by omega), h_B, h_C⟩
                  obtain ⟨⟨hr9, ek9⟩, hQ⟩ := hQ
                  have hs9 := (hQ.resolve_left (fun y9 => y9.1 hc9)).2
                  subst hr9
                  rw [hs9] at hP
                  refine q_nm (b := S 1 0 6) ((lv_0 hc9.1 hc9.2.1 hc9.2.2).trans (rfl)) ?_
                  obtain ⟨ad181, had181⟩ : ∃ a9 : Nat → Nat → Nat, a9 = ad' := ⟨_, rfl⟩
                  rw [← had181] at ek9 hP
                  have ek_ad181 : ∀ x q, x < 4 → ad181 x q = ad x q := fun x q h => (ek9 x q h)
                  have el_ad181 : ∀ x q, x < 4 → ad181 x q = ad x q := ek9
                  have hl : lv_has ls 13 [(9, .int (i32 (1 + y177))), (8, .int (i32 (y176))), (7, .int (i32 (y1))), (0, .ref (ad181 1 0)), (1, .ref (ad181 3 1)), (2, .ref (ad181 3 2)), (3, .ref (ad181 3 3)), (4, .ref (ad181 3 4)), (5, .int (i32 (x))), (6, .int (i32 (y)))] := by
                    have t9 := hl
                    rw [← el_ad181 1 0 (by decide), ← el_ad181 3 1 (by decide), ← el_ad181 3 2 (by decide), ← el_ad181 3 3 (by decide), ← el_ad181 3 4 (by decide)] at t9
                    exact t9
                  skip
                  generalize eS182 : lmS S y176 (1 + y177) False = S182 at hP
                  have rS182 : ∀ (a1 b1 : Nat) (i1 : Int), rng (S182 a1 b1 i1) := fun a1 b1 i1 => hP.rg a1 b1 i1
                  have ivS182 : IV S182 := by rw [← eS182]; exact w9.1
                  have h3S182 : ∀ (b1 : Nat) (i1 : Int), S182 3 b1 i1 = S 3 b1 i1 := by rw [← eS182]; exact fun b i => w9.2.1.2.2 3 b i (by omega) (by omega)
                  rw [eS182] at w9
                  obtain ⟨-, ⟨g6, g7, fr9⟩, gtr, gln⟩ := w9
                  refine lv_istore (lv' := [(10, .int (i32 (S 1 0 6))), (9, .int (i32 (1 + y177))), (8, .int (i32 (y176))), (7, .int (i32 (y1))), (0, .ref (ad181 1 0)), (1, .ref (ad181 3 1)), (2, .ref (ad181 3 2)), (3, .ref (ad181 3 3)), (4, .ref (ad181 3 4)), (5, .int (i32 (x))), (6, .int (i32 (y)))]) hx hb dL_acts_189 hl (by decide) rfl (fun ls hl => ?_)
                  refine lv_iload hx hb dL_acts_191 (lv_at hl 1 rfl) ?_
                  refine lv_aload_n hx hb dL_acts_193 rfl (lv_at hl 6 rfl) ?_
                  refine lv_iconst (v := i32 (2)) hx hb dL_acts_194 rfl ?_
                  refine lv_iload hx hb dL_acts_195 (lv_at hl 2 rfl) ?_
                  refine q_imul hx hb dL_acts_197 ?_
                  refine p_iald (k := 3) (r := 2) (n := 10) hx hb hK hP ivS182.a.2.2 rfl rfl (by decide) (by decide) (by omega) (by omega) dL_acts_198 ?_
                  refine q_nm (show S182 3 2 (2 * y176) = S 3 2 (2 * y176) from by rw [h3S182]) ?_
                  refine q_icmp_le (tgt := 215) hx hb ⟨by omega, by omega⟩ (rS _ _ _) dL_acts_199 (by decide) (fun c_183 => ?_) (fun c_183 => (by exfalso; omega))
                  refine lv_aload_n hx hb dL_acts_215 rfl (lv_at hl 6 rfl) ?_
                  refine lv_iconst (v := i32 (2)) hx hb dL_acts_216 rfl ?_
                  refine lv_iload hx hb dL_acts_217 (lv_at hl 2 rfl) ?_
                  refine q_imul hx hb dL_acts_219 ?_
                  refine lv_iconst (v := i32 (1)) hx hb dL_acts_220 rfl ?_
                  refine q_iadd hx hb dL_acts_221 ?_
                  refine p_iald (k := 3) (r := 2) (n := 10) hx hb hK hP ivS182.a.2.2 rfl rfl (by decide) (by decide) (by omega) (by omega) dL_acts_222 ?_
                  refine q_nm (show S182 3 2 ((2 * y176) + 1) = S 3 2 ((2 * y176) + 1) from by rw [h3S182]) ?_
                  refine q_if_eq (tgt := 234) hx hb (rS _ _ _) dL_acts_223 (by decide) (fun c_184 => (by exfalso; omega)) (fun c_184 => ?_)
                  refine lv_aload_n hx hb dL_acts_226 rfl (lv_at hl 5 rfl) ?_
                  refine lv_iconst (v := i32 (2)) hx hb dL_acts_227 rfl ?_
                  refine p_iald (k := 3) (r := 1) (n := 4) hx hb hK hP ivS182.a.2.2 rfl rfl (by decide) (by decide) (by omega) (by omega) dL_acts_228 ?_
                  refine q_nm (show S182 3 1 2 = S 3 1 2 from by rw [h3S182]) ?_
                  refine lv_bipush (v := i32 (20)) hx hb dL_acts_229 (by decide) ?_
                  refine q_icmp_ne (tgt := 247) hx hb (rS _ _ _) ⟨by decide, by decide⟩ dL_acts_231 (by decide) (fun c_185 => ?_) (fun c_185 => (by exfalso; omega))
                  refine lv_aload_n hx hb dL_acts_247 rfl (lv_at hl 5 rfl) ?_
                  refine lv_iconst (v := i32 (2)) hx hb dL_acts_248 rfl ?_
                  refine lv_dup2_11 hx hb dL_acts_249 rfl rfl ?_
                  refine p_iald (k := 3) (r := 1) (n := 4) hx hb hK hP ivS182.a.2.2 rfl rfl (by decide) (by decide) (by omega) (by omega) dL_acts_250 ?_
                  refine q_nm (show S182 3 1 2 = S 3 1 2 from by rw [h3S182]) ?_
                  refine lv_iconst (v := i32 (1)) hx hb dL_acts_251 rfl ?_
                  refine q_iadd hx hb dL_acts_252 ?_
                  refine p_iast (k := 3) (r := 1) (n := 4) hx hb hK hP hS ivS182.a.2.2 rfl rfl (by decide) (by decide) (by omega) (by omega) ⟨by omega, by omega⟩ dL_acts_253 (fun H locs hP hS => ?_)
                  generalize eS186 : st S182 3 1 2 ((S 3 1 2) + 1) = S186 at hP
                  have qS186 : ∀ (a1 b1 : Nat) (i1 : Int), S186 a1 b1 i1 = if a1 = 3 ∧ b1 = 1 ∧ i1 = 2 then (S 3 1 2) + 1 else S182 a1 b1 i1 := fun a1 b1 i1 => by rw [← eS186]; exact st_at _ _ _ _ _ _ _ _
                  have rS186 : ∀ (a1 b1 : Nat) (i1 : Int), rng (S186 a1 b1 i1) := fun a1 b1 i1 => hP.rg a1 b1 i1
                  have aS186_1 : S186 1 0 (-1) = 1 := by rw [qS186, if_neg (by omega)]; exact ivS182.a.1
                  have aS186_2 : S186 2 0 (-1) = 1 := by rw [qS186, if_neg (by omega)]; exact ivS182.a.2.1
                  have aS186_3 : S186 3 0 (-1) = 1 := by rw [qS186, if_neg (by omega)]; exact ivS182.a.2.2
                  have ivS186 : IV S186 := by rw [← eS186]; exact IV_3 ivS182 (by decide)
                  have en : ∀ a : Nat, a ≠ 3 → S186 a = S182 a := fun a h => fe (fun b i => by rw [qS186, if_neg (by omega)])
                  have kN2 : peC S186 (S 1 0 6) := ⟨hp20.1, by omega, by rw [en 1 (by decide)]; exact g7⟩
                  obtain ⟨na1, na2, na3⟩ := ob_k (en (10 + Int.toNat (S 1 0 6)) (by omega))
                  have lv9 : LV S186 := LV_n hV hI.k.1.2 (fun b i h => by rw [qS186, if_neg (by omega), fr9 _ _ _ (by omega) (by omega)]) (by rw [qS186, if_pos ⟨rfl, rfl, rfl⟩, en 1 (by decide), g6, v2]) (by rw [en 1 (by decide), fr9 _ _ _ (by omega) (by omega)]) (by rw [en 2 (by decide)]; exact fe (fun b i => fr9 _ _ _ (by omega) (by omega))) (fun a h1 h2 => by rw [en a (by omega)]; exact fe (fun b i => fr9 _ _ _ (by omega) (by omega)))
                  have hcc : ceC S186 y176 := ivS186.ce.mpr (by rw [en 1 (by decide), fr9 _ _ _ (by omega) (by omega)]; omega)
                  have hm0 : 0 ≤ (S 3 2 (2 * y176)) * (S 3 2 ((2 * y176) + 1)) := Int.mul_nonneg (by omega) (by omega)
                  have hm1 : (S 3 2 (2 * y176)) * (S 3 2 ((2 * y176) + 1)) ≤ 240 := mul240 (by omega) (by omega) (by omega) (by omega)
                  refine lv_iload hx hb dL_acts_254 (lv_at hl 0 rfl) ?_
                  refine lv_aload_n hx hb dL_acts_256 rfl (lv_at hl 5 rfl) ?_
                  refine lv_iconst (v := i32 (2)) hx hb dL_acts_257 rfl ?_
                  refine p_iald (k := 3) (r := 1) (n := 4) hx hb hK hP aS186_3 rfl rfl (by decide) (by decide) (by omega) (by omega) dL_acts_258 ?_
                  refine q_nm (show S186 3 1 2 = (S 3 1 2) + 1 from by rw [qS186, if_pos ⟨rfl, rfl, rfl⟩]) ?_
                  refine lv_iconst (v := i32 (1)) hx hb dL_acts_259 rfl ?_
                  refine q_isub hx hb dL_acts_260 ?_
                  refine q_icmp_ne (tgt := 314) hx hb (rS _ _ _) ⟨by omega, by omega⟩ dL_acts_261 (by decide) (fun c_187 => (by exfalso; omega)) (fun c_187 => ?_)
                  refine lv_aload_n hx hb dL_acts_264 rfl (lv_at hl 4 rfl) ?_
                  refine lv_iload hx hb dL_acts_265 (lv_at hl 0 rfl) ?_
                  refine lv_iload hx hb dL_acts_267 (lv_at hl 2 rfl) ?_
                  refine q_callH2 (As := [.ref (ad181 1 0), .int (i32 (S 1 0 6)), .int (i32 (y176))]) (rest := []) hx hb hml hl.1 hown hK hZ hP hS (c_L_likeness l g base ad181 S186 (S 1 0 6) y176 hfl ivS186.wc (rS _ _ _) ⟨by omega, by omega⟩) t_504 t_14 t_506 t_505 f_yL_likeness ⟨Nat.le_of_ble_eq_true rfl, Nat.le_of_ble_eq_true rfl⟩ rfl rfl (Nat.le_of_ble_eq_true rfl) dL_acts_269 (c2 := 11) (s2 := 805) ⟨by first | rfl | (dsimp only; omega), by first | rfl | (dsimp only; omega)⟩ ⟨by show 11 ≤ 2970; omega, by show 805 ≤ 18559; omega⟩ (q_an (fun H locs hP hS => ?_))
                  refine q_nm (b := S 3 2 (2 * y176) * S 3 2 ((2 * y176) + 1)) ((lv_0 ⟨kN2, hcc⟩ trivial trivial).trans (by rw [ln_k (en _ (by omega)) (en _ (by omega)), gln, ← hd1, ← hd3])) ?_
                  refine lv_aload_n hx hb dL_acts_272 rfl (lv_at hl 6 rfl) ?_
                  refine lv_iconst (v := i32 (2)) hx hb dL_acts_273 rfl ?_
                  refine lv_iload hx hb dL_acts_274 (lv_at hl 2 rfl) ?_
                  refine q_imul hx hb dL_acts_276 ?_
                  refine p_iald (k := 3) (r := 2) (n := 10) hx hb hK hP aS186_3 rfl rfl (by decide) (by decide) (by omega) (by omega) dL_acts_277 ?_
                  refine q_nm (show S186 3 2 (2 * y176) = S 3 2 (2 * y176) from by rw [qS186, if_neg (by omega), h3S182]) ?_
                  refine lv_aload_n hx hb dL_acts_278 rfl (lv_at hl 6 rfl) ?_
                  refine lv_iconst (v := i32 (2)) hx hb dL_acts_279 rfl ?_
                  refine lv_iload hx hb dL_acts_280 (lv_at hl 2 rfl) ?_
                  refine q_imul hx hb dL_acts_282 ?_
                  refine lv_iconst (v := i32 (1)) hx hb dL_acts_283 rfl ?_
                  refine q_iadd hx hb dL_acts_284 ?_
                  refine p_iald (k := 3) (r := 2) (n := 10) hx hb hK hP aS186_3 rfl rfl (by decide) (by decide) (by omega) (by omega) dL_acts_285 ?_
                  refine q_nm (show S186 3 2 ((2 * y176) + 1) = S 3 2 ((2 * y176) + 1) from by rw [qS186, if_neg (by omega), h3S182]) ?_
                  refine q_imul hx hb dL_acts_286 ?_
                  refine q_icmp_ne (tgt := 314) hx hb ⟨by omega, by omega⟩ ⟨by omega, by omega⟩ dL_acts_287 (by decide) (fun c_188 => (by exfalso; omega)) (fun c_188 => ?_)
                  refine lv_aload_n hx hb dL_acts_290 rfl (lv_at hl 4 rfl) ?_
                  refine lv_iload hx hb dL_acts_291 (lv_at hl 0 rfl) ?_
                  refine q_callH2 (As := [.ref (ad181 1 0), .int (i32 (S 1 0 6))]) (rest := []) hx hb hml hl.1 hown hK hZ hP hS (c_L_isTrue l g base ad181 S186 (S 1 0 6) hfl ivS186.wc (rS _ _ _)) t_516 t_14 t_518 t_517 f_yL_isTrue ⟨Nat.le_of_ble_eq_true rfl, Nat.le_of_ble_eq_true rfl⟩ rfl rfl (Nat.le_of_ble_eq_true rfl) dL_acts_293 (c2 := 12) (s2 := 811) ⟨by first | rfl | (dsimp only; omega), by first | rfl | (dsimp only; omega)⟩ ⟨by show 12 ≤ 2970; omega, by show 811 ≤ 18559; omega⟩ (q_an (fun H locs hP hS => ?_))
                  refine q_nm (b := 1) ((lv_0 kN2 trivial trivial).trans (b2_t (na3.mpr gtr))) ?_
                  refine lv_iconst (v := i32 (1)) hx hb dL_acts_296 rfl ?_
                  refine q_icmp_ne (tgt := 314) hx hb ⟨by decide, by decide⟩ ⟨by decide, by decide⟩ dL_acts_297 (by decide) (fun c_189 => (by exfalso; omega)) (fun c_189 => ?_)
                  refine lv_aload_n hx hb dL_acts_300 rfl (lv_at hl 4 rfl) ?_
                  refine lv_aload_n hx hb dL_acts_301 rfl (lv_at hl 7 rfl) ?_
                  refine lv_iload hx hb dL_acts_302 (lv_at hl 0 rfl) ?_
                  refine q_callS2 (As := [.ref (ad181 1 0), .ref (ad181 3 3), .int (i32 (S 1 0 6))]) (rest := []) hx hb hml hl.1 hown hK hZ hP hS (c_L_isPiece l g base ad181 S186 (S 1 0 6) hfl ivS186 kN2 lv9.2.2.2 (rS _ _ _)) t_329 (q_callB hK 328 14 330 t_328 t_14 t_330 f_yL_isPiece ⟨Nat.le_of_ble_eq_true rfl, Nat.le_of_ble_eq_true rfl⟩) rfl rfl (Nat.le_of_ble_eq_true rfl) dL_acts_304 (c2 := 1472) (s2 := 9571) ⟨by first | rfl | (dsimp only; omega), by first | rfl | (dsimp only; omega)⟩ ⟨by show 1472 ≤ 2970; omega, by show 9571 ≤ 18559; omega⟩ (q_an (fun H locs hP hS => ?_))
                  refine q_if_eq (tgt := 314) hx hb ⟨by decide, by decide⟩ dL_acts_307 (by decide) (fun h => by omega) (fun _ => ?_)
                  refine lv_iconst (v := i32 (1)) hx hb dL_acts_310 rfl ?_
                  refine lv_goto (tgt := 315) hx hb dL_acts_311 (by decide) ?_
                  subst hQm
                  exact q_zret hx hb hr hlocks hP hS (v := 1) (by decide) (by exact ⟨⟨rfl, ek_ad181⟩, ivS186, lv9⟩) (by show 1472 ≤ 2970; omega) (by show 9571 ≤ 18559; omega) dL_acts_315
                · -- y179 = 0
                  refine lv_iconst (v := i32 (1)) hx hb dL_acts_181 rfl ?_
                  refine lv_goto (tgt := 186) hx hb dL_acts_182 (by decide) ?_
                  have w9 := IV_loom (mir := True) hI (hI.ce.mpr (show 0 ≤ y176 ∧ y176 < S 1 0 3 by omega)) h_B h_C
                  refine W.eq (g2 := F0 m 186 ls (Value.int (i32 (b2 (True))) :: Value.int (i32 (1 + y177)) :: Value.int (i32 (y176)) :: Value.ref (ad 1 0) :: [])) (by simp only [b2_t trivial, b2_f not_false] <;> rfl) ?_
                  refine q_callH2 (As := [.ref (ad 1 0), .int (i32 (y176)), .int (i32 (1 + y177)), .int (i32 (b2 (True)))]) (rest := []) hx hb hml hl.1 hown hK hZ hP hS (c_L_loom l g base ad S y176 (1 + y177) True hfl hI.wc ⟨by omega, by omega⟩ ⟨by omega, by omega⟩ hI.hcf hI.hpf) t_442 t_14 t_444 t_443 f_yL_loom ⟨Nat.le_of_ble_eq_true rfl, Nat.le_of_ble_eq_true rfl⟩ rfl rfl (Nat.le_of_ble_eq_true rfl) dL_acts_186 (c2 := 9) (s2 := 793) ⟨by first | rfl | (dsimp only; omega), by first | rfl | (dsimp only; omega)⟩ ⟨by show 9 ≤ 2970; omega, by show 793 ≤ 18559; omega⟩ (fun rr ad' S' H locs hQ hP hS => ?_)
                  have hc9 : (ceC S y176) ∧ (1 ≤ (1 + y177) ∧ (1 + y177) ≤ 4 ∧ (1 + y177) ≤ S (4 + y176.toNat) 0 0) ∧ (1 ≤ S (4 + y176.toNat) 0 1 ∧ S 1 0 6 < 20) := ⟨hI.ce.mpr (by omega), h_B, h_C⟩
                  obtain ⟨⟨hr9, ek9⟩, hQ⟩ := hQ
                  have hs9 := (hQ.resolve_left (fun y9 => y9.1 hc9)).2
                  subst hr9
                  rw [hs9] at hP
                  refine q_nm (b := S 1 0 6) ((lv_0 hc9.1 hc9.2.1 hc9.2.2).trans (rfl)) ?_
                  obtain ⟨ad190, had190⟩ : ∃ a9 : Nat → Nat → Nat, a9 = ad' := ⟨_, rfl⟩
                  rw [← had190] at ek9 hP
                  have ek_ad190 : ∀ x q, x < 4 → ad190 x q = ad x q := fun x q h => (ek9 x q h)
                  have el_ad190 : ∀ x q, x < 4 → ad190 x q = ad x q := ek9
                  have hl : lv_has ls 13 [(9, .int (i32 (1 + y177))), (8, .int (i32 (y176))), (7, .int (i32 (y1))), (0, .ref (ad190 1 0)), (1, .ref (ad190 3 1)), (2, .ref (ad190 3 2)), (3, .ref (ad190 3 3)), (4, .ref (ad190 3 4)), (5, .int (i32 (x))), (6, .int (i32 (y)))] := by
                    have t9 := hl
                    rw [← el_ad190 1 0 (by decide), ← el_ad190 3 1 (by decide), ← el_ad190 3 2 (by decide), ← el_ad190 3 3 (by decide), ← el_ad190 3 4 (by decide)] at t9
                    exact t9
                  skip
                  generalize eS191 : lmS S y176 (1 + y177) True = S191 at hP
                  have rS191 : ∀ (a1 b1 : Nat) (i1 : Int), rng (S191 a1 b1 i1) := fun a1 b1 i1 => hP.rg a1 b1 i1
                  have ivS191 : IV S191 := by rw [← eS191]; exact w9.1
                  have h3S191 : ∀ (b1 : Nat) (i1 : Int), S191 3 b1 i1 = S 3 b1 i1 := by rw [← eS191]; exact fun b i => w9.2.1.2.2 3 b i (by omega) (by omega)
                  rw [eS191] at w9
                  obtain ⟨-, ⟨g6, g7, fr9⟩, gtr, gln⟩ := w9
                  refine lv_istore (lv' := [(10, .int (i32 (S 1 0 6))), (9, .int (i32 (1 + y177))), (8, .int (i32 (y176))), (7, .int (i32 (y1))), (0, .ref (ad190 1 0)), (1, .ref (ad190 3 1)), (2, .ref (ad190 3 2)), (3, .ref (ad190 3 3)), (4, .ref (ad190 3 4)), (5, .int (i32 (x))), (6, .int (i32 (y)))]) hx hb dL_acts_189 hl (by decide) rfl (fun ls hl => ?_)
                  refine lv_iload hx hb dL_acts_191 (lv_at hl 1 rfl) ?_
                  refine lv_aload_n hx hb dL_acts_193 rfl (lv_at hl 6 rfl) ?_
                  refine lv_iconst (v := i32 (2)) hx hb dL_acts_194 rfl ?_
                  refine lv_iload hx hb dL_acts_195 (lv_at hl 2 rfl) ?_
                  refine q_imul hx hb dL_acts_197 ?_
                  refine p_iald (k := 3) (r := 2) (n := 10) hx hb hK hP ivS191.a.2.2 rfl rfl (by decide) (by decide) (by omega) (by omega) dL_acts_198 ?_
                  refine q_nm (show S191 3 2 (2 * y176) = S 3 2 (2 * y176) from by rw [h3S191]) ?_
                  refine q_icmp_le (tgt := 215) hx hb ⟨by omega, by omega⟩ (rS _ _ _) dL_acts_199 (by decide) (fun c_192 => ?_) (fun c_192 => (by exfalso; omega))
                  refine lv_aload_n hx hb dL_acts_215 rfl (lv_at hl 6 rfl) ?_
                  refine lv_iconst (v := i32 (2)) hx hb dL_acts_216 rfl ?_
                  refine lv_iload hx hb dL_acts_217 (lv_at hl 2 rfl) ?_
                  refine q_imul hx hb dL_acts_219 ?_
                  refine lv_iconst (v := i32 (1)) hx hb dL_acts_220 rfl ?_
                  refine q_iadd hx hb dL_acts_221 ?_
                  refine p_iald (k := 3) (r := 2) (n := 10) hx hb hK hP ivS191.a.2.2 rfl rfl (by decide) (by decide) (by omega) (by omega) dL_acts_222 ?_
                  refine q_nm (show S191 3 2 ((2 * y176) + 1) = S 3 2 ((2 * y176) + 1) from by rw [h3S191]) ?_
                  refine q_if_eq (tgt := 234) hx hb (rS _ _ _) dL_acts_223 (by decide) (fun c_193 => (by exfalso; omega)) (fun c_193 => ?_)
                  refine lv_aload_n hx hb dL_acts_226 rfl (lv_at hl 5 rfl) ?_
                  refine lv_iconst (v := i32 (2)) hx hb dL_acts_227 rfl ?_
                  refine p_iald (k := 3) (r := 1) (n := 4) hx hb hK hP ivS191.a.2.2 rfl rfl (by decide) (by decide) (by omega) (by omega) dL_acts_228 ?_
                  refine q_nm (show S191 3 1 2 = S 3 1 2 from by rw [h3S191]) ?_
                  refine lv_bipush (v := i32 (20)) hx hb dL_acts_229 (by decide) ?_
                  refine q_icmp_ne (tgt := 247) hx hb (rS _ _ _) ⟨by decide, by decide⟩ dL_acts_231 (by decide) (fun c_194 => ?_) (fun c_194 => (by exfalso; omega))
                  refine lv_aload_n hx hb dL_acts_247 rfl (lv_at hl 5 rfl) ?_
                  refine lv_iconst (v := i32 (2)) hx hb dL_acts_248 rfl ?_
                  refine lv_dup2_11 hx hb dL_acts_249 rfl rfl ?_
                  refine p_iald (k := 3) (r := 1) (n := 4) hx hb hK hP ivS191.a.2.2 rfl rfl (by decide) (by decide) (by omega) (by omega) dL_acts_250 ?_
                  refine q_nm (show S191 3 1 2 = S 3 1 2 from by rw [h3S191]) ?_
                  refine lv_iconst (v := i32 (1)) hx hb dL_acts_251 rfl ?_
                  refine q_iadd hx hb dL_acts_252 ?_
                  refine p_iast (k := 3) (r := 1) (n := 4) hx hb hK hP hS ivS191.a.2.2 rfl rfl (by decide) (by decide) (by omega) (by omega) ⟨by omega, by omega⟩ dL_acts_253 (fun H locs hP hS => ?_)
                  generalize eS195 : st S191 3 1 2 ((S 3 1 2) + 1) = S195 at hP
                  have qS195 : ∀ (a1 b1 : Nat) (i1 : Int), S195 a1 b1 i1 = if a1 = 3 ∧ b1 = 1 ∧ i1 = 2 then (S 3 1 2) + 1 else S191 a1 b1 i1 := fun a1 b1 i1 => by rw [← eS195]; exact st_at _ _ _ _ _ _ _ _
                  have rS195 : ∀ (a1 b1 : Nat) (i1 : Int), rng (S195 a1 b1 i1) := fun a1 b1 i1 => hP.rg a1 b1 i1
                  have aS195_1 : S195 1 0 (-1) = 1 := by rw [qS195, if_neg (by omega)]; exact ivS191.a.1
                  have aS195_2 : S195 2 0 (-1) = 1 := by rw [qS195, if_neg (by omega)]; exact ivS191.a.2.1
                  have aS195_3 : S195 3 0 (-1) = 1 := by rw [qS195, if_neg (by omega)]; exact ivS191.a.2.2
                  have ivS195 : IV S195 := by rw [← eS195]; exact IV_3 ivS191 (by decide)
                  have en : ∀ a : Nat, a ≠ 3 → S195 a = S191 a := fun a h => fe (fun b i => by rw [qS195, if_neg (by omega)])
                  have kN2 : peC S195 (S 1 0 6) := ⟨hp20.1, by omega, by rw [en 1 (by decide)]; exact g7⟩
                  obtain ⟨na1, na2, na3⟩ := ob_k (en (10 + Int.toNat (S 1 0 6)) (by omega))
                  have lv9 : LV S195 := LV_n hV hI.k.1.2 (fun b i h => by rw [qS195, if_neg (by omega), fr9 _ _ _ (by omega) (by omega)]) (by rw [qS195, if_pos ⟨rfl, rfl, rfl⟩, en 1 (by decide), g6, v2]) (by rw [en 1 (by decide), fr9 _ _ _ (by omega) (by omega)]) (by rw [en 2 (by decide)]; exact fe (fun b i => fr9 _ _ _ (by omega) (by omega))) (fun a h1 h2 => by rw [en a (by omega)]; exact fe (fun b i => fr9 _ _ _ (by omega) (by omega)))
                  have hcc : ceC S195 y176 := ivS195.ce.mpr (by rw [en 1 (by decide), fr9 _ _ _ (by omega) (by omega)]; omega)
                  have hm0 : 0 ≤ (S 3 2 (2 * y176)) * (S 3 2 ((2 * y176) + 1)) := Int.mul_nonneg (by omega) (by omega)
                  have hm1 : (S 3 2 (2 * y176)) * (S 3 2 ((2 * y176) + 1)) ≤ 240 := mul240 (by omega) (by omega) (by omega) (by omega)
                  refine lv_iload hx hb dL_acts_254 (lv_at hl 0 rfl) ?_
                  refine lv_aload_n hx hb dL_acts_256 rfl (lv_at hl 5 rfl) ?_
                  refine lv_iconst (v := i32 (2)) hx hb dL_acts_257 rfl ?_
                  refine p_iald (k := 3) (r := 1) (n := 4) hx hb hK hP aS195_3 rfl rfl (by decide) (by decide) (by omega) (by omega) dL_acts_258 ?_
                  refine q_nm (show S195 3 1 2 = (S 3 1 2) + 1 from by rw [qS195, if_pos ⟨rfl, rfl, rfl⟩]) ?_
                  refine lv_iconst (v := i32 (1)) hx hb dL_acts_259 rfl ?_
                  refine q_isub hx hb dL_acts_260 ?_
                  refine q_icmp_ne (tgt := 314) hx hb (rS _ _ _) ⟨by omega, by omega⟩ dL_acts_261 (by decide) (fun c_196 => (by exfalso; omega)) (fun c_196 => ?_)
                  refine lv_aload_n hx hb dL_acts_264 rfl (lv_at hl 4 rfl) ?_
                  refine lv_iload hx hb dL_acts_265 (lv_at hl 0 rfl) ?_
                  refine lv_iload hx hb dL_acts_267 (lv_at hl 2 rfl) ?_
                  refine q_callH2 (As := [.ref (ad190 1 0), .int (i32 (S 1 0 6)), .int (i32 (y176))]) (rest := []) hx hb hml hl.1 hown hK hZ hP hS (c_L_likeness l g base ad190 S195 (S 1 0 6) y176 hfl ivS195.wc (rS _ _ _) ⟨by omega, by omega⟩) t_504 t_14 t_506 t_505 f_yL_likeness ⟨Nat.le_of_ble_eq_true rfl, Nat.le_of_ble_eq_true rfl⟩ rfl rfl (Nat.le_of_ble_eq_true rfl) dL_acts_269 (c2 := 11) (s2 := 805) ⟨by first | rfl | (dsimp only; omega), by first | rfl | (dsimp only; omega)⟩ ⟨by show 11 ≤ 2970; omega, by show 805 ≤ 18559; omega⟩ (q_an (fun H locs hP hS => ?_))
                  refine q_nm (b := S 3 2 (2 * y176) * S 3 2 ((2 * y176) + 1)) ((lv_0 ⟨kN2, hcc⟩ trivial trivial).trans (by rw [ln_k (en _ (by omega)) (en _ (by omega)), gln, ← hd1, ← hd3])) ?_
                  refine lv_aload_n hx hb dL_acts_272 rfl (lv_at hl 6 rfl) ?_
                  refine lv_iconst (v := i32 (2)) hx hb dL_acts_273 rfl ?_
                  refine lv_iload hx hb dL_acts_274 (lv_at hl 2 rfl) ?_
                  refine q_imul hx hb dL_acts_276 ?_
                  refine p_iald (k := 3) (r := 2) (n := 10) hx hb hK hP aS195_3 rfl rfl (by decide) (by decide) (by omega) (by omega) dL_acts_277 ?_
                  refine q_nm (show S195 3 2 (2 * y176) = S 3 2 (2 * y176) from by rw [qS195, if_neg (by omega), h3S191]) ?_
                  refine lv_aload_n hx hb dL_acts_278 rfl (lv_at hl 6 rfl) ?_
                  refine lv_iconst (v := i32 (2)) hx hb dL_acts_279 rfl ?_
                  refine lv_iload hx hb dL_acts_280 (lv_at hl 2 rfl) ?_
                  refine q_imul hx hb dL_acts_282 ?_
                  refine lv_iconst (v := i32 (1)) hx hb dL_acts_283 rfl ?_
                  refine q_iadd hx hb dL_acts_284 ?_
                  refine p_iald (k := 3) (r := 2) (n := 10) hx hb hK hP aS195_3 rfl rfl (by decide) (by decide) (by omega) (by omega) dL_acts_285 ?_
                  refine q_nm (show S195 3 2 ((2 * y176) + 1) = S 3 2 ((2 * y176) + 1) from by rw [qS195, if_neg (by omega), h3S191]) ?_
                  refine q_imul hx hb dL_acts_286 ?_
                  refine q_icmp_ne (tgt := 314) hx hb ⟨by omega, by omega⟩ ⟨by omega, by omega⟩ dL_acts_287 (by decide) (fun c_197 => (by exfalso; omega)) (fun c_197 => ?_)
                  refine lv_aload_n hx hb dL_acts_290 rfl (lv_at hl 4 rfl) ?_
                  refine lv_iload hx hb dL_acts_291 (lv_at hl 0 rfl) ?_
                  refine q_callH2 (As := [.ref (ad190 1 0), .int (i32 (S 1 0 6))]) (rest := []) hx hb hml hl.1 hown hK hZ hP hS (c_L_isTrue l g base ad190 S195 (S 1 0 6) hfl ivS195.wc (rS _ _ _)) t_516 t_14 t_518 t_517 f_yL_isTrue ⟨Nat.le_of_ble_eq_true rfl, Nat.le_of_ble_eq_true rfl⟩ rfl rfl (Nat.le_of_ble_eq_true rfl) dL_acts_293 (c2 := 12) (s2 := 811) ⟨by first | rfl | (dsimp only; omega), by first | rfl | (dsimp only; omega)⟩ ⟨by show 12 ≤ 2970; omega, by show 811 ≤ 18559; omega⟩ (q_an (fun H locs hP hS => ?_))
                  refine q_nm (b := 1) ((lv_0 kN2 trivial trivial).trans (b2_t (na3.mpr gtr))) ?_
                  refine lv_iconst (v := i32 (1)) hx hb dL_acts_296 rfl ?_
                  refine q_icmp_ne (tgt := 314) hx hb ⟨by decide, by decide⟩ ⟨by decide, by decide⟩ dL_acts_297 (by decide) (fun c_198 => (by exfalso; omega)) (fun c_198 => ?_)
                  refine lv_aload_n hx hb dL_acts_300 rfl (lv_at hl 4 rfl) ?_
                  refine lv_aload_n hx hb dL_acts_301 rfl (lv_at hl 7 rfl) ?_
                  refine lv_iload hx hb dL_acts_302 (lv_at hl 0 rfl) ?_
                  refine q_callS2 (As := [.ref (ad190 1 0), .ref (ad190 3 3), .int (i32 (S 1 0 6))]) (rest := []) hx hb hml hl.1 hown hK hZ hP hS (c_L_isPiece l g base ad190 S195 (S 1 0 6) hfl ivS195 kN2 lv9.2.2.2 (rS _ _ _)) t_329 (q_callB hK 328 14 330 t_328 t_14 t_330 f_yL_isPiece ⟨Nat.le_of_ble_eq_true rfl, Nat.le_of_ble_eq_true rfl⟩) rfl rfl (Nat.le_of_ble_eq_true rfl) dL_acts_304 (c2 := 1472) (s2 := 9571) ⟨by first | rfl | (dsimp only; omega), by first | rfl | (dsimp only; omega)⟩ ⟨by show 1472 ≤ 2970; omega, by show 9571 ≤ 18559; omega⟩ (q_an (fun H locs hP hS => ?_))
                  refine q_if_eq (tgt := 314) hx hb ⟨by decide, by decide⟩ dL_acts_307 (by decide) (fun h => by omega) (fun _ => ?_)
                  refine lv_iconst (v := i32 (1)) hx hb dL_acts_310 rfl ?_
                  refine lv_goto (tgt := 315) hx hb dL_acts_311 (by decide) ?_
                  subst hQm
                  exact q_zret hx hb hr hlocks hP hS (v := 1) (by decide) (by exact ⟨⟨rfl, ek_ad190⟩, ivS195, lv9⟩) (by show 1472 ≤ 2970; omega) (by show 9571 ≤ 18559; omega) dL_acts_315
              · skip
                obtain ⟨hd1, hd2, hd3⟩ := vd y176 (by omega) (by omega)
                obtain ⟨⟨-, hcw1, hcw2⟩, -⟩ := hI.k.2.2 y176 (by omega) (by omega)
                refine lv_aload_n hx hb dL_acts_165 rfl (lv_at hl 3 rfl) ?_
                refine lv_iload hx hb dL_acts_166 (lv_at hl 1 rfl) ?_
                refine lv_iload hx hb dL_acts_168 (lv_at hl 0 rfl) ?_
                refine lv_iload hx hb dL_acts_170 (lv_at hl 9 rfl) ?_
                refine lv_iconst (v := i32 (2)) hx hb dL_acts_172 rfl ?_
                refine lv_ishr hx hb dL_acts_173 ?_
                obtain ⟨z199, rz199, hz199⟩ := i32_of (i32 (y) >>> (i32 (2) &&& 31))
                rw [hz199]
                refine lv_iconst (v := i32 (2)) hx hb dL_acts_174 rfl ?_
                refine q_callS2 (As := [.int (i32 (z199)), .int (i32 (2))]) (rest := [.int (i32 (1 + y177)), .int (i32 (y176)), .ref (ad 1 0)]) hx hb hml hl.1 hown hK hZ hP hS (c_L_low l g base ad S z199 ((2 : Int)) rz199 (by omega)) t_122 (q_callB hK 121 14 123 t_121 t_14 t_123 f_yL_low ⟨Nat.le_of_ble_eq_true rfl, Nat.le_of_ble_eq_true rfl⟩) rfl rfl (Nat.le_of_ble_eq_true rfl) dL_acts_175 (c2 := 0) (s2 := 0) ⟨by first | rfl | (dsimp only; omega), by first | rfl | (dsimp only; omega)⟩ ⟨by show 0 ≤ 2970; omega, by show 0 ≤ 18559; omega⟩ (q_an (fun H locs hP hS => ?_))
                obtain ⟨y200, hy200⟩ : ∃ y99 : Int, loF z199 ((2 : Int)) = y99 := ⟨_, rfl⟩
                have by200 := lo_b z199 (show 1 ≤ ((2 : Int)) by omega)
                rw [hy200] at by200
                refine q_nm hy200 ?_
                refine q_if_ne (tgt := 185) hx hb ⟨by omega, by omega⟩ dL_acts_178 (by decide) (fun c_201 => ?_) (fun c_201 => ?_)
                · -- y200 ≠ 0
                  refine lv_iconst (v := i32 (0)) hx hb dL_acts_185 rfl ?_
                  refine W.eq (g2 := F0 m 186 ls (Value.int (i32 (b2 (False))) :: Value.int (i32 (1 + y177)) :: Value.int (i32 (y176)) :: Value.ref (ad 1 0) :: [])) (by simp only [b2_t trivial, b2_f not_false] <;> rfl) ?_
                  refine q_callH2 (As := [.ref (ad 1 0), .int (i32 (y176)), .int (i32 (1 + y177)), .int (i32 (b2 (False)))]) (rest := []) hx hb hml hl.1 hown hK hZ hP hS (c_L_loom l g base ad S y176 (1 + y177) False hfl hI.wc ⟨by omega, by omega⟩ ⟨by omega, by omega⟩ hI.hcf hI.hpf) t_442 t_14 t_444 t_443 f_yL_loom ⟨Nat.le_of_ble_eq_true rfl, Nat.le_of_ble_eq_true rfl⟩ rfl rfl (Nat.le_of_ble_eq_true rfl) dL_acts_186 (c2 := 9) (s2 := 793) ⟨by first | rfl | (dsimp only; omega), by first | rfl | (dsimp only; omega)⟩ ⟨by show 9 ≤ 2970; omega, by show 793 ≤ 18559; omega⟩ (fun rr ad' S' H locs hQ hP hS => ?_)
                  obtain ⟨⟨hr9, ek9⟩, hQ⟩ := hQ
                  have hc9_1 : ceC S y176 := hI.ce.mpr (by omega)
                  have hc9_2 : 1 ≤ (1 + y177) ∧ (1 + y177) ≤ 4 ∧ (1 + y177) ≤ S (4 + y176.toNat) 0 0 := h_B
                  have hc9_3 : ¬ (1 ≤ S (4 + y176.toNat) 0 1 ∧ S 1 0 6 < 20) := h_C
                  have hs9 := (hQ.resolve_right (fun y9 => hc9_3 y9.1.2.2)).2
                  subst hr9
                  rw [hs9] at hP
                  obtain ⟨ad202, had202⟩ : ∃ a9 : Nat → Nat → Nat, a9 = ad' := ⟨_, rfl⟩
                  rw [← had202] at ek9 hP
                  have ek_ad202 : ∀ x q, x < 4 → ad202 x q = ad x q := fun x q h => (ek9 x q h)
                  have el_ad202 : ∀ x q, x < 4 → ad202 x q = ad x q := ek9
                  have hl : lv_has ls 13 [(9, .int (i32 (1 + y177))), (8, .int (i32 (y176))), (7, .int (i32 (y1))), (0, .ref (ad202 1 0)), (1, .ref (ad202 3 1)), (2, .ref (ad202 3 2)), (3, .ref (ad202 3 3)), (4, .ref (ad202 3 4)), (5, .int (i32 (x))), (6, .int (i32 (y)))] := by
                    have t9 := hl
                    rw [← el_ad202 1 0 (by decide), ← el_ad202 3 1 (by decide), ← el_ad202 3 2 (by decide), ← el_ad202 3 3 (by decide), ← el_ad202 3 4 (by decide)] at t9
                    exact t9
                  skip
                  refine q_nm (lv_3 hc9_1 hc9_2 hc9_3) ?_
                  refine lv_istore (lv' := [(10, .int (i32 (-1000003))), (9, .int (i32 (1 + y177))), (8, .int (i32 (y176))), (7, .int (i32 (y1))), (0, .ref (ad202 1 0)), (1, .ref (ad202 3 1)), (2, .ref (ad202 3 2)), (3, .ref (ad202 3 3)), (4, .ref (ad202 3 4)), (5, .int (i32 (x))), (6, .int (i32 (y)))]) hx hb dL_acts_189 hl (by decide) rfl (fun ls hl => ?_)
                  refine lv_iload hx hb dL_acts_191 (lv_at hl 1 rfl) ?_
                  refine lv_aload_n hx hb dL_acts_193 rfl (lv_at hl 6 rfl) ?_
                  refine lv_iconst (v := i32 (2)) hx hb dL_acts_194 rfl ?_
                  refine lv_iload hx hb dL_acts_195 (lv_at hl 2 rfl) ?_
                  refine q_imul hx hb dL_acts_197 ?_
                  refine p_iald (k := 3) (r := 2) (n := 10) hx hb hK hP hI.a.2.2 rfl rfl (by decide) (by decide) (by omega) (by omega) dL_acts_198 ?_
                  refine q_icmp_le (tgt := 215) hx hb ⟨by omega, by omega⟩ (rS _ _ _) dL_acts_199 (by decide) (fun c_203 => ?_) (fun c_203 => (by exfalso; omega))
                  refine lv_aload_n hx hb dL_acts_215 rfl (lv_at hl 6 rfl) ?_
                  refine lv_iconst (v := i32 (2)) hx hb dL_acts_216 rfl ?_
                  refine lv_iload hx hb dL_acts_217 (lv_at hl 2 rfl) ?_
                  refine q_imul hx hb dL_acts_219 ?_
                  refine lv_iconst (v := i32 (1)) hx hb dL_acts_220 rfl ?_
                  refine q_iadd hx hb dL_acts_221 ?_
                  refine p_iald (k := 3) (r := 2) (n := 10) hx hb hK hP hI.a.2.2 rfl rfl (by decide) (by decide) (by omega) (by omega) dL_acts_222 ?_
                  refine q_if_eq (tgt := 234) hx hb (rS _ _ _) dL_acts_223 (by decide) (fun c_204 => ?_) (fun c_204 => ?_)
                  · -- (S 3 2 ((2 * y176) + 1)) = 0
                    refine lv_iload hx hb dL_acts_234 (lv_at hl 0 rfl) ?_
                    refine q_ldc (z := -1000003) hx hb hown hK t_250 rfl dL_acts_236 ?_
                    refine q_icmp_ne (tgt := 245) hx hb ⟨by decide, by decide⟩ ⟨by decide, by decide⟩ dL_acts_238 (by decide) (fun c_205 => (by exfalso; omega)) (fun c_205 => ?_)
                    refine lv_iconst (v := i32 (1)) hx hb dL_acts_241 rfl ?_
                    refine lv_goto (tgt := 246) hx hb dL_acts_242 (by decide) ?_
                    subst hQm
                    exact q_zret hx hb hr hlocks hP hS (v := 1) (by decide) (by exact ⟨⟨rfl, ek_ad202⟩, hI, hV⟩) (by show 9 ≤ 2970; omega) (by show 793 ≤ 18559; omega) dL_acts_246
                  · -- (S 3 2 ((2 * y176) + 1)) ≠ 0
                    refine lv_aload_n hx hb dL_acts_226 rfl (lv_at hl 5 rfl) ?_
                    refine lv_iconst (v := i32 (2)) hx hb dL_acts_227 rfl ?_
                    refine p_iald (k := 3) (r := 1) (n := 4) hx hb hK hP hI.a.2.2 rfl rfl (by decide) (by decide) (by omega) (by omega) dL_acts_228 ?_
                    refine lv_bipush (v := i32 (20)) hx hb dL_acts_229 (by decide) ?_
                    refine q_icmp_ne (tgt := 247) hx hb (rS _ _ _) ⟨by decide, by decide⟩ dL_acts_231 (by decide) (fun c_206 => (by exfalso; exact h_C ⟨by omega, by omega⟩)) (fun c_206 => ?_)
                    refine lv_iload hx hb dL_acts_234 (lv_at hl 0 rfl) ?_
                    refine q_ldc (z := -1000003) hx hb hown hK t_250 rfl dL_acts_236 ?_
                    refine q_icmp_ne (tgt := 245) hx hb ⟨by decide, by decide⟩ ⟨by decide, by decide⟩ dL_acts_238 (by decide) (fun c_207 => (by exfalso; omega)) (fun c_207 => ?_)
                    refine lv_iconst (v := i32 (1)) hx hb dL_acts_241 rfl ?_
                    refine lv_goto (tgt := 246) hx hb dL_acts_242 (by decide) ?_
                    subst hQm
                    exact q_zret hx hb hr hlocks hP hS (v := 1) (by decide) (by exact ⟨⟨rfl, ek_ad202⟩, hI, hV⟩) (by show 9 ≤ 2970; omega) (by show 793 ≤ 18559; omega) dL_acts_246
                · -- y200 = 0
                  refine lv_iconst (v := i32 (1)) hx hb dL_acts_181 rfl ?_
                  refine lv_goto (tgt := 186) hx hb dL_acts_182 (by decide) ?_
                  refine W.eq (g2 := F0 m 186 ls (Value.int (i32 (b2 (True))) :: Value.int (i32 (1 + y177)) :: Value.int (i32 (y176)) :: Value.ref (ad 1 0) :: [])) (by simp only [b2_t trivial, b2_f not_false] <;> rfl) ?_
                  refine q_callH2 (As := [.ref (ad 1 0), .int (i32 (y176)), .int (i32 (1 + y177)), .int (i32 (b2 (True)))]) (rest := []) hx hb hml hl.1 hown hK hZ hP hS (c_L_loom l g base ad S y176 (1 + y177) True hfl hI.wc ⟨by omega, by omega⟩ ⟨by omega, by omega⟩ hI.hcf hI.hpf) t_442 t_14 t_444 t_443 f_yL_loom ⟨Nat.le_of_ble_eq_true rfl, Nat.le_of_ble_eq_true rfl⟩ rfl rfl (Nat.le_of_ble_eq_true rfl) dL_acts_186 (c2 := 9) (s2 := 793) ⟨by first | rfl | (dsimp only; omega), by first | rfl | (dsimp only; omega)⟩ ⟨by show 9 ≤ 2970; omega, by show 793 ≤ 18559; omega⟩ (fun rr ad' S' H locs hQ hP hS => ?_)
                  obtain ⟨⟨hr9, ek9⟩, hQ⟩ := hQ
                  have hc9_1 : ceC S y176 := hI.ce.mpr (by omega)
                  have hc9_2 : 1 ≤ (1 + y177) ∧ (1 + y177) ≤ 4 ∧ (1 + y177) ≤ S (4 + y176.toNat) 0 0 := h_B
                  have hc9_3 : ¬ (1 ≤ S (4 + y176.toNat) 0 1 ∧ S 1 0 6 < 20) := h_C
                  have hs9 := (hQ.resolve_right (fun y9 => hc9_3 y9.1.2.2)).2
                  subst hr9
                  rw [hs9] at hP
                  obtain ⟨ad208, had208⟩ : ∃ a9 : Nat → Nat → Nat, a9 = ad' := ⟨_, rfl⟩
                  rw [← had208] at ek9 hP
                  have ek_ad208 : ∀ x q, x < 4 → ad208 x q = ad x q := fun x q h => (ek9 x q h)
                  have el_ad208 : ∀ x q, x < 4 → ad208 x q = ad x q := ek9
                  have hl : lv_has ls 13 [(9, .int (i32 (1 + y177))), (8, .int (i32 (y176))), (7, .int (i32 (y1))), (0, .ref (ad208 1 0)), (1, .ref (ad208 3 1)), (2, .ref (ad208 3 2)), (3, .ref (ad208 3 3)), (4, .ref (ad208 3 4)), (5, .int (i32 (x))), (6, .int (i32 (y)))] := by
                    have t9 := hl
                    rw [← el_ad208 1 0 (by decide), ← el_ad208 3 1 (by decide), ← el_ad208 3 2 (by decide), ← el_ad208 3 3 (by decide), ← el_ad208 3 4 (by decide)] at t9
                    exact t9
                  skip
                  refine q_nm (lv_3 hc9_1 hc9_2 hc9_3) ?_
                  refine lv_istore (lv' := [(10, .int (i32 (-1000003))), (9, .int (i32 (1 + y177))), (8, .int (i32 (y176))), (7, .int (i32 (y1))), (0, .ref (ad208 1 0)), (1, .ref (ad208 3 1)), (2, .ref (ad208 3 2)), (3, .ref (ad208 3 3)), (4, .ref (ad208 3 4)), (5, .int (i32 (x))), (6, .int (i32 (y)))]) hx hb dL_acts_189 hl (by decide) rfl (fun ls hl => ?_)
                  refine lv_iload hx hb dL_acts_191 (lv_at hl 1 rfl) ?_
                  refine lv_aload_n hx hb dL_acts_193 rfl (lv_at hl 6 rfl) ?_
                  refine lv_iconst (v := i32 (2)) hx hb dL_acts_194 rfl ?_
                  refine lv_iload hx hb dL_acts_195 (lv_at hl 2 rfl) ?_
                  refine q_imul hx hb dL_acts_197 ?_
                  refine p_iald (k := 3) (r := 2) (n := 10) hx hb hK hP hI.a.2.2 rfl rfl (by decide) (by decide) (by omega) (by omega) dL_acts_198 ?_
                  refine q_icmp_le (tgt := 215) hx hb ⟨by omega, by omega⟩ (rS _ _ _) dL_acts_199 (by decide) (fun c_209 => ?_) (fun c_209 => (by exfalso; omega))
                  refine lv_aload_n hx hb dL_acts_215 rfl (lv_at hl 6 rfl) ?_
                  refine lv_iconst (v := i32 (2)) hx hb dL_acts_216 rfl ?_
                  refine lv_iload hx hb dL_acts_217 (lv_at hl 2 rfl) ?_
                  refine q_imul hx hb dL_acts_219 ?_
                  refine lv_iconst (v := i32 (1)) hx hb dL_acts_220 rfl ?_
                  refine q_iadd hx hb dL_acts_221 ?_
                  refine p_iald (k := 3) (r := 2) (n := 10) hx hb hK hP hI.a.2.2 rfl rfl (by decide) (by decide) (by omega) (by omega) dL_acts_222 ?_
                  refine q_if_eq (tgt := 234) hx hb (rS _ _ _) dL_acts_223 (by decide) (fun c_210 => ?_) (fun c_210 => ?_)
                  · -- (S 3 2 ((2 * y176) + 1)) = 0
                    refine lv_iload hx hb dL_acts_234 (lv_at hl 0 rfl) ?_
                    refine q_ldc (z := -1000003) hx hb hown hK t_250 rfl dL_acts_236 ?_
                    refine q_icmp_ne (tgt := 245) hx hb ⟨by decide, by decide⟩ ⟨by decide, by decide⟩ dL_acts_238 (by decide) (fun c_211 => (by exfalso; omega)) (fun c_211 => ?_)
                    refine lv_iconst (v := i32 (1)) hx hb dL_acts_241 rfl ?_
                    refine lv_goto (tgt := 246) hx hb dL_acts_242 (by decide) ?_
                    subst hQm
                    exact q_zret hx hb hr hlocks hP hS (v := 1) (by decide) (by exact ⟨⟨rfl, ek_ad208⟩, hI, hV⟩) (by show 9 ≤ 2970; omega) (by show 793 ≤ 18559; omega) dL_acts_246
                  · -- (S 3 2 ((2 * y176) + 1)) ≠ 0
                    refine lv_aload_n hx hb dL_acts_226 rfl (lv_at hl 5 rfl) ?_
                    refine lv_iconst (v := i32 (2)) hx hb dL_acts_227 rfl ?_
                    refine p_iald (k := 3) (r := 1) (n := 4) hx hb hK hP hI.a.2.2 rfl rfl (by decide) (by decide) (by omega) (by omega) dL_acts_228 ?_
                    refine lv_bipush (v := i32 (20)) hx hb dL_acts_229 (by decide) ?_
                    refine q_icmp_ne (tgt := 247) hx hb (rS _ _ _) ⟨by decide, by decide⟩ dL_acts_231 (by decide) (fun c_212 => (by exfalso; exact h_C ⟨by omega, by omega⟩)) (fun c_212 => ?_)
                    refine lv_iload hx hb dL_acts_234 (lv_at hl 0 rfl) ?_
                    refine q_ldc (z := -1000003) hx hb hown hK t_250 rfl dL_acts_236 ?_
                    refine q_icmp_ne (tgt := 245) hx hb ⟨by decide, by decide⟩ ⟨by decide, by decide⟩ dL_acts_238 (by decide) (fun c_213 => (by exfalso; omega)) (fun c_213 => ?_)
                    refine lv_iconst (v := i32 (1)) hx hb dL_acts_241 rfl ?_
                    refine lv_goto (tgt := 246) hx hb dL_acts_242 (by decide) ?_
                    subst hQm
                    exact q_zret hx hb hr hlocks hP hS (v := 1) (by decide) (by exact ⟨⟨rfl, ek_ad208⟩, hI, hV⟩) (by show 9 ≤ 2970; omega) (by show 793 ≤ 18559; omega) dL_acts_246
            · skip
              obtain ⟨hd1, hd2, hd3⟩ := vd y176 (by omega) (by omega)
              obtain ⟨⟨-, hcw1, hcw2⟩, -⟩ := hI.k.2.2 y176 (by omega) (by omega)
              refine lv_aload_n hx hb dL_acts_165 rfl (lv_at hl 3 rfl) ?_
              refine lv_iload hx hb dL_acts_166 (lv_at hl 1 rfl) ?_
              refine lv_iload hx hb dL_acts_168 (lv_at hl 0 rfl) ?_
              refine lv_iload hx hb dL_acts_170 (lv_at hl 9 rfl) ?_
              refine lv_iconst (v := i32 (2)) hx hb dL_acts_172 rfl ?_
              refine lv_ishr hx hb dL_acts_173 ?_
              obtain ⟨z214, rz214, hz214⟩ := i32_of (i32 (y) >>> (i32 (2) &&& 31))
              rw [hz214]
              refine lv_iconst (v := i32 (2)) hx hb dL_acts_174 rfl ?_
              refine q_callS2 (As := [.int (i32 (z214)), .int (i32 (2))]) (rest := [.int (i32 (1 + y177)), .int (i32 (y176)), .ref (ad 1 0)]) hx hb hml hl.1 hown hK hZ hP hS (c_L_low l g base ad S z214 ((2 : Int)) rz214 (by omega)) t_122 (q_callB hK 121 14 123 t_121 t_14 t_123 f_yL_low ⟨Nat.le_of_ble_eq_true rfl, Nat.le_of_ble_eq_true rfl⟩) rfl rfl (Nat.le_of_ble_eq_true rfl) dL_acts_175 (c2 := 0) (s2 := 0) ⟨by first | rfl | (dsimp only; omega), by first | rfl | (dsimp only; omega)⟩ ⟨by show 0 ≤ 2970; omega, by show 0 ≤ 18559; omega⟩ (q_an (fun H locs hP hS => ?_))
              obtain ⟨y215, hy215⟩ : ∃ y99 : Int, loF z214 ((2 : Int)) = y99 := ⟨_, rfl⟩
              have by215 := lo_b z214 (show 1 ≤ ((2 : Int)) by omega)
              rw [hy215] at by215
              refine q_nm hy215 ?_
              refine q_if_ne (tgt := 185) hx hb ⟨by omega, by omega⟩ dL_acts_178 (by decide) (fun c_216 => ?_) (fun c_216 => ?_)
              · -- y215 ≠ 0
                refine lv_iconst (v := i32 (0)) hx hb dL_acts_185 rfl ?_
                refine W.eq (g2 := F0 m 186 ls (Value.int (i32 (b2 (False))) :: Value.int (i32 (1 + y177)) :: Value.int (i32 (y176)) :: Value.ref (ad 1 0) :: [])) (by simp only [b2_t trivial, b2_f not_false] <;> rfl) ?_
                refine q_callH2 (As := [.ref (ad 1 0), .int (i32 (y176)), .int (i32 (1 + y177)), .int (i32 (b2 (False)))]) (rest := []) hx hb hml hl.1 hown hK hZ hP hS (c_L_loom l g base ad S y176 (1 + y177) False hfl hI.wc ⟨by omega, by omega⟩ ⟨by omega, by omega⟩ hI.hcf hI.hpf) t_442 t_14 t_444 t_443 f_yL_loom ⟨Nat.le_of_ble_eq_true rfl, Nat.le_of_ble_eq_true rfl⟩ rfl rfl (Nat.le_of_ble_eq_true rfl) dL_acts_186 (c2 := 9) (s2 := 793) ⟨by first | rfl | (dsimp only; omega), by first | rfl | (dsimp only; omega)⟩ ⟨by show 9 ≤ 2970; omega, by show 793 ≤ 18559; omega⟩ (fun rr ad' S' H locs hQ hP hS => ?_)
                obtain ⟨⟨hr9, ek9⟩, hQ⟩ := hQ
                have hc9_1 : ceC S y176 := hI.ce.mpr (by omega)
                have hc9_2 : ¬ (1 ≤ (1 + y177) ∧ (1 + y177) ≤ 4 ∧ (1 + y177) ≤ S (4 + y176.toNat) 0 0) := h_B
                have hs9 := (hQ.resolve_right (fun y9 => hc9_2 y9.1.2.1)).2
                subst hr9
                rw [hs9] at hP
                obtain ⟨ad217, had217⟩ : ∃ a9 : Nat → Nat → Nat, a9 = ad' := ⟨_, rfl⟩
                rw [← had217] at ek9 hP
                have ek_ad217 : ∀ x q, x < 4 → ad217 x q = ad x q := fun x q h => (ek9 x q h)
                have el_ad217 : ∀ x q, x < 4 → ad217 x q = ad x q := ek9
                have hl : lv_has ls 13 [(9, .int (i32 (1 + y177))), (8, .int (i32 (y176))), (7, .int (i32 (y1))), (0, .ref (ad217 1 0)), (1, .ref (ad217 3 1)), (2, .ref (ad217 3 2)), (3, .ref (ad217 3 3)), (4, .ref (ad217 3 4)), (5, .int (i32 (x))), (6, .int (i32 (y)))] := by
                  have t9 := hl
                  rw [← el_ad217 1 0 (by decide), ← el_ad217 3 1 (by decide), ← el_ad217 3 2 (by decide), ← el_ad217 3 3 (by decide), ← el_ad217 3 4 (by decide)] at t9
                  exact t9
                skip
                refine q_nm (lv_2 hc9_1 hc9_2) ?_
                refine lv_istore (lv' := [(10, .int (i32 (-1000002))), (9, .int (i32 (1 + y177))), (8, .int (i32 (y176))), (7, .int (i32 (y1))), (0, .ref (ad217 1 0)), (1, .ref (ad217 3 1)), (2, .ref (ad217 3 2)), (3, .ref (ad217 3 3)), (4, .ref (ad217 3 4)), (5, .int (i32 (x))), (6, .int (i32 (y)))]) hx hb dL_acts_189 hl (by decide) rfl (fun ls hl => ?_)
                refine lv_iload hx hb dL_acts_191 (lv_at hl 1 rfl) ?_
                refine lv_aload_n hx hb dL_acts_193 rfl (lv_at hl 6 rfl) ?_
                refine lv_iconst (v := i32 (2)) hx hb dL_acts_194 rfl ?_
                refine lv_iload hx hb dL_acts_195 (lv_at hl 2 rfl) ?_
                refine q_imul hx hb dL_acts_197 ?_
                refine p_iald (k := 3) (r := 2) (n := 10) hx hb hK hP hI.a.2.2 rfl rfl (by decide) (by decide) (by omega) (by omega) dL_acts_198 ?_
                refine q_icmp_le (tgt := 215) hx hb ⟨by omega, by omega⟩ (rS _ _ _) dL_acts_199 (by decide) (fun c_218 => (by exfalso; exact h_B ⟨by omega, by omega, by omega⟩)) (fun c_218 => ?_)
                refine lv_iload hx hb dL_acts_202 (lv_at hl 0 rfl) ?_
                refine q_ldc (z := -1000002) hx hb hown hK t_249 rfl dL_acts_204 ?_
                refine q_icmp_ne (tgt := 213) hx hb ⟨by decide, by decide⟩ ⟨by decide, by decide⟩ dL_acts_206 (by decide) (fun c_219 => (by exfalso; omega)) (fun c_219 => ?_)
                refine lv_iconst (v := i32 (1)) hx hb dL_acts_209 rfl ?_
                refine lv_goto (tgt := 214) hx hb dL_acts_210 (by decide) ?_
                subst hQm
                exact q_zret hx hb hr hlocks hP hS (v := 1) (by decide) (by exact ⟨⟨rfl, ek_ad217⟩, hI, hV⟩) (by show 9 ≤ 2970; omega) (by show 793 ≤ 18559; omega) dL_acts_214
              · -- y215 = 0
                refine lv_iconst (v := i32 (1)) hx hb dL_acts_181 rfl ?_
                refine lv_goto (tgt := 186) hx hb dL_acts_182 (by decide) ?_
                refine W.eq (g2 := F0 m 186 ls (Value.int (i32 (b2 (True))) :: Value.int (i32 (1 + y177)) :: Value.int (i32 (y176)) :: Value.ref (ad 1 0) :: [])) (by simp only [b2_t trivial, b2_f not_false] <;> rfl) ?_
                refine q_callH2 (As := [.ref (ad 1 0), .int (i32 (y176)), .int (i32 (1 + y177)), .int (i32 (b2 (True)))]) (rest := []) hx hb hml hl.1 hown hK hZ hP hS (c_L_loom l g base ad S y176 (1 + y177) True hfl hI.wc ⟨by omega, by omega⟩ ⟨by omega, by omega⟩ hI.hcf hI.hpf) t_442 t_14 t_444 t_443 f_yL_loom ⟨Nat.le_of_ble_eq_true rfl, Nat.le_of_ble_eq_true rfl⟩ rfl rfl (Nat.le_of_ble_eq_true rfl) dL_acts_186 (c2 := 9) (s2 := 793) ⟨by first | rfl | (dsimp only; omega), by first | rfl | (dsimp only; omega)⟩ ⟨by show 9 ≤ 2970; omega, by show 793 ≤ 18559; omega⟩ (fun rr ad' S' H locs hQ hP hS => ?_)
                obtain ⟨⟨hr9, ek9⟩, hQ⟩ := hQ
                have hc9_1 : ceC S y176 := hI.ce.mpr (by omega)
                have hc9_2 : ¬ (1 ≤ (1 + y177) ∧ (1 + y177) ≤ 4 ∧ (1 + y177) ≤ S (4 + y176.toNat) 0 0) := h_B
                have hs9 := (hQ.resolve_right (fun y9 => hc9_2 y9.1.2.1)).2
                subst hr9
                rw [hs9] at hP
                obtain ⟨ad220, had220⟩ : ∃ a9 : Nat → Nat → Nat, a9 = ad' := ⟨_, rfl⟩
                rw [← had220] at ek9 hP
                have ek_ad220 : ∀ x q, x < 4 → ad220 x q = ad x q := fun x q h => (ek9 x q h)
                have el_ad220 : ∀ x q, x < 4 → ad220 x q = ad x q := ek9
                have hl : lv_has ls 13 [(9, .int (i32 (1 + y177))), (8, .int (i32 (y176))), (7, .int (i32 (y1))), (0, .ref (ad220 1 0)), (1, .ref (ad220 3 1)), (2, .ref (ad220 3 2)), (3, .ref (ad220 3 3)), (4, .ref (ad220 3 4)), (5, .int (i32 (x))), (6, .int (i32 (y)))] := by
                  have t9 := hl
                  rw [← el_ad220 1 0 (by decide), ← el_ad220 3 1 (by decide), ← el_ad220 3 2 (by decide), ← el_ad220 3 3 (by decide), ← el_ad220 3 4 (by decide)] at t9
                  exact t9
                skip
                refine q_nm (lv_2 hc9_1 hc9_2) ?_
                refine lv_istore (lv' := [(10, .int (i32 (-1000002))), (9, .int (i32 (1 + y177))), (8, .int (i32 (y176))), (7, .int (i32 (y1))), (0, .ref (ad220 1 0)), (1, .ref (ad220 3 1)), (2, .ref (ad220 3 2)), (3, .ref (ad220 3 3)), (4, .ref (ad220 3 4)), (5, .int (i32 (x))), (6, .int (i32 (y)))]) hx hb dL_acts_189 hl (by decide) rfl (fun ls hl => ?_)
                refine lv_iload hx hb dL_acts_191 (lv_at hl 1 rfl) ?_
                refine lv_aload_n hx hb dL_acts_193 rfl (lv_at hl 6 rfl) ?_
                refine lv_iconst (v := i32 (2)) hx hb dL_acts_194 rfl ?_
                refine lv_iload hx hb dL_acts_195 (lv_at hl 2 rfl) ?_
                refine q_imul hx hb dL_acts_197 ?_
                refine p_iald (k := 3) (r := 2) (n := 10) hx hb hK hP hI.a.2.2 rfl rfl (by decide) (by decide) (by omega) (by omega) dL_acts_198 ?_
                refine q_icmp_le (tgt := 215) hx hb ⟨by omega, by omega⟩ (rS _ _ _) dL_acts_199 (by decide) (fun c_221 => (by exfalso; exact h_B ⟨by omega, by omega, by omega⟩)) (fun c_221 => ?_)
                refine lv_iload hx hb dL_acts_202 (lv_at hl 0 rfl) ?_
                refine q_ldc (z := -1000002) hx hb hown hK t_249 rfl dL_acts_204 ?_
                refine q_icmp_ne (tgt := 213) hx hb ⟨by decide, by decide⟩ ⟨by decide, by decide⟩ dL_acts_206 (by decide) (fun c_222 => (by exfalso; omega)) (fun c_222 => ?_)
                refine lv_iconst (v := i32 (1)) hx hb dL_acts_209 rfl ?_
                refine lv_goto (tgt := 214) hx hb dL_acts_210 (by decide) ?_
                subst hQm
                exact q_zret hx hb hr hlocks hP hS (v := 1) (by decide) (by exact ⟨⟨rfl, ek_ad220⟩, hI, hV⟩) (by show 9 ≤ 2970; omega) (by show 793 ≤ 18559; omega) dL_acts_214
          · -- y1 ≠ 4
            refine lv_aload_n hx hb dL_acts_137 rfl (lv_at hl 2 rfl) ?_
            refine lv_iconst (v := i32 (2)) hx hb dL_acts_138 rfl ?_
            refine p_iald (k := 3) (r := 1) (n := 4) hx hb hK hP hI.a.2.2 rfl rfl (by decide) (by decide) (by omega) (by omega) dL_acts_139 ?_
            refine q_if_ne (tgt := 316) hx hb (rS _ _ _) dL_acts_140 (by decide) (fun c_223 => ?_) (fun c_223 => ?_)
            · -- (S 3 1 2) ≠ 0
              refine lv_iload hx hb dL_acts_316 (lv_at hl 0 rfl) ?_
              refine lv_bipush (v := i32 (11)) hx hb dL_acts_318 (by decide) ?_
              refine q_icmp_ge (tgt := 370) hx hb ⟨by omega, by omega⟩ ⟨by decide, by decide⟩ dL_acts_320 (by decide) (fun c_224 => ?_) (fun c_224 => ?_)
              · -- 11 ≤ y1
                refine lv_iload hx hb dL_acts_370 (lv_at hl 6 rfl) ?_
                refine lv_iconst (v := i32 (4)) hx hb dL_acts_372 rfl ?_
                refine lv_ishr hx hb dL_acts_373 ?_
                obtain ⟨z225, rz225, hz225⟩ := i32_of (i32 (x) >>> (i32 (4) &&& 31))
                rw [hz225]
                refine lv_aload_n hx hb dL_acts_374 rfl (lv_at hl 2 rfl) ?_
                refine lv_iconst (v := i32 (2)) hx hb dL_acts_375 rfl ?_
                refine p_iald (k := 3) (r := 1) (n := 4) hx hb hK hP hI.a.2.2 rfl rfl (by decide) (by decide) (by omega) (by omega) dL_acts_376 ?_
                refine q_callS2 (As := [.int (i32 (z225)), .int (i32 (S 3 1 2))]) (rest := []) hx hb hml hl.1 hown hK hZ hP hS (c_L_low l g base ad S z225 (S 3 1 2) rz225 (by omega)) t_122 (q_callB hK 121 14 123 t_121 t_14 t_123 f_yL_low ⟨Nat.le_of_ble_eq_true rfl, Nat.le_of_ble_eq_true rfl⟩) rfl rfl (Nat.le_of_ble_eq_true rfl) dL_acts_377 (c2 := 0) (s2 := 0) ⟨by first | rfl | (dsimp only; omega), by first | rfl | (dsimp only; omega)⟩ ⟨by show 0 ≤ 2970; omega, by show 0 ≤ 18559; omega⟩ (q_an (fun H locs hP hS => ?_))
                obtain ⟨y226, hy226⟩ : ∃ y99 : Int, loF z225 (S 3 1 2) = y99 := ⟨_, rfl⟩
                have by226 := lo_b z225 (show 1 ≤ (S 3 1 2) by omega)
                rw [hy226] at by226
                refine q_nm hy226 ?_
                refine lv_istore (lv' := [(8, .int (i32 (y226))), (7, .int (i32 (y1))), (0, .ref (ad 1 0)), (1, .ref (ad 3 1)), (2, .ref (ad 3 2)), (3, .ref (ad 3 3)), (4, .ref (ad 3 4)), (5, .int (i32 (x))), (6, .int (i32 (y)))]) hx hb dL_acts_380 hl (by decide) rfl (fun ls hl => ?_)
                refine lv_iload hx hb dL_acts_382 (lv_at hl 1 rfl) ?_
                refine lv_bipush (v := i32 (11)) hx hb dL_acts_384 (by decide) ?_
                refine q_icmp_ne (tgt := 405) hx hb ⟨by omega, by omega⟩ ⟨by decide, by decide⟩ dL_acts_386 (by decide) (fun c_227 => ?_) (fun c_227 => ?_)
                · -- y1 ≠ 11
                  refine lv_aload_n hx hb dL_acts_405 rfl (lv_at hl 2 rfl) ?_
                  refine lv_iload hx hb dL_acts_406 (lv_at hl 0 rfl) ?_
                  refine q_callS2 (As := [.ref (ad 1 0), .int (i32 (y226))]) (rest := []) hx hb hml hl.1 hown hK hZ hP hS (c_L_isThere l g base ad S y226 hfl hI ⟨by omega, by omega⟩) t_264 (q_callB hK 263 14 265 t_263 t_14 t_265 f_yL_isThere ⟨Nat.le_of_ble_eq_true rfl, Nat.le_of_ble_eq_true rfl⟩) rfl rfl (Nat.le_of_ble_eq_true rfl) dL_acts_408 (c2 := 2) (s2 := 12) ⟨by first | rfl | (dsimp only; omega), by first | rfl | (dsimp only; omega)⟩ ⟨by show 2 ≤ 2970; omega, by show 12 ≤ 18559; omega⟩ (q_an (fun H locs hP hS => ?_))
                  refine q_if_neb (tgt := 454) hx hb dL_acts_411 (by decide) (fun c_228 => ?_) (fun c_228 => ?_)
                  · -- peC S y226
                    refine lv_iload hx hb dL_acts_454 (lv_at hl 8 rfl) ?_
                    refine lv_iconst (v := i32 (3)) hx hb dL_acts_456 rfl ?_
                    refine lv_ishr hx hb dL_acts_457 ?_
                    obtain ⟨z229, rz229, hz229⟩ := i32_of (i32 (y) >>> (i32 (3) &&& 31))
                    rw [hz229]
                    refine lv_aload_n hx hb dL_acts_458 rfl (lv_at hl 3 rfl) ?_
                    refine lv_iconst (v := i32 (0)) hx hb dL_acts_459 rfl ?_
                    refine p_iald (k := 3) (r := 1) (n := 4) hx hb hK hP hI.a.2.2 rfl rfl (by decide) (by decide) (by omega) (by omega) dL_acts_460 ?_
                    refine q_callS2 (As := [.int (i32 (z229)), .int (i32 (S 3 1 0))]) (rest := []) hx hb hml hl.1 hown hK hZ hP hS (c_L_low l g base ad S z229 (S 3 1 0) rz229 (by omega)) t_122 (q_callB hK 121 14 123 t_121 t_14 t_123 f_yL_low ⟨Nat.le_of_ble_eq_true rfl, Nat.le_of_ble_eq_true rfl⟩) rfl rfl (Nat.le_of_ble_eq_true rfl) dL_acts_461 (c2 := 2) (s2 := 12) ⟨by first | rfl | (dsimp only; omega), by first | rfl | (dsimp only; omega)⟩ ⟨by show 2 ≤ 2970; omega, by show 12 ≤ 18559; omega⟩ (q_an (fun H locs hP hS => ?_))
                    obtain ⟨y230, hy230⟩ : ∃ y99 : Int, loF z229 (S 3 1 0) = y99 := ⟨_, rfl⟩
                    have by230 := lo_b z229 (show 1 ≤ (S 3 1 0) by omega)
                    rw [hy230] at by230
                    refine q_nm hy230 ?_
                    refine lv_istore (lv' := [(9, .int (i32 (y230))), (8, .int (i32 (y226))), (7, .int (i32 (y1))), (0, .ref (ad 1 0)), (1, .ref (ad 3 1)), (2, .ref (ad 3 2)), (3, .ref (ad 3 3)), (4, .ref (ad 3 4)), (5, .int (i32 (x))), (6, .int (i32 (y)))]) hx hb dL_acts_464 hl (by decide) rfl (fun ls hl => ?_)
                    by_cases h_F : S (10 + Int.toNat y226) 0 1 = S (4 + Int.toNat y230) 0 1 ∧ S (10 + Int.toNat y226) 0 0 = S (4 + Int.toNat y230) 0 0
                    · skip
                      obtain ⟨hd1, hd2, hd3⟩ := vd y230 (by omega) (by omega)
                      obtain ⟨⟨-, hcw1, hcw2⟩, -⟩ := hI.k.2.2 y230 (by omega) (by omega)
                      obtain ⟨-, pw8, ph8, -⟩ := (hI.pp c_228).1
                      have hm0 : 0 ≤ (S 3 2 (2 * y230)) * (S 3 2 ((2 * y230) + 1)) := Int.mul_nonneg (by omega) (by omega)
                      have hm1 : (S 3 2 (2 * y230)) * (S 3 2 ((2 * y230) + 1)) ≤ 240 := mul240 (by omega) (by omega) (by omega) (by omega)
                      refine lv_aload_n hx hb dL_acts_466 rfl (lv_at hl 3 rfl) ?_
                      refine lv_iload hx hb dL_acts_467 (lv_at hl 1 rfl) ?_
                      refine lv_iload hx hb dL_acts_469 (lv_at hl 0 rfl) ?_
                      have lnb := ln_b (S := S) (o := 10 + Int.toNat y226) (k := 4 + Int.toNat y230) (by omega) (by omega) h_F
                      obtain ⟨ln, hln⟩ : ∃ ln : Int, lnC S (10 + Int.toNat y226) (4 + Int.toNat y230) = ln := ⟨_, rfl⟩
                      rw [hln, ← hd1, ← hd3] at lnb
                      refine q_callH2 (As := [.ref (ad 1 0), .int (i32 (y226)), .int (i32 (y230))]) (rest := []) hx hb hml hl.1 hown hK hZ hP hS (c_L_likeness l g base ad S y226 y230 hfl hI.wc ⟨by omega, by omega⟩ ⟨by omega, by omega⟩) t_504 t_14 t_506 t_505 f_yL_likeness ⟨Nat.le_of_ble_eq_true rfl, Nat.le_of_ble_eq_true rfl⟩ rfl rfl (Nat.le_of_ble_eq_true rfl) dL_acts_471 (c2 := 4) (s2 := 24) ⟨by first | rfl | (dsimp only; omega), by first | rfl | (dsimp only; omega)⟩ ⟨by show 4 ≤ 2970; omega, by show 24 ≤ 18559; omega⟩ (q_an (fun H locs hP hS => ?_))
                      refine q_nm (b := ln) ((lv_0 ⟨c_228, hI.ce.mpr (by omega)⟩ trivial trivial).trans hln) ?_
                      refine lv_istore (lv' := [(10, .int (i32 (ln))), (9, .int (i32 (y230))), (8, .int (i32 (y226))), (7, .int (i32 (y1))), (0, .ref (ad 1 0)), (1, .ref (ad 3 1)), (2, .ref (ad 3 2)), (3, .ref (ad 3 3)), (4, .ref (ad 3 4)), (5, .int (i32 (x))), (6, .int (i32 (y)))]) hx hb dL_acts_474 hl (by decide) rfl (fun ls hl => ?_)
                      refine lv_aload_n hx hb dL_acts_476 rfl (lv_at hl 4 rfl) ?_
                      refine lv_iload hx hb dL_acts_477 (lv_at hl 2 rfl) ?_
                      refine lv_iconst (v := i32 (0)) hx hb dL_acts_479 rfl ?_
                      refine q_callH2 (As := [.ref (ad 1 0), .int (i32 (y226)), .int (i32 (0))]) (rest := []) hx hb hml hl.1 hown hK hZ hP hS (c_L_pieceIs l g base ad S y226 ((0 : Int)) hfl hI.wc ⟨by omega, by omega⟩ ⟨by decide, by decide⟩) t_266 t_14 t_268 t_267 f_yL_pieceIs ⟨Nat.le_of_ble_eq_true rfl, Nat.le_of_ble_eq_true rfl⟩ rfl rfl (Nat.le_of_ble_eq_true rfl) dL_acts_480 (c2 := 6) (s2 := 36) ⟨by first | rfl | (dsimp only; omega), by first | rfl | (dsimp only; omega)⟩ ⟨by show 6 ≤ 2970; omega, by show 36 ≤ 18559; omega⟩ (q_an (fun H locs hP hS => ?_))
                      refine q_nm (b := S (10 + Int.toNat y226) 0 0) (((lv_0 c_228 (by decide) trivial).trans (pcC_0 rfl))) ?_
                      refine lv_aload_n hx hb dL_acts_483 rfl (lv_at hl 6 rfl) ?_
                      refine lv_iconst (v := i32 (2)) hx hb dL_acts_484 rfl ?_
                      refine lv_iload hx hb dL_acts_485 (lv_at hl 1 rfl) ?_
                      refine q_imul hx hb dL_acts_487 ?_
                      refine p_iald (k := 3) (r := 2) (n := 10) hx hb hK hP hI.a.2.2 rfl rfl (by decide) (by decide) (by omega) (by omega) dL_acts_488 ?_
                      refine q_icmp_ne (tgt := 514) hx hb (rS _ _ _) (rS _ _ _) dL_acts_489 (by decide) (fun c_231 => (by exfalso; omega)) (fun c_231 => ?_)
                      refine lv_aload_n hx hb dL_acts_492 rfl (lv_at hl 4 rfl) ?_
                      refine lv_iload hx hb dL_acts_493 (lv_at hl 2 rfl) ?_
                      refine lv_iconst (v := i32 (1)) hx hb dL_acts_495 rfl ?_
                      refine q_callH2 (As := [.ref (ad 1 0), .int (i32 (y226)), .int (i32 (1))]) (rest := []) hx hb hml hl.1 hown hK hZ hP hS (c_L_pieceIs l g base ad S y226 ((1 : Int)) hfl hI.wc ⟨by omega, by omega⟩ ⟨by decide, by decide⟩) t_266 t_14 t_268 t_267 f_yL_pieceIs ⟨Nat.le_of_ble_eq_true rfl, Nat.le_of_ble_eq_true rfl⟩ rfl rfl (Nat.le_of_ble_eq_true rfl) dL_acts_496 (c2 := 8) (s2 := 48) ⟨by first | rfl | (dsimp only; omega), by first | rfl | (dsimp only; omega)⟩ ⟨by show 8 ≤ 2970; omega, by show 48 ≤ 18559; omega⟩ (q_an (fun H locs hP hS => ?_))
                      refine q_nm (b := S (10 + Int.toNat y226) 0 1) (((lv_0 c_228 (by decide) trivial).trans (pcC_1 rfl))) ?_
                      refine lv_aload_n hx hb dL_acts_499 rfl (lv_at hl 6 rfl) ?_
                      refine lv_iconst (v := i32 (2)) hx hb dL_acts_500 rfl ?_
                      refine lv_iload hx hb dL_acts_501 (lv_at hl 1 rfl) ?_
                      refine q_imul hx hb dL_acts_503 ?_
                      refine lv_iconst (v := i32 (1)) hx hb dL_acts_504 rfl ?_
                      refine q_iadd hx hb dL_acts_505 ?_
                      refine p_iald (k := 3) (r := 2) (n := 10) hx hb hK hP hI.a.2.2 rfl rfl (by decide) (by decide) (by omega) (by omega) dL_acts_506 ?_
                      refine q_icmp_ne (tgt := 514) hx hb (rS _ _ _) (rS _ _ _) dL_acts_507 (by decide) (fun c_232 => (by exfalso; omega)) (fun c_232 => ?_)
                      refine lv_iconst (v := i32 (1)) hx hb dL_acts_510 rfl ?_
                      refine lv_goto (tgt := 515) hx hb dL_acts_511 (by decide) ?_
                      refine lv_istore (lv' := [(11, .int (i32 (1))), (10, .int (i32 (ln))), (9, .int (i32 (y230))), (8, .int (i32 (y226))), (7, .int (i32 (y1))), (0, .ref (ad 1 0)), (1, .ref (ad 3 1)), (2, .ref (ad 3 2)), (3, .ref (ad 3 3)), (4, .ref (ad 3 4)), (5, .int (i32 (x))), (6, .int (i32 (y)))]) hx hb dL_acts_515 hl (by decide) rfl (fun ls hl => ?_)
                      refine lv_iload hx hb dL_acts_517 (lv_at hl 0 rfl) ?_
                      refine q_if_eq (tgt := 555) hx hb ⟨by decide, by decide⟩ dL_acts_519 (by decide) (fun h => by omega) (fun _ => ?_)
                      refine lv_iload hx hb dL_acts_522 (lv_at hl 1 rfl) ?_
                      refine q_if_lt (tgt := 551) hx hb ⟨by omega, by omega⟩ dL_acts_524 (by decide) (fun c_233 => (by exfalso; omega)) (fun c_233 => ?_)
                      refine lv_iload hx hb dL_acts_527 (lv_at hl 1 rfl) ?_
                      refine lv_aload_n hx hb dL_acts_529 rfl (lv_at hl 7 rfl) ?_
                      refine lv_iconst (v := i32 (2)) hx hb dL_acts_530 rfl ?_
                      refine lv_iload hx hb dL_acts_531 (lv_at hl 2 rfl) ?_
                      refine q_imul hx hb dL_acts_533 ?_
                      refine p_iald (k := 3) (r := 2) (n := 10) hx hb hK hP hI.a.2.2 rfl rfl (by decide) (by decide) (by omega) (by omega) dL_acts_534 ?_
                      refine lv_aload_n hx hb dL_acts_535 rfl (lv_at hl 7 rfl) ?_
                      refine lv_iconst (v := i32 (2)) hx hb dL_acts_536 rfl ?_
                      refine lv_iload hx hb dL_acts_537 (lv_at hl 2 rfl) ?_
                      refine q_imul hx hb dL_acts_539 ?_
                      refine lv_iconst (v := i32 (1)) hx hb dL_acts_540 rfl ?_
                      refine q_iadd hx hb dL_acts_541 ?_
                      refine p_iald (k := 3) (r := 2) (n := 10) hx hb hK hP hI.a.2.2 rfl rfl (by decide) (by decide) (by omega) (by omega) dL_acts_542 ?_
                      refine q_imul hx hb dL_acts_543 ?_
                      refine q_icmp_gt (tgt := 551) hx hb ⟨by omega, by omega⟩ ⟨by omega, by omega⟩ dL_acts_544 (by decide) (fun c_234 => (by exfalso; omega)) (fun c_234 => ?_)
                      refine lv_iconst (v := i32 (1)) hx hb dL_acts_547 rfl ?_
                      refine lv_goto (tgt := 566) hx hb dL_acts_548 (by decide) ?_
                      refine lv_istore (lv' := [(12, .int (i32 (1))), (11, .int (i32 (1))), (10, .int (i32 (ln))), (9, .int (i32 (y230))), (8, .int (i32 (y226))), (7, .int (i32 (y1))), (0, .ref (ad 1 0)), (1, .ref (ad 3 1)), (2, .ref (ad 3 2)), (3, .ref (ad 3 3)), (4, .ref (ad 3 4)), (5, .int (i32 (x))), (6, .int (i32 (y)))]) hx hb dL_acts_566 hl (by decide) rfl (fun ls hl => ?_)
                      refine lv_iload hx hb dL_acts_568 (lv_at hl 0 rfl) ?_
                      refine q_if_eq (tgt := 673) hx hb ⟨by decide, by decide⟩ dL_acts_570 (by decide) (fun h => by omega) (fun _ => ?_)
                      refine lv_iload hx hb dL_acts_573 (lv_at hl 5 rfl) ?_
                      refine lv_bipush (v := i32 (12)) hx hb dL_acts_575 (by decide) ?_
                      refine q_icmp_ne (tgt := 596) hx hb ⟨by omega, by omega⟩ ⟨by decide, by decide⟩ dL_acts_577 (by decide) (fun c_235 => ?_) (fun c_235 => ?_)
                      · -- y1 ≠ 12
                        refine lv_iload hx hb dL_acts_596 (lv_at hl 5 rfl) ?_
                        refine lv_bipush (v := i32 (13)) hx hb dL_acts_598 (by decide) ?_
                        refine q_icmp_ne (tgt := 617) hx hb ⟨by omega, by omega⟩ ⟨by decide, by decide⟩ dL_acts_600 (by decide) (fun c_236 => ?_) (fun c_236 => ?_)
                        · -- y1 ≠ 13
                          refine lv_iload hx hb dL_acts_617 (lv_at hl 5 rfl) ?_
                          refine lv_bipush (v := i32 (14)) hx hb dL_acts_619 (by decide) ?_
                          refine q_icmp_ne (tgt := 645) hx hb ⟨by omega, by omega⟩ ⟨by decide, by decide⟩ dL_acts_621 (by decide) (fun c_237 => ?_) (fun c_237 => ?_)
                          · -- y1 ≠ 14
                            refine lv_aload_n hx hb dL_acts_645 rfl (lv_at hl 6 rfl) ?_
                            refine lv_aload_n hx hb dL_acts_646 rfl (lv_at hl 9 rfl) ?_
                            refine lv_iload hx hb dL_acts_647 (lv_at hl 4 rfl) ?_
                            refine q_callS2 (As := [.ref (ad 1 0), .ref (ad 3 3), .int (i32 (y226))]) (rest := []) hx hb hml hl.1 hown hK hZ hP hS (c_L_isPiece l g base ad S y226 hfl hI c_228 hV.2.2.2 ⟨by omega, by omega⟩) t_329 (q_callB hK 328 14 330 t_328 t_14 t_330 f_yL_isPiece ⟨Nat.le_of_ble_eq_true rfl, Nat.le_of_ble_eq_true rfl⟩) rfl rfl (Nat.le_of_ble_eq_true rfl) dL_acts_649 (c2 := 1468) (s2 := 8808) ⟨by first | rfl | (dsimp only; omega), by first | rfl | (dsimp only; omega)⟩ ⟨by show 1468 ≤ 2970; omega, by show 8808 ≤ 18559; omega⟩ (q_an (fun H locs hP hS => ?_))
                            refine q_if_eq (tgt := 673) hx hb ⟨by decide, by decide⟩ dL_acts_652 (by decide) (fun h => by omega) (fun _ => ?_)
                            refine lv_aload_n hx hb dL_acts_655 rfl (lv_at hl 6 rfl) ?_
                            refine q_callV2 (k := 1) (As := []) (rest := []) hx hb hml hl.1 hown hK hZ hP hS hI.a.1 rfl rfl rfl (c_X3_balances l g base ad S  hI.wc) t_91 t_92 (q_callB hK 90 15 93 t_90 t_15 t_93 f_yX3_balances ⟨Nat.le_of_ble_eq_true rfl, Nat.le_of_ble_eq_true rfl⟩) rfl rfl (Nat.le_of_ble_eq_true rfl) dL_acts_656 (c2 := 1468) (s2 := 8808) ⟨by first | rfl | (dsimp only; omega), by first | rfl | (dsimp only; omega)⟩ ⟨by show 1468 ≤ 2970; omega, by show 8808 ≤ 18559; omega⟩ (q_an (fun H locs hP hS => ?_))
                            generalize eS238 : blS S 20 = S238 at hP
                            have rS238 : ∀ (a1 b1 : Nat) (i1 : Int), rng (S238 a1 b1 i1) := fun a1 b1 i1 => hP.rg a1 b1 i1
                            have ivS238 : IV S238 := by rw [← eS238]; exact IV_bl hI
                            have h3S238 : ∀ (b1 : Nat) (i1 : Int), S238 3 b1 i1 = S 3 b1 i1 := by rw [← eS238]; exact fun b i => blS_o (by omega)
                            have lv9 : LV S238 := by rw [← eS238]; exact LV_k hV hI.k.1.2 (fun b i => blS_o (by omega)) (blS_o (by omega)) (blS_o (by omega)) (blS_o (by omega)) (fun j => blS_o (by omega)) (fun a h1 h2 => ⟨blS_o (by omega), blS_o (by omega)⟩)
                            refine q_if_eqb (tgt := 673) hx hb dL_acts_659 (by decide) (fun c_239 => (by exfalso; exact c_239 hI.b)) (fun c_239 => ?_)
                            refine lv_aload_n hx hb dL_acts_662 rfl (lv_at hl 6 rfl) ?_
                            have gdb := gd_b ivS238
                            refine q_callV2 (k := 1) (As := []) (rest := []) hx hb hml hl.1 hown hK hZ hP hS ivS238.a.1 rfl rfl rfl (c_X3_gold l g base ad S238  ivS238.wc) t_707 t_708 (q_callB hK 706 15 709 t_706 t_15 t_709 f_yX3_gold ⟨Nat.le_of_ble_eq_true rfl, Nat.le_of_ble_eq_true rfl⟩) rfl rfl (Nat.le_of_ble_eq_true rfl) dL_acts_663 (c2 := 1468) (s2 := 8808) ⟨by first | rfl | (dsimp only; omega), by first | rfl | (dsimp only; omega)⟩ ⟨by show 1468 ≤ 2970; omega, by show 8808 ≤ 18559; omega⟩ (q_an (fun H locs hP hS => ?_))
                            refine q_if_lt (tgt := 673) hx hb ⟨by omega, by omega⟩ dL_acts_666 (by decide) (fun c_240 => (by exfalso; omega)) (fun c_240 => ?_)
                            refine lv_iconst (v := i32 (1)) hx hb dL_acts_669 rfl ?_
                            refine lv_goto (tgt := 674) hx hb dL_acts_670 (by decide) ?_
                            subst hQm
                            exact q_zret hx hb hr hlocks hP hS (v := 1) (by decide) (by exact ⟨⟨rfl, (fun _ _ _ => rfl)⟩, ivS238, lv9⟩) (by show 1468 ≤ 2970; omega) (by show 8808 ≤ 18559; omega) dL_acts_674
                          · -- y1 = 14
                            refine lv_aload_n hx hb dL_acts_624 rfl (lv_at hl 6 rfl) ?_
                            refine lv_aload hx hb dL_acts_625 (lv_at hl 10 rfl) ?_
                            refine lv_iload hx hb dL_acts_627 (lv_at hl 4 rfl) ?_
                            refine lv_iload hx hb dL_acts_629 (lv_at hl 11 rfl) ?_
                            refine lv_bipush (v := i32 (9)) hx hb dL_acts_631 (by decide) ?_
                            refine lv_ishr hx hb dL_acts_633 ?_
                            obtain ⟨z241, rz241, hz241⟩ := i32_of (i32 (x) >>> (i32 (9) &&& 31))
                            rw [hz241]
                            refine lv_iload hx hb dL_acts_634 (lv_at hl 12 rfl) ?_
                            refine q_callS2 (As := [.ref (ad 1 0), .ref (ad 3 4), .int (i32 (y226)), .int (i32 (z241)), .int (i32 (y))]) (rest := []) hx hb hml hl.1 hown hK hZ hP hS (c_L_wears l g base ad S y226 z241 y hfl hI hV c_228 ⟨by omega, by omega⟩ rz241 hrn2) t_688 (q_callB hK 687 14 689 t_687 t_14 t_689 f_yL_wears ⟨Nat.le_of_ble_eq_true rfl, Nat.le_of_ble_eq_true rfl⟩) rfl rfl (Nat.le_of_ble_eq_true rfl) dL_acts_636 (c2 := 16) (s2 := 96) ⟨by first | rfl | (dsimp only; omega), by first | rfl | (dsimp only; omega)⟩ ⟨by show 16 ≤ 2970; omega, by show 96 ≤ 18559; omega⟩ (fun rr ad' S' H locs hQ hP hS => ?_)
                            obtain ⟨⟨hr9, ek9⟩, hI9, hV9⟩ := hQ
                            subst hr9
                            obtain ⟨S242, hS242⟩ : ∃ s9 : St, s9 = S' := ⟨_, rfl⟩
                            rw [← hS242] at hI9 hV9 hP
                            obtain ⟨ad243, had243⟩ : ∃ a9 : Nat → Nat → Nat, a9 = ad' := ⟨_, rfl⟩
                            rw [← had243] at ek9 hP
                            have ek_ad243 : ∀ x q, x < 4 → ad243 x q = ad x q := fun x q h => (ek9 x q h)
                            have el_ad243 : ∀ x q, x < 4 → ad243 x q = ad x q := ek9
                            have hl : lv_has ls 13 [(12, .int (i32 (1))), (11, .int (i32 (1))), (10, .int (i32 (ln))), (9, .int (i32 (y230))), (8, .int (i32 (y226))), (7, .int (i32 (y1))), (0, .ref (ad243 1 0)), (1, .ref (ad243 3 1)), (2, .ref (ad243 3 2)), (3, .ref (ad243 3 3)), (4, .ref (ad243 3 4)), (5, .int (i32 (x))), (6, .int (i32 (y)))] := by
                              have t9 := hl
                              rw [← el_ad243 1 0 (by decide), ← el_ad243 3 1 (by decide), ← el_ad243 3 2 (by decide), ← el_ad243 3 3 (by decide), ← el_ad243 3 4 (by decide)] at t9
                              exact t9
                            skip
                            have ivS242 : IV S242 := hI9
                            have lvS242 : LV S242 := hV9
                            have rS242 : ∀ (a1 b1 : Nat) (i1 : Int), rng (S242 a1 b1 i1) := fun a1 b1 i1 => hP.rg a1 b1 i1
                            refine q_if_eq (tgt := 673) hx hb ⟨by decide, by decide⟩ dL_acts_639 (by decide) (fun h => by omega) (fun _ => ?_)
                            refine lv_goto (tgt := 669) hx hb dL_acts_642 (by decide) ?_
                            refine lv_iconst (v := i32 (1)) hx hb dL_acts_669 rfl ?_
                            refine lv_goto (tgt := 674) hx hb dL_acts_670 (by decide) ?_
                            subst hQm
                            exact q_zret hx hb hr hlocks hP hS (v := 1) (by decide) (by exact ⟨⟨rfl, ek_ad243⟩, ivS242, lvS242⟩) (by show 16 ≤ 2970; omega) (by show 96 ≤ 18559; omega) dL_acts_674
                        · -- y1 = 13
                          refine lv_aload_n hx hb dL_acts_603 rfl (lv_at hl 6 rfl) ?_
                          refine lv_iload hx hb dL_acts_604 (lv_at hl 4 rfl) ?_
                          refine lv_iload hx hb dL_acts_606 (lv_at hl 12 rfl) ?_
                          refine q_callS2 (As := [.ref (ad 1 0), .int (i32 (y226)), .int (i32 (y))]) (rest := []) hx hb hml hl.1 hown hK hZ hP hS (c_L_sews l g base ad S y226 y hfl hI hV c_228 ⟨by omega, by omega⟩ hrn2) t_673 (q_callB hK 672 14 674 t_672 t_14 t_674 f_yL_sews ⟨Nat.le_of_ble_eq_true rfl, Nat.le_of_ble_eq_true rfl⟩) rfl rfl (Nat.le_of_ble_eq_true rfl) dL_acts_608 (c2 := 22) (s2 := 132) ⟨by first | rfl | (dsimp only; omega), by first | rfl | (dsimp only; omega)⟩ ⟨by show 22 ≤ 2970; omega, by show 132 ≤ 18559; omega⟩ (fun rr ad' S' H locs hQ hP hS => ?_)
                          obtain ⟨⟨hr9, ek9⟩, hI9, hV9⟩ := hQ
                          subst hr9
                          obtain ⟨S244, hS244⟩ : ∃ s9 : St, s9 = S' := ⟨_, rfl⟩
                          rw [← hS244] at hI9 hV9 hP
                          obtain ⟨ad245, had245⟩ : ∃ a9 : Nat → Nat → Nat, a9 = ad' := ⟨_, rfl⟩
                          rw [← had245] at ek9 hP
                          have ek_ad245 : ∀ x q, x < 4 → ad245 x q = ad x q := fun x q h => (ek9 x q h)
                          have el_ad245 : ∀ x q, x < 4 → ad245 x q = ad x q := ek9
                          have hl : lv_has ls 13 [(12, .int (i32 (1))), (11, .int (i32 (1))), (10, .int (i32 (ln))), (9, .int (i32 (y230))), (8, .int (i32 (y226))), (7, .int (i32 (y1))), (0, .ref (ad245 1 0)), (1, .ref (ad245 3 1)), (2, .ref (ad245 3 2)), (3, .ref (ad245 3 3)), (4, .ref (ad245 3 4)), (5, .int (i32 (x))), (6, .int (i32 (y)))] := by
                            have t9 := hl
                            rw [← el_ad245 1 0 (by decide), ← el_ad245 3 1 (by decide), ← el_ad245 3 2 (by decide), ← el_ad245 3 3 (by decide), ← el_ad245 3 4 (by decide)] at t9
                            exact t9
                          skip
                          have ivS244 : IV S244 := hI9
                          have lvS244 : LV S244 := hV9
                          have rS244 : ∀ (a1 b1 : Nat) (i1 : Int), rng (S244 a1 b1 i1) := fun a1 b1 i1 => hP.rg a1 b1 i1
                          refine q_if_eq (tgt := 673) hx hb ⟨by decide, by decide⟩ dL_acts_611 (by decide) (fun h => by omega) (fun _ => ?_)
                          refine lv_goto (tgt := 669) hx hb dL_acts_614 (by decide) ?_
                          refine lv_iconst (v := i32 (1)) hx hb dL_acts_669 rfl ?_
                          refine lv_goto (tgt := 674) hx hb dL_acts_670 (by decide) ?_
                          subst hQm
                          exact q_zret hx hb hr hlocks hP hS (v := 1) (by decide) (by exact ⟨⟨rfl, ek_ad245⟩, ivS244, lvS244⟩) (by show 22 ≤ 2970; omega) (by show 132 ≤ 18559; omega) dL_acts_674
                      · -- y1 = 12
                        refine lv_aload_n hx hb dL_acts_580 rfl (lv_at hl 6 rfl) ?_
                        refine lv_aload_n hx hb dL_acts_581 rfl (lv_at hl 7 rfl) ?_
                        refine lv_aload_n hx hb dL_acts_582 rfl (lv_at hl 9 rfl) ?_
                        refine lv_iload hx hb dL_acts_583 (lv_at hl 4 rfl) ?_
                        refine lv_iload hx hb dL_acts_585 (lv_at hl 12 rfl) ?_
                        refine q_callS2 (As := [.ref (ad 1 0), .ref (ad 3 1), .ref (ad 3 3), .int (i32 (y226)), .int (i32 (y))]) (rest := []) hx hb hml hl.1 hown hK hZ hP hS (c_L_cuts l g base ad S y226 y hfl hI hV c_228 ⟨by omega, by omega⟩ hrn2) t_655 (q_callB hK 654 14 656 t_654 t_14 t_656 f_yL_cuts ⟨Nat.le_of_ble_eq_true rfl, Nat.le_of_ble_eq_true rfl⟩) rfl rfl (Nat.le_of_ble_eq_true rfl) dL_acts_587 (c2 := 2970) (s2 := 18559) ⟨by first | rfl | (dsimp only; omega), by first | rfl | (dsimp only; omega)⟩ ⟨by show 2970 ≤ 2970; omega, by show 18559 ≤ 18559; omega⟩ (fun rr ad' S' H locs hQ hP hS => ?_)
                        obtain ⟨⟨hr9, ek9⟩, hI9, hV9⟩ := hQ
                        subst hr9
                        obtain ⟨S246, hS246⟩ : ∃ s9 : St, s9 = S' := ⟨_, rfl⟩
                        rw [← hS246] at hI9 hV9 hP
                        obtain ⟨ad247, had247⟩ : ∃ a9 : Nat → Nat → Nat, a9 = ad' := ⟨_, rfl⟩
                        rw [← had247] at ek9 hP
                        have ek_ad247 : ∀ x q, x < 4 → ad247 x q = ad x q := fun x q h => (ek9 x q h)
                        have el_ad247 : ∀ x q, x < 4 → ad247 x q = ad x q := ek9
                        have hl : lv_has ls 13 [(12, .int (i32 (1))), (11, .int (i32 (1))), (10, .int (i32 (ln))), (9, .int (i32 (y230))), (8, .int (i32 (y226))), (7, .int (i32 (y1))), (0, .ref (ad247 1 0)), (1, .ref (ad247 3 1)), (2, .ref (ad247 3 2)), (3, .ref (ad247 3 3)), (4, .ref (ad247 3 4)), (5, .int (i32 (x))), (6, .int (i32 (y)))] := by
                          have t9 := hl
                          rw [← el_ad247 1 0 (by decide), ← el_ad247 3 1 (by decide), ← el_ad247 3 2 (by decide), ← el_ad247 3 3 (by decide), ← el_ad247 3 4 (by decide)] at t9
                          exact t9
                        skip
                        have ivS246 : IV S246 := hI9
                        have lvS246 : LV S246 := hV9
                        have rS246 : ∀ (a1 b1 : Nat) (i1 : Int), rng (S246 a1 b1 i1) := fun a1 b1 i1 => hP.rg a1 b1 i1
                        refine q_if_eq (tgt := 673) hx hb ⟨by decide, by decide⟩ dL_acts_590 (by decide) (fun h => by omega) (fun _ => ?_)
                        refine lv_goto (tgt := 669) hx hb dL_acts_593 (by decide) ?_
                        refine lv_iconst (v := i32 (1)) hx hb dL_acts_669 rfl ?_
                        refine lv_goto (tgt := 674) hx hb dL_acts_670 (by decide) ?_
                        subst hQm
                        exact q_zret hx hb hr hlocks hP hS (v := 1) (by decide) (by exact ⟨⟨rfl, ek_ad247⟩, ivS246, lvS246⟩) (by show 2970 ≤ 2970; omega) (by show 18559 ≤ 18559; omega) dL_acts_674
                    · skip
                      obtain ⟨hd1, hd2, hd3⟩ := vd y230 (by omega) (by omega)
                      obtain ⟨⟨-, hcw1, hcw2⟩, -⟩ := hI.k.2.2 y230 (by omega) (by omega)
                      obtain ⟨-, pw8, ph8, -⟩ := (hI.pp c_228).1
                      have hm0 : 0 ≤ (S 3 2 (2 * y230)) * (S 3 2 ((2 * y230) + 1)) := Int.mul_nonneg (by omega) (by omega)
                      have hm1 : (S 3 2 (2 * y230)) * (S 3 2 ((2 * y230) + 1)) ≤ 240 := mul240 (by omega) (by omega) (by omega) (by omega)
                      refine lv_aload_n hx hb dL_acts_466 rfl (lv_at hl 3 rfl) ?_
                      refine lv_iload hx hb dL_acts_467 (lv_at hl 1 rfl) ?_
                      refine lv_iload hx hb dL_acts_469 (lv_at hl 0 rfl) ?_
                      refine q_callH2 (As := [.ref (ad 1 0), .int (i32 (y226)), .int (i32 (y230))]) (rest := []) hx hb hml hl.1 hown hK hZ hP hS (c_L_likeness l g base ad S y226 y230 hfl hI.wc ⟨by omega, by omega⟩ ⟨by omega, by omega⟩) t_504 t_14 t_506 t_505 f_yL_likeness ⟨Nat.le_of_ble_eq_true rfl, Nat.le_of_ble_eq_true rfl⟩ rfl rfl (Nat.le_of_ble_eq_true rfl) dL_acts_471 (c2 := 4) (s2 := 24) ⟨by first | rfl | (dsimp only; omega), by first | rfl | (dsimp only; omega)⟩ ⟨by show 4 ≤ 2970; omega, by show 24 ≤ 18559; omega⟩ (q_an (fun H locs hP hS => ?_))
                      refine q_nm (b := -1) ((lv_0 ⟨c_228, hI.ce.mpr (by omega)⟩ trivial trivial).trans (cif_f h_F)) ?_
                      refine lv_istore (lv' := [(10, .int (i32 (-1))), (9, .int (i32 (y230))), (8, .int (i32 (y226))), (7, .int (i32 (y1))), (0, .ref (ad 1 0)), (1, .ref (ad 3 1)), (2, .ref (ad 3 2)), (3, .ref (ad 3 3)), (4, .ref (ad 3 4)), (5, .int (i32 (x))), (6, .int (i32 (y)))]) hx hb dL_acts_474 hl (by decide) rfl (fun ls hl => ?_)
                      refine lv_aload_n hx hb dL_acts_476 rfl (lv_at hl 4 rfl) ?_
                      refine lv_iload hx hb dL_acts_477 (lv_at hl 2 rfl) ?_
                      refine lv_iconst (v := i32 (0)) hx hb dL_acts_479 rfl ?_
                      refine q_callH2 (As := [.ref (ad 1 0), .int (i32 (y226)), .int (i32 (0))]) (rest := []) hx hb hml hl.1 hown hK hZ hP hS (c_L_pieceIs l g base ad S y226 ((0 : Int)) hfl hI.wc ⟨by omega, by omega⟩ ⟨by decide, by decide⟩) t_266 t_14 t_268 t_267 f_yL_pieceIs ⟨Nat.le_of_ble_eq_true rfl, Nat.le_of_ble_eq_true rfl⟩ rfl rfl (Nat.le_of_ble_eq_true rfl) dL_acts_480 (c2 := 6) (s2 := 36) ⟨by first | rfl | (dsimp only; omega), by first | rfl | (dsimp only; omega)⟩ ⟨by show 6 ≤ 2970; omega, by show 36 ≤ 18559; omega⟩ (q_an (fun H locs hP hS => ?_))
                      refine q_nm (b := S (10 + Int.toNat y226) 0 0) (((lv_0 c_228 (by decide) trivial).trans (pcC_0 rfl))) ?_
                      refine lv_aload_n hx hb dL_acts_483 rfl (lv_at hl 6 rfl) ?_
                      refine lv_iconst (v := i32 (2)) hx hb dL_acts_484 rfl ?_
                      refine lv_iload hx hb dL_acts_485 (lv_at hl 1 rfl) ?_
                      refine q_imul hx hb dL_acts_487 ?_
                      refine p_iald (k := 3) (r := 2) (n := 10) hx hb hK hP hI.a.2.2 rfl rfl (by decide) (by decide) (by omega) (by omega) dL_acts_488 ?_
                      refine q_icmp_ne (tgt := 514) hx hb (rS _ _ _) (rS _ _ _) dL_acts_489 (by decide) (fun c_248 => ?_) (fun c_248 => ?_)
                      · -- (S (10 + Int.toNat y226) 0 0) ≠ (S 3 2 (2 * y230))
                        refine lv_iconst (v := i32 (0)) hx hb dL_acts_514 rfl ?_
                        refine lv_istore (lv' := [(11, .int (i32 (0))), (10, .int (i32 (-1))), (9, .int (i32 (y230))), (8, .int (i32 (y226))), (7, .int (i32 (y1))), (0, .ref (ad 1 0)), (1, .ref (ad 3 1)), (2, .ref (ad 3 2)), (3, .ref (ad 3 3)), (4, .ref (ad 3 4)), (5, .int (i32 (x))), (6, .int (i32 (y)))]) hx hb dL_acts_515 hl (by decide) rfl (fun ls hl => ?_)
                        refine lv_iload hx hb dL_acts_517 (lv_at hl 0 rfl) ?_
                        refine q_if_eq (tgt := 555) hx hb ⟨by decide, by decide⟩ dL_acts_519 (by decide) (fun _ => ?_) (fun h => by omega)
                        refine lv_iload hx hb dL_acts_555 (lv_at hl 1 rfl) ?_
                        refine lv_iconst (v := i32 (-1)) hx hb dL_acts_557 rfl ?_
                        refine q_icmp_ne (tgt := 565) hx hb ⟨by decide, by decide⟩ ⟨by decide, by decide⟩ dL_acts_558 (by decide) (fun c_249 => (by exfalso; omega)) (fun c_249 => ?_)
                        refine lv_iconst (v := i32 (1)) hx hb dL_acts_561 rfl ?_
                        refine lv_goto (tgt := 566) hx hb dL_acts_562 (by decide) ?_
                        refine lv_istore (lv' := [(12, .int (i32 (1))), (11, .int (i32 (0))), (10, .int (i32 (-1))), (9, .int (i32 (y230))), (8, .int (i32 (y226))), (7, .int (i32 (y1))), (0, .ref (ad 1 0)), (1, .ref (ad 3 1)), (2, .ref (ad 3 2)), (3, .ref (ad 3 3)), (4, .ref (ad 3 4)), (5, .int (i32 (x))), (6, .int (i32 (y)))]) hx hb dL_acts_566 hl (by decide) rfl (fun ls hl => ?_)
                        refine lv_iload hx hb dL_acts_568 (lv_at hl 0 rfl) ?_
                        refine q_if_eq (tgt := 673) hx hb ⟨by decide, by decide⟩ dL_acts_570 (by decide) (fun h => by omega) (fun _ => ?_)
                        refine lv_iload hx hb dL_acts_573 (lv_at hl 5 rfl) ?_
                        refine lv_bipush (v := i32 (12)) hx hb dL_acts_575 (by decide) ?_
                        refine q_icmp_ne (tgt := 596) hx hb ⟨by omega, by omega⟩ ⟨by decide, by decide⟩ dL_acts_577 (by decide) (fun c_250 => ?_) (fun c_250 => ?_)
                        · -- y1 ≠ 12
                          refine lv_iload hx hb dL_acts_596 (lv_at hl 5 rfl) ?_
                          refine lv_bipush (v := i32 (13)) hx hb dL_acts_598 (by decide) ?_
                          refine q_icmp_ne (tgt := 617) hx hb ⟨by omega, by omega⟩ ⟨by decide, by decide⟩ dL_acts_600 (by decide) (fun c_251 => ?_) (fun c_251 => ?_)
                          · -- y1 ≠ 13
                            refine lv_iload hx hb dL_acts_617 (lv_at hl 5 rfl) ?_
                            refine lv_bipush (v := i32 (14)) hx hb dL_acts_619 (by decide) ?_
                            refine q_icmp_ne (tgt := 645) hx hb ⟨by omega, by omega⟩ ⟨by decide, by decide⟩ dL_acts_621 (by decide) (fun c_252 => ?_) (fun c_252 => ?_)
                            · -- y1 ≠ 14
                              refine lv_aload_n hx hb dL_acts_645 rfl (lv_at hl 6 rfl) ?_
                              refine lv_aload_n hx hb dL_acts_646 rfl (lv_at hl 9 rfl) ?_
                              refine lv_iload hx hb dL_acts_647 (lv_at hl 4 rfl) ?_
                              refine q_callS2 (As := [.ref (ad 1 0), .ref (ad 3 3), .int (i32 (y226))]) (rest := []) hx hb hml hl.1 hown hK hZ hP hS (c_L_isPiece l g base ad S y226 hfl hI c_228 hV.2.2.2 ⟨by omega, by omega⟩) t_329 (q_callB hK 328 14 330 t_328 t_14 t_330 f_yL_isPiece ⟨Nat.le_of_ble_eq_true rfl, Nat.le_of_ble_eq_true rfl⟩) rfl rfl (Nat.le_of_ble_eq_true rfl) dL_acts_649 (c2 := 1466) (s2 := 8796) ⟨by first | rfl | (dsimp only; omega), by first | rfl | (dsimp only; omega)⟩ ⟨by show 1466 ≤ 2970; omega, by show 8796 ≤ 18559; omega⟩ (q_an (fun H locs hP hS => ?_))
                              refine q_if_eq (tgt := 673) hx hb ⟨by decide, by decide⟩ dL_acts_652 (by decide) (fun h => by omega) (fun _ => ?_)
                              refine lv_aload_n hx hb dL_acts_655 rfl (lv_at hl 6 rfl) ?_
                              refine q_callV2 (k := 1) (As := []) (rest := []) hx hb hml hl.1 hown hK hZ hP hS hI.a.1 rfl rfl rfl (c_X3_balances l g base ad S  hI.wc) t_91 t_92 (q_callB hK 90 15 93 t_90 t_15 t_93 f_yX3_balances ⟨Nat.le_of_ble_eq_true rfl, Nat.le_of_ble_eq_true rfl⟩) rfl rfl (Nat.le_of_ble_eq_true rfl) dL_acts_656 (c2 := 1466) (s2 := 8796) ⟨by first | rfl | (dsimp only; omega), by first | rfl | (dsimp only; omega)⟩ ⟨by show 1466 ≤ 2970; omega, by show 8796 ≤ 18559; omega⟩ (q_an (fun H locs hP hS => ?_))
                              generalize eS253 : blS S 20 = S253 at hP
                              have rS253 : ∀ (a1 b1 : Nat) (i1 : Int), rng (S253 a1 b1 i1) := fun a1 b1 i1 => hP.rg a1 b1 i1
                              have ivS253 : IV S253 := by rw [← eS253]; exact IV_bl hI
                              have h3S253 : ∀ (b1 : Nat) (i1 : Int), S253 3 b1 i1 = S 3 b1 i1 := by rw [← eS253]; exact fun b i => blS_o (by omega)
                              have lv9 : LV S253 := by rw [← eS253]; exact LV_k hV hI.k.1.2 (fun b i => blS_o (by omega)) (blS_o (by omega)) (blS_o (by omega)) (blS_o (by omega)) (fun j => blS_o (by omega)) (fun a h1 h2 => ⟨blS_o (by omega), blS_o (by omega)⟩)
                              refine q_if_eqb (tgt := 673) hx hb dL_acts_659 (by decide) (fun c_254 => (by exfalso; exact c_254 hI.b)) (fun c_254 => ?_)
                              refine lv_aload_n hx hb dL_acts_662 rfl (lv_at hl 6 rfl) ?_
                              have gdb := gd_b ivS253
                              refine q_callV2 (k := 1) (As := []) (rest := []) hx hb hml hl.1 hown hK hZ hP hS ivS253.a.1 rfl rfl rfl (c_X3_gold l g base ad S253  ivS253.wc) t_707 t_708 (q_callB hK 706 15 709 t_706 t_15 t_709 f_yX3_gold ⟨Nat.le_of_ble_eq_true rfl, Nat.le_of_ble_eq_true rfl⟩) rfl rfl (Nat.le_of_ble_eq_true rfl) dL_acts_663 (c2 := 1466) (s2 := 8796) ⟨by first | rfl | (dsimp only; omega), by first | rfl | (dsimp only; omega)⟩ ⟨by show 1466 ≤ 2970; omega, by show 8796 ≤ 18559; omega⟩ (q_an (fun H locs hP hS => ?_))
                              refine q_if_lt (tgt := 673) hx hb ⟨by omega, by omega⟩ dL_acts_666 (by decide) (fun c_255 => (by exfalso; omega)) (fun c_255 => ?_)
                              refine lv_iconst (v := i32 (1)) hx hb dL_acts_669 rfl ?_
                              refine lv_goto (tgt := 674) hx hb dL_acts_670 (by decide) ?_
                              subst hQm
                              exact q_zret hx hb hr hlocks hP hS (v := 1) (by decide) (by exact ⟨⟨rfl, (fun _ _ _ => rfl)⟩, ivS253, lv9⟩) (by show 1466 ≤ 2970; omega) (by show 8796 ≤ 18559; omega) dL_acts_674
                            · -- y1 = 14
                              refine lv_aload_n hx hb dL_acts_624 rfl (lv_at hl 6 rfl) ?_
                              refine lv_aload hx hb dL_acts_625 (lv_at hl 10 rfl) ?_
                              refine lv_iload hx hb dL_acts_627 (lv_at hl 4 rfl) ?_
                              refine lv_iload hx hb dL_acts_629 (lv_at hl 11 rfl) ?_
                              refine lv_bipush (v := i32 (9)) hx hb dL_acts_631 (by decide) ?_
                              refine lv_ishr hx hb dL_acts_633 ?_
                              obtain ⟨z256, rz256, hz256⟩ := i32_of (i32 (x) >>> (i32 (9) &&& 31))
                              rw [hz256]
                              refine lv_iload hx hb dL_acts_634 (lv_at hl 12 rfl) ?_
                              refine q_callS2 (As := [.ref (ad 1 0), .ref (ad 3 4), .int (i32 (y226)), .int (i32 (z256)), .int (i32 (y))]) (rest := []) hx hb hml hl.1 hown hK hZ hP hS (c_L_wears l g base ad S y226 z256 y hfl hI hV c_228 ⟨by omega, by omega⟩ rz256 hrn2) t_688 (q_callB hK 687 14 689 t_687 t_14 t_689 f_yL_wears ⟨Nat.le_of_ble_eq_true rfl, Nat.le_of_ble_eq_true rfl⟩) rfl rfl (Nat.le_of_ble_eq_true rfl) dL_acts_636 (c2 := 14) (s2 := 84) ⟨by first | rfl | (dsimp only; omega), by first | rfl | (dsimp only; omega)⟩ ⟨by show 14 ≤ 2970; omega, by show 84 ≤ 18559; omega⟩ (fun rr ad' S' H locs hQ hP hS => ?_)
                              obtain ⟨⟨hr9, ek9⟩, hI9, hV9⟩ := hQ
                              subst hr9
                              obtain ⟨S257, hS257⟩ : ∃ s9 : St, s9 = S' := ⟨_, rfl⟩
                              rw [← hS257] at hI9 hV9 hP
                              obtain ⟨ad258, had258⟩ : ∃ a9 : Nat → Nat → Nat, a9 = ad' := ⟨_, rfl⟩
                              rw [← had258] at ek9 hP
                              have ek_ad258 : ∀ x q, x < 4 → ad258 x q = ad x q := fun x q h => (ek9 x q h)
                              have el_ad258 : ∀ x q, x < 4 → ad258 x q = ad x q := ek9
                              have hl : lv_has ls 13 [(12, .int (i32 (1))), (11, .int (i32 (0))), (10, .int (i32 (-1))), (9, .int (i32 (y230))), (8, .int (i32 (y226))), (7, .int (i32 (y1))), (0, .ref (ad258 1 0)), (1, .ref (ad258 3 1)), (2, .ref (ad258 3 2)), (3, .ref (ad258 3 3)), (4, .ref (ad258 3 4)), (5, .int (i32 (x))), (6, .int (i32 (y)))] := by
                                have t9 := hl
                                rw [← el_ad258 1 0 (by decide), ← el_ad258 3 1 (by decide), ← el_ad258 3 2 (by decide), ← el_ad258 3 3 (by decide), ← el_ad258 3 4 (by decide)] at t9
                                exact t9
                              skip
                              have ivS257 : IV S257 := hI9
                              have lvS257 : LV S257 := hV9
                              have rS257 : ∀ (a1 b1 : Nat) (i1 : Int), rng (S257 a1 b1 i1) := fun a1 b1 i1 => hP.rg a1 b1 i1
                              refine q_if_eq (tgt := 673) hx hb ⟨by decide, by decide⟩ dL_acts_639 (by decide) (fun h => by omega) (fun _ => ?_)
                              refine lv_goto (tgt := 669) hx hb dL_acts_642 (by decide) ?_
                              refine lv_iconst (v := i32 (1)) hx hb dL_acts_669 rfl ?_
                              refine lv_goto (tgt := 674) hx hb dL_acts_670 (by decide) ?_
                              subst hQm
                              exact q_zret hx hb hr hlocks hP hS (v := 1) (by decide) (by exact ⟨⟨rfl, ek_ad258⟩, ivS257, lvS257⟩) (by show 14 ≤ 2970; omega) (by show 84 ≤ 18559; omega) dL_acts_674
                          · -- y1 = 13
                            refine lv_aload_n hx hb dL_acts_603 rfl (lv_at hl 6 rfl) ?_
                            refine lv_iload hx hb dL_acts_604 (lv_at hl 4 rfl) ?_
                            refine lv_iload hx hb dL_acts_606 (lv_at hl 12 rfl) ?_
                            refine q_callS2 (As := [.ref (ad 1 0), .int (i32 (y226)), .int (i32 (y))]) (rest := []) hx hb hml hl.1 hown hK hZ hP hS (c_L_sews l g base ad S y226 y hfl hI hV c_228 ⟨by omega, by omega⟩ hrn2) t_673 (q_callB hK 672 14 674 t_672 t_14 t_674 f_yL_sews ⟨Nat.le_of_ble_eq_true rfl, Nat.le_of_ble_eq_true rfl⟩) rfl rfl (Nat.le_of_ble_eq_true rfl) dL_acts_608 (c2 := 20) (s2 := 120) ⟨by first | rfl | (dsimp only; omega), by first | rfl | (dsimp only; omega)⟩ ⟨by show 20 ≤ 2970; omega, by show 120 ≤ 18559; omega⟩ (fun rr ad' S' H locs hQ hP hS => ?_)
                            obtain ⟨⟨hr9, ek9⟩, hI9, hV9⟩ := hQ
                            subst hr9
                            obtain ⟨S259, hS259⟩ : ∃ s9 : St, s9 = S' := ⟨_, rfl⟩
                            rw [← hS259] at hI9 hV9 hP
                            obtain ⟨ad260, had260⟩ : ∃ a9 : Nat → Nat → Nat, a9 = ad' := ⟨_, rfl⟩
                            rw [← had260] at ek9 hP
                            have ek_ad260 : ∀ x q, x < 4 → ad260 x q = ad x q := fun x q h => (ek9 x q h)
                            have el_ad260 : ∀ x q, x < 4 → ad260 x q = ad x q := ek9
                            have hl : lv_has ls 13 [(12, .int (i32 (1))), (11, .int (i32 (0))), (10, .int (i32 (-1))), (9, .int (i32 (y230))), (8, .int (i32 (y226))), (7, .int (i32 (y1))), (0, .ref (ad260 1 0)), (1, .ref (ad260 3 1)), (2, .ref (ad260 3 2)), (3, .ref (ad260 3 3)), (4, .ref (ad260 3 4)), (5, .int (i32 (x))), (6, .int (i32 (y)))] := by
                              have t9 := hl
                              rw [← el_ad260 1 0 (by decide), ← el_ad260 3 1 (by decide), ← el_ad260 3 2 (by decide), ← el_ad260 3 3 (by decide), ← el_ad260 3 4 (by decide)] at t9
                              exact t9
                            skip
                            have ivS259 : IV S259 := hI9
                            have lvS259 : LV S259 := hV9
                            have rS259 : ∀ (a1 b1 : Nat) (i1 : Int), rng (S259 a1 b1 i1) := fun a1 b1 i1 => hP.rg a1 b1 i1
                            refine q_if_eq (tgt := 673) hx hb ⟨by decide, by decide⟩ dL_acts_611 (by decide) (fun h => by omega) (fun _ => ?_)
                            refine lv_goto (tgt := 669) hx hb dL_acts_614 (by decide) ?_
                            refine lv_iconst (v := i32 (1)) hx hb dL_acts_669 rfl ?_
                            refine lv_goto (tgt := 674) hx hb dL_acts_670 (by decide) ?_
                            subst hQm
                            exact q_zret hx hb hr hlocks hP hS (v := 1) (by decide) (by exact ⟨⟨rfl, ek_ad260⟩, ivS259, lvS259⟩) (by show 20 ≤ 2970; omega) (by show 120 ≤ 18559; omega) dL_acts_674
                        · -- y1 = 12
                          refine lv_aload_n hx hb dL_acts_580 rfl (lv_at hl 6 rfl) ?_
                          refine lv_aload_n hx hb dL_acts_581 rfl (lv_at hl 7 rfl) ?_
                          refine lv_aload_n hx hb dL_acts_582 rfl (lv_at hl 9 rfl) ?_
                          refine lv_iload hx hb dL_acts_583 (lv_at hl 4 rfl) ?_
                          refine lv_iload hx hb dL_acts_585 (lv_at hl 12 rfl) ?_
                          refine q_callS2 (As := [.ref (ad 1 0), .ref (ad 3 1), .ref (ad 3 3), .int (i32 (y226)), .int (i32 (y))]) (rest := []) hx hb hml hl.1 hown hK hZ hP hS (c_L_cuts l g base ad S y226 y hfl hI hV c_228 ⟨by omega, by omega⟩ hrn2) t_655 (q_callB hK 654 14 656 t_654 t_14 t_656 f_yL_cuts ⟨Nat.le_of_ble_eq_true rfl, Nat.le_of_ble_eq_true rfl⟩) rfl rfl (Nat.le_of_ble_eq_true rfl) dL_acts_587 (c2 := 2968) (s2 := 18547) ⟨by first | rfl | (dsimp only; omega), by first | rfl | (dsimp only; omega)⟩ ⟨by show 2968 ≤ 2970; omega, by show 18547 ≤ 18559; omega⟩ (fun rr ad' S' H locs hQ hP hS => ?_)
                          obtain ⟨⟨hr9, ek9⟩, hI9, hV9⟩ := hQ
                          subst hr9
                          obtain ⟨S261, hS261⟩ : ∃ s9 : St, s9 = S' := ⟨_, rfl⟩
                          rw [← hS261] at hI9 hV9 hP
                          obtain ⟨ad262, had262⟩ : ∃ a9 : Nat → Nat → Nat, a9 = ad' := ⟨_, rfl⟩
                          rw [← had262] at ek9 hP
                          have ek_ad262 : ∀ x q, x < 4 → ad262 x q = ad x q := fun x q h => (ek9 x q h)
                          have el_ad262 : ∀ x q, x < 4 → ad262 x q = ad x q := ek9
                          have hl : lv_has ls 13 [(12, .int (i32 (1))), (11, .int (i32 (0))), (10, .int (i32 (-1))), (9, .int (i32 (y230))), (8, .int (i32 (y226))), (7, .int (i32 (y1))), (0, .ref (ad262 1 0)), (1, .ref (ad262 3 1)), (2, .ref (ad262 3 2)), (3, .ref (ad262 3 3)), (4, .ref (ad262 3 4)), (5, .int (i32 (x))), (6, .int (i32 (y)))] := by
                            have t9 := hl
                            rw [← el_ad262 1 0 (by decide), ← el_ad262 3 1 (by decide), ← el_ad262 3 2 (by decide), ← el_ad262 3 3 (by decide), ← el_ad262 3 4 (by decide)] at t9
                            exact t9
                          skip
                          have ivS261 : IV S261 := hI9
                          have lvS261 : LV S261 := hV9
                          have rS261 : ∀ (a1 b1 : Nat) (i1 : Int), rng (S261 a1 b1 i1) := fun a1 b1 i1 => hP.rg a1 b1 i1
                          refine q_if_eq (tgt := 673) hx hb ⟨by decide, by decide⟩ dL_acts_590 (by decide) (fun h => by omega) (fun _ => ?_)
                          refine lv_goto (tgt := 669) hx hb dL_acts_593 (by decide) ?_
                          refine lv_iconst (v := i32 (1)) hx hb dL_acts_669 rfl ?_
                          refine lv_goto (tgt := 674) hx hb dL_acts_670 (by decide) ?_
                          subst hQm
                          exact q_zret hx hb hr hlocks hP hS (v := 1) (by decide) (by exact ⟨⟨rfl, ek_ad262⟩, ivS261, lvS261⟩) (by show 2968 ≤ 2970; omega) (by show 18547 ≤ 18559; omega) dL_acts_674
                      · -- (S (10 + Int.toNat y226) 0 0) = (S 3 2 (2 * y230))
                        refine lv_aload_n hx hb dL_acts_492 rfl (lv_at hl 4 rfl) ?_
                        refine lv_iload hx hb dL_acts_493 (lv_at hl 2 rfl) ?_
                        refine lv_iconst (v := i32 (1)) hx hb dL_acts_495 rfl ?_
                        refine q_callH2 (As := [.ref (ad 1 0), .int (i32 (y226)), .int (i32 (1))]) (rest := []) hx hb hml hl.1 hown hK hZ hP hS (c_L_pieceIs l g base ad S y226 ((1 : Int)) hfl hI.wc ⟨by omega, by omega⟩ ⟨by decide, by decide⟩) t_266 t_14 t_268 t_267 f_yL_pieceIs ⟨Nat.le_of_ble_eq_true rfl, Nat.le_of_ble_eq_true rfl⟩ rfl rfl (Nat.le_of_ble_eq_true rfl) dL_acts_496 (c2 := 8) (s2 := 48) ⟨by first | rfl | (dsimp only; omega), by first | rfl | (dsimp only; omega)⟩ ⟨by show 8 ≤ 2970; omega, by show 48 ≤ 18559; omega⟩ (q_an (fun H locs hP hS => ?_))
                        refine q_nm (b := S (10 + Int.toNat y226) 0 1) (((lv_0 c_228 (by decide) trivial).trans (pcC_1 rfl))) ?_
                        refine lv_aload_n hx hb dL_acts_499 rfl (lv_at hl 6 rfl) ?_
                        refine lv_iconst (v := i32 (2)) hx hb dL_acts_500 rfl ?_
                        refine lv_iload hx hb dL_acts_501 (lv_at hl 1 rfl) ?_
                        refine q_imul hx hb dL_acts_503 ?_
                        refine lv_iconst (v := i32 (1)) hx hb dL_acts_504 rfl ?_
                        refine q_iadd hx hb dL_acts_505 ?_
                        refine p_iald (k := 3) (r := 2) (n := 10) hx hb hK hP hI.a.2.2 rfl rfl (by decide) (by decide) (by omega) (by omega) dL_acts_506 ?_
                        refine q_icmp_ne (tgt := 514) hx hb (rS _ _ _) (rS _ _ _) dL_acts_507 (by decide) (fun c_263 => ?_) (fun c_263 => (by exfalso; exact h_F ⟨by omega, by omega⟩))
                        refine lv_iconst (v := i32 (0)) hx hb dL_acts_514 rfl ?_
                        refine lv_istore (lv' := [(11, .int (i32 (0))), (10, .int (i32 (-1))), (9, .int (i32 (y230))), (8, .int (i32 (y226))), (7, .int (i32 (y1))), (0, .ref (ad 1 0)), (1, .ref (ad 3 1)), (2, .ref (ad 3 2)), (3, .ref (ad 3 3)), (4, .ref (ad 3 4)), (5, .int (i32 (x))), (6, .int (i32 (y)))]) hx hb dL_acts_515 hl (by decide) rfl (fun ls hl => ?_)
                        refine lv_iload hx hb dL_acts_517 (lv_at hl 0 rfl) ?_
                        refine q_if_eq (tgt := 555) hx hb ⟨by decide, by decide⟩ dL_acts_519 (by decide) (fun _ => ?_) (fun h => by omega)
                        refine lv_iload hx hb dL_acts_555 (lv_at hl 1 rfl) ?_
                        refine lv_iconst (v := i32 (-1)) hx hb dL_acts_557 rfl ?_
                        refine q_icmp_ne (tgt := 565) hx hb ⟨by decide, by decide⟩ ⟨by decide, by decide⟩ dL_acts_558 (by decide) (fun c_264 => (by exfalso; omega)) (fun c_264 => ?_)
                        refine lv_iconst (v := i32 (1)) hx hb dL_acts_561 rfl ?_
                        refine lv_goto (tgt := 566) hx hb dL_acts_562 (by decide) ?_
                        refine lv_istore (lv' := [(12, .int (i32 (1))), (11, .int (i32 (0))), (10, .int (i32 (-1))), (9, .int (i32 (y230))), (8, .int (i32 (y226))), (7, .int (i32 (y1))), (0, .ref (ad 1 0)), (1, .ref (ad 3 1)), (2, .ref (ad 3 2)), (3, .ref (ad 3 3)), (4, .ref (ad 3 4)), (5, .int (i32 (x))), (6, .int (i32 (y)))]) hx hb dL_acts_566 hl (by decide) rfl (fun ls hl => ?_)
                        refine lv_iload hx hb dL_acts_568 (lv_at hl 0 rfl) ?_
                        refine q_if_eq (tgt := 673) hx hb ⟨by decide, by decide⟩ dL_acts_570 (by decide) (fun h => by omega) (fun _ => ?_)
                        refine lv_iload hx hb dL_acts_573 (lv_at hl 5 rfl) ?_
                        refine lv_bipush (v := i32 (12)) hx hb dL_acts_575 (by decide) ?_
                        refine q_icmp_ne (tgt := 596) hx hb ⟨by omega, by omega⟩ ⟨by decide, by decide⟩ dL_acts_577 (by decide) (fun c_265 => ?_) (fun c_265 => ?_)
                        · -- y1 ≠ 12
                          refine lv_iload hx hb dL_acts_596 (lv_at hl 5 rfl) ?_
                          refine lv_bipush (v := i32 (13)) hx hb dL_acts_598 (by decide) ?_
                          refine q_icmp_ne (tgt := 617) hx hb ⟨by omega, by omega⟩ ⟨by decide, by decide⟩ dL_acts_600 (by decide) (fun c_266 => ?_) (fun c_266 => ?_)
                          · -- y1 ≠ 13
                            refine lv_iload hx hb dL_acts_617 (lv_at hl 5 rfl) ?_
                            refine lv_bipush (v := i32 (14)) hx hb dL_acts_619 (by decide) ?_
                            refine q_icmp_ne (tgt := 645) hx hb ⟨by omega, by omega⟩ ⟨by decide, by decide⟩ dL_acts_621 (by decide) (fun c_267 => ?_) (fun c_267 => ?_)
                            · -- y1 ≠ 14
                              refine lv_aload_n hx hb dL_acts_645 rfl (lv_at hl 6 rfl) ?_
                              refine lv_aload_n hx hb dL_acts_646 rfl (lv_at hl 9 rfl) ?_
                              refine lv_iload hx hb dL_acts_647 (lv_at hl 4 rfl) ?_
                              refine q_callS2 (As := [.ref (ad 1 0), .ref (ad 3 3), .int (i32 (y226))]) (rest := []) hx hb hml hl.1 hown hK hZ hP hS (c_L_isPiece l g base ad S y226 hfl hI c_228 hV.2.2.2 ⟨by omega, by omega⟩) t_329 (q_callB hK 328 14 330 t_328 t_14 t_330 f_yL_isPiece ⟨Nat.le_of_ble_eq_true rfl, Nat.le_of_ble_eq_true rfl⟩) rfl rfl (Nat.le_of_ble_eq_true rfl) dL_acts_649 (c2 := 1468) (s2 := 8808) ⟨by first | rfl | (dsimp only; omega), by first | rfl | (dsimp only; omega)⟩ ⟨by show 1468 ≤ 2970; omega, by show 8808 ≤ 18559; omega⟩ (q_an (fun H locs hP hS => ?_))
                              refine q_if_eq (tgt := 673) hx hb ⟨by decide, by decide⟩ dL_acts_652 (by decide) (fun h => by omega) (fun _ => ?_)
                              refine lv_aload_n hx hb dL_acts_655 rfl (lv_at hl 6 rfl) ?_
                              refine q_callV2 (k := 1) (As := []) (rest := []) hx hb hml hl.1 hown hK hZ hP hS hI.a.1 rfl rfl rfl (c_X3_balances l g base ad S  hI.wc) t_91 t_92 (q_callB hK 90 15 93 t_90 t_15 t_93 f_yX3_balances ⟨Nat.le_of_ble_eq_true rfl, Nat.le_of_ble_eq_true rfl⟩) rfl rfl (Nat.le_of_ble_eq_true rfl) dL_acts_656 (c2 := 1468) (s2 := 8808) ⟨by first | rfl | (dsimp only; omega), by first | rfl | (dsimp only; omega)⟩ ⟨by show 1468 ≤ 2970; omega, by show 8808 ≤ 18559; omega⟩ (q_an (fun H locs hP hS => ?_))
                              generalize eS268 : blS S 20 = S268 at hP
                              have rS268 : ∀ (a1 b1 : Nat) (i1 : Int), rng (S268 a1 b1 i1) := fun a1 b1 i1 => hP.rg a1 b1 i1
                              have ivS268 : IV S268 := by rw [← eS268]; exact IV_bl hI
                              have h3S268 : ∀ (b1 : Nat) (i1 : Int), S268 3 b1 i1 = S 3 b1 i1 := by rw [← eS268]; exact fun b i => blS_o (by omega)
                              have lv9 : LV S268 := by rw [← eS268]; exact LV_k hV hI.k.1.2 (fun b i => blS_o (by omega)) (blS_o (by omega)) (blS_o (by omega)) (blS_o (by omega)) (fun j => blS_o (by omega)) (fun a h1 h2 => ⟨blS_o (by omega), blS_o (by omega)⟩)
                              refine q_if_eqb (tgt := 673) hx hb dL_acts_659 (by decide) (fun c_269 => (by exfalso; exact c_269 hI.b)) (fun c_269 => ?_)
                              refine lv_aload_n hx hb dL_acts_662 rfl (lv_at hl 6 rfl) ?_
                              have gdb := gd_b ivS268
                              refine q_callV2 (k := 1) (As := []) (rest := []) hx hb hml hl.1 hown hK hZ hP hS ivS268.a.1 rfl rfl rfl (c_X3_gold l g base ad S268  ivS268.wc) t_707 t_708 (q_callB hK 706 15 709 t_706 t_15 t_709 f_yX3_gold ⟨Nat.le_of_ble_eq_true rfl, Nat.le_of_ble_eq_true rfl⟩) rfl rfl (Nat.le_of_ble_eq_true rfl) dL_acts_663 (c2 := 1468) (s2 := 8808) ⟨by first | rfl | (dsimp only; omega), by first | rfl | (dsimp only; omega)⟩ ⟨by show 1468 ≤ 2970; omega, by show 8808 ≤ 18559; omega⟩ (q_an (fun H locs hP hS => ?_))
                              refine q_if_lt (tgt := 673) hx hb ⟨by omega, by omega⟩ dL_acts_666 (by decide) (fun c_270 => (by exfalso; omega)) (fun c_270 => ?_)
                              refine lv_iconst (v := i32 (1)) hx hb dL_acts_669 rfl ?_
                              refine lv_goto (tgt := 674) hx hb dL_acts_670 (by decide) ?_
                              subst hQm
                              exact q_zret hx hb hr hlocks hP hS (v := 1) (by decide) (by exact ⟨⟨rfl, (fun _ _ _ => rfl)⟩, ivS268, lv9⟩) (by show 1468 ≤ 2970; omega) (by show 8808 ≤ 18559; omega) dL_acts_674
                            · -- y1 = 14
                              refine lv_aload_n hx hb dL_acts_624 rfl (lv_at hl 6 rfl) ?_
                              refine lv_aload hx hb dL_acts_625 (lv_at hl 10 rfl) ?_
                              refine lv_iload hx hb dL_acts_627 (lv_at hl 4 rfl) ?_
                              refine lv_iload hx hb dL_acts_629 (lv_at hl 11 rfl) ?_
                              refine lv_bipush (v := i32 (9)) hx hb dL_acts_631 (by decide) ?_
                              refine lv_ishr hx hb dL_acts_633 ?_
                              obtain ⟨z271, rz271, hz271⟩ := i32_of (i32 (x) >>> (i32 (9) &&& 31))
                              rw [hz271]
                              refine lv_iload hx hb dL_acts_634 (lv_at hl 12 rfl) ?_
                              refine q_callS2 (As := [.ref (ad 1 0), .ref (ad 3 4), .int (i32 (y226)), .int (i32 (z271)), .int (i32 (y))]) (rest := []) hx hb hml hl.1 hown hK hZ hP hS (c_L_wears l g base ad S y226 z271 y hfl hI hV c_228 ⟨by omega, by omega⟩ rz271 hrn2) t_688 (q_callB hK 687 14 689 t_687 t_14 t_689 f_yL_wears ⟨Nat.le_of_ble_eq_true rfl, Nat.le_of_ble_eq_true rfl⟩) rfl rfl (Nat.le_of_ble_eq_true rfl) dL_acts_636 (c2 := 16) (s2 := 96) ⟨by first | rfl | (dsimp only; omega), by first | rfl | (dsimp only; omega)⟩ ⟨by show 16 ≤ 2970; omega, by show 96 ≤ 18559; omega⟩ (fun rr ad' S' H locs hQ hP hS => ?_)
                              obtain ⟨⟨hr9, ek9⟩, hI9, hV9⟩ := hQ
                              subst hr9
                              obtain ⟨S272, hS272⟩ : ∃ s9 : St, s9 = S' := ⟨_, rfl⟩
                              rw [← hS272] at hI9 hV9 hP
                              obtain ⟨ad273, had273⟩ : ∃ a9 : Nat → Nat → Nat, a9 = ad' := ⟨_, rfl⟩
                              rw [← had273] at ek9 hP
                              have ek_ad273 : ∀ x q, x < 4 → ad273 x q = ad x q := fun x q h => (ek9 x q h)
                              have el_ad273 : ∀ x q, x < 4 → ad273 x q = ad x q := ek9
                              have hl : lv_has ls 13 [(12, .int (i32 (1))), (11, .int (i32 (0))), (10, .int (i32 (-1))), (9, .int (i32 (y230))), (8, .int (i32 (y226))), (7, .int (i32 (y1))), (0, .ref (ad273 1 0)), (1, .ref (ad273 3 1)), (2, .ref (ad273 3 2)), (3, .ref (ad273 3 3)), (4, .ref (ad273 3 4)), (5, .int (i32 (x))), (6, .int (i32 (y)))] := by
                                have t9 := hl
                                rw [← el_ad273 1 0 (by decide), ← el_ad273 3 1 (by decide), ← el_ad273 3 2 (by decide), ← el_ad273 3 3 (by decide), ← el_ad273 3 4 (by decide)] at t9
                                exact t9
                              skip
                              have ivS272 : IV S272 := hI9
                              have lvS272 : LV S272 := hV9
                              have rS272 : ∀ (a1 b1 : Nat) (i1 : Int), rng (S272 a1 b1 i1) := fun a1 b1 i1 => hP.rg a1 b1 i1
                              refine q_if_eq (tgt := 673) hx hb ⟨by decide, by decide⟩ dL_acts_639 (by decide) (fun h => by omega) (fun _ => ?_)
                              refine lv_goto (tgt := 669) hx hb dL_acts_642 (by decide) ?_
                              refine lv_iconst (v := i32 (1)) hx hb dL_acts_669 rfl ?_
                              refine lv_goto (tgt := 674) hx hb dL_acts_670 (by decide) ?_
                              subst hQm
                              exact q_zret hx hb hr hlocks hP hS (v := 1) (by decide) (by exact ⟨⟨rfl, ek_ad273⟩, ivS272, lvS272⟩) (by show 16 ≤ 2970; omega) (by show 96 ≤ 18559; omega) dL_acts_674
                          · -- y1 = 13
                            refine lv_aload_n hx hb dL_acts_603 rfl (lv_at hl 6 rfl) ?_
                            refine lv_iload hx hb dL_acts_604 (lv_at hl 4 rfl) ?_
                            refine lv_iload hx hb dL_acts_606 (lv_at hl 12 rfl) ?_
                            refine q_callS2 (As := [.ref (ad 1 0), .int (i32 (y226)), .int (i32 (y))]) (rest := []) hx hb hml hl.1 hown hK hZ hP hS (c_L_sews l g base ad S y226 y hfl hI hV c_228 ⟨by omega, by omega⟩ hrn2) t_673 (q_callB hK 672 14 674 t_672 t_14 t_674 f_yL_sews ⟨Nat.le_of_ble_eq_true rfl, Nat.le_of_ble_eq_true rfl⟩) rfl rfl (Nat.le_of_ble_eq_true rfl) dL_acts_608 (c2 := 22) (s2 := 132) ⟨by first | rfl | (dsimp only; omega), by first | rfl | (dsimp only; omega)⟩ ⟨by show 22 ≤ 2970; omega, by show 132 ≤ 18559; omega⟩ (fun rr ad' S' H locs hQ hP hS => ?_)
                            obtain ⟨⟨hr9, ek9⟩, hI9, hV9⟩ := hQ
                            subst hr9
                            obtain ⟨S274, hS274⟩ : ∃ s9 : St, s9 = S' := ⟨_, rfl⟩
                            rw [← hS274] at hI9 hV9 hP
                            obtain ⟨ad275, had275⟩ : ∃ a9 : Nat → Nat → Nat, a9 = ad' := ⟨_, rfl⟩
                            rw [← had275] at ek9 hP
                            have ek_ad275 : ∀ x q, x < 4 → ad275 x q = ad x q := fun x q h => (ek9 x q h)
                            have el_ad275 : ∀ x q, x < 4 → ad275 x q = ad x q := ek9
                            have hl : lv_has ls 13 [(12, .int (i32 (1))), (11, .int (i32 (0))), (10, .int (i32 (-1))), (9, .int (i32 (y230))), (8, .int (i32 (y226))), (7, .int (i32 (y1))), (0, .ref (ad275 1 0)), (1, .ref (ad275 3 1)), (2, .ref (ad275 3 2)), (3, .ref (ad275 3 3)), (4, .ref (ad275 3 4)), (5, .int (i32 (x))), (6, .int (i32 (y)))] := by
                              have t9 := hl
                              rw [← el_ad275 1 0 (by decide), ← el_ad275 3 1 (by decide), ← el_ad275 3 2 (by decide), ← el_ad275 3 3 (by decide), ← el_ad275 3 4 (by decide)] at t9
                              exact t9
                            skip
                            have ivS274 : IV S274 := hI9
                            have lvS274 : LV S274 := hV9
                            have rS274 : ∀ (a1 b1 : Nat) (i1 : Int), rng (S274 a1 b1 i1) := fun a1 b1 i1 => hP.rg a1 b1 i1
                            refine q_if_eq (tgt := 673) hx hb ⟨by decide, by decide⟩ dL_acts_611 (by decide) (fun h => by omega) (fun _ => ?_)
                            refine lv_goto (tgt := 669) hx hb dL_acts_614 (by decide) ?_
                            refine lv_iconst (v := i32 (1)) hx hb dL_acts_669 rfl ?_
                            refine lv_goto (tgt := 674) hx hb dL_acts_670 (by decide) ?_
                            subst hQm
                            exact q_zret hx hb hr hlocks hP hS (v := 1) (by decide) (by exact ⟨⟨rfl, ek_ad275⟩, ivS274, lvS274⟩) (by show 22 ≤ 2970; omega) (by show 132 ≤ 18559; omega) dL_acts_674
                        · -- y1 = 12
                          refine lv_aload_n hx hb dL_acts_580 rfl (lv_at hl 6 rfl) ?_
                          refine lv_aload_n hx hb dL_acts_581 rfl (lv_at hl 7 rfl) ?_
                          refine lv_aload_n hx hb dL_acts_582 rfl (lv_at hl 9 rfl) ?_
                          refine lv_iload hx hb dL_acts_583 (lv_at hl 4 rfl) ?_
                          refine lv_iload hx hb dL_acts_585 (lv_at hl 12 rfl) ?_
                          refine q_callS2 (As := [.ref (ad 1 0), .ref (ad 3 1), .ref (ad 3 3), .int (i32 (y226)), .int (i32 (y))]) (rest := []) hx hb hml hl.1 hown hK hZ hP hS (c_L_cuts l g base ad S y226 y hfl hI hV c_228 ⟨by omega, by omega⟩ hrn2) t_655 (q_callB hK 654 14 656 t_654 t_14 t_656 f_yL_cuts ⟨Nat.le_of_ble_eq_true rfl, Nat.le_of_ble_eq_true rfl⟩) rfl rfl (Nat.le_of_ble_eq_true rfl) dL_acts_587 (c2 := 2970) (s2 := 18559) ⟨by first | rfl | (dsimp only; omega), by first | rfl | (dsimp only; omega)⟩ ⟨by show 2970 ≤ 2970; omega, by show 18559 ≤ 18559; omega⟩ (fun rr ad' S' H locs hQ hP hS => ?_)
                          obtain ⟨⟨hr9, ek9⟩, hI9, hV9⟩ := hQ
                          subst hr9
                          obtain ⟨S276, hS276⟩ : ∃ s9 : St, s9 = S' := ⟨_, rfl⟩
                          rw [← hS276] at hI9 hV9 hP
                          obtain ⟨ad277, had277⟩ : ∃ a9 : Nat → Nat → Nat, a9 = ad' := ⟨_, rfl⟩
                          rw [← had277] at ek9 hP
                          have ek_ad277 : ∀ x q, x < 4 → ad277 x q = ad x q := fun x q h => (ek9 x q h)
                          have el_ad277 : ∀ x q, x < 4 → ad277 x q = ad x q := ek9
                          have hl : lv_has ls 13 [(12, .int (i32 (1))), (11, .int (i32 (0))), (10, .int (i32 (-1))), (9, .int (i32 (y230))), (8, .int (i32 (y226))), (7, .int (i32 (y1))), (0, .ref (ad277 1 0)), (1, .ref (ad277 3 1)), (2, .ref (ad277 3 2)), (3, .ref (ad277 3 3)), (4, .ref (ad277 3 4)), (5, .int (i32 (x))), (6, .int (i32 (y)))] := by
                            have t9 := hl
                            rw [← el_ad277 1 0 (by decide), ← el_ad277 3 1 (by decide), ← el_ad277 3 2 (by decide), ← el_ad277 3 3 (by decide), ← el_ad277 3 4 (by decide)] at t9
                            exact t9
                          skip
                          have ivS276 : IV S276 := hI9
                          have lvS276 : LV S276 := hV9
                          have rS276 : ∀ (a1 b1 : Nat) (i1 : Int), rng (S276 a1 b1 i1) := fun a1 b1 i1 => hP.rg a1 b1 i1
                          refine q_if_eq (tgt := 673) hx hb ⟨by decide, by decide⟩ dL_acts_590 (by decide) (fun h => by omega) (fun _ => ?_)
                          refine lv_goto (tgt := 669) hx hb dL_acts_593 (by decide) ?_
                          refine lv_iconst (v := i32 (1)) hx hb dL_acts_669 rfl ?_
                          refine lv_goto (tgt := 674) hx hb dL_acts_670 (by decide) ?_
                          subst hQm
                          exact q_zret hx hb hr hlocks hP hS (v := 1) (by decide) (by exact ⟨⟨rfl, ek_ad277⟩, ivS276, lvS276⟩) (by show 2970 ≤ 2970; omega) (by show 18559 ≤ 18559; omega) dL_acts_674
                  · -- ¬ (peC S y226)
                    refine lv_aload_n hx hb dL_acts_414 rfl (lv_at hl 2 rfl) ?_
                    refine lv_iload hx hb dL_acts_415 (lv_at hl 0 rfl) ?_
                    refine lv_iconst (v := i32 (0)) hx hb dL_acts_417 rfl ?_
                    refine q_callH2 (As := [.ref (ad 1 0), .int (i32 (y226)), .int (i32 (0))]) (rest := []) hx hb hml hl.1 hown hK hZ hP hS (c_L_pieceIs l g base ad S y226 ((0 : Int)) hfl hI.wc ⟨by omega, by omega⟩ ⟨by decide, by decide⟩) t_266 t_14 t_268 t_267 f_yL_pieceIs ⟨Nat.le_of_ble_eq_true rfl, Nat.le_of_ble_eq_true rfl⟩ rfl rfl (Nat.le_of_ble_eq_true rfl) dL_acts_418 (c2 := 4) (s2 := 24) ⟨by first | rfl | (dsimp only; omega), by first | rfl | (dsimp only; omega)⟩ ⟨by show 4 ≤ 2970; omega, by show 24 ≤ 18559; omega⟩ (q_an (fun H locs hP hS => ?_))
                    refine q_nm (b := -1000001) (lv_1 c_228) ?_
                    refine q_ldc (z := -1000001) hx hb hown hK t_248 rfl dL_acts_421 ?_
                    refine q_icmp_ne (tgt := 452) hx hb ⟨by decide, by decide⟩ ⟨by decide, by decide⟩ dL_acts_423 (by decide) (fun c_278 => (by exfalso; omega)) (fun c_278 => ?_)
                    refine lv_aload_n hx hb dL_acts_426 rfl (lv_at hl 2 rfl) ?_
                    refine lv_iload hx hb dL_acts_427 (lv_at hl 0 rfl) ?_
                    refine q_callH2 (As := [.ref (ad 1 0), .int (i32 (y226))]) (rest := []) hx hb hml hl.1 hown hK hZ hP hS (c_L_wash l g base ad S y226 hfl hI.wc ⟨by omega, by omega⟩) t_630 t_14 t_632 t_631 f_yL_wash ⟨Nat.le_of_ble_eq_true rfl, Nat.le_of_ble_eq_true rfl⟩ rfl rfl (Nat.le_of_ble_eq_true rfl) dL_acts_429 (c2 := 6) (s2 := 36) ⟨by first | rfl | (dsimp only; omega), by first | rfl | (dsimp only; omega)⟩ ⟨by show 6 ≤ 2970; omega, by show 36 ≤ 18559; omega⟩ (fun rr ad' S' H locs hQ hP hS => ?_)
                    obtain ⟨⟨hr9, ek9⟩, hQ⟩ := hQ
                    have hc9_1 : ¬ (peC S y226) := c_228
                    have hs9 := (hQ.resolve_right (fun y9 => hc9_1 y9.1.1)).2
                    subst hr9
                    rw [ek9] at hP
                    rw [hs9] at hP
                    refine q_nm (lv_1 hc9_1) ?_
                    refine q_ldc (z := -1000001) hx hb hown hK t_248 rfl dL_acts_432 ?_
                    refine q_icmp_ne (tgt := 452) hx hb ⟨by decide, by decide⟩ ⟨by decide, by decide⟩ dL_acts_434 (by decide) (fun h => by first | exact absurd c_278 h | exact absurd h c_278 | omega) (fun _ => ?_)
                    refine lv_aload_n hx hb dL_acts_437 rfl (lv_at hl 2 rfl) ?_
                    refine lv_iload hx hb dL_acts_438 (lv_at hl 0 rfl) ?_
                    refine q_callH2 (As := [.ref (ad 1 0), .int (i32 (y226))]) (rest := []) hx hb hml hl.1 hown hK hZ hP hS (c_L_isTrue l g base ad S y226 hfl hI.wc ⟨by omega, by omega⟩) t_516 t_14 t_518 t_517 f_yL_isTrue ⟨Nat.le_of_ble_eq_true rfl, Nat.le_of_ble_eq_true rfl⟩ rfl rfl (Nat.le_of_ble_eq_true rfl) dL_acts_440 (c2 := 7) (s2 := 42) ⟨by first | rfl | (dsimp only; omega), by first | rfl | (dsimp only; omega)⟩ ⟨by show 7 ≤ 2970; omega, by show 42 ≤ 18559; omega⟩ (q_an (fun H locs hP hS => ?_))
                    refine q_nm (b := -1000001) (lv_1 c_228) ?_
                    refine q_ldc (z := -1000001) hx hb hown hK t_248 rfl dL_acts_443 ?_
                    refine q_icmp_ne (tgt := 452) hx hb ⟨by decide, by decide⟩ ⟨by decide, by decide⟩ dL_acts_445 (by decide) (fun h => by first | exact absurd c_278 h | exact absurd h c_278 | omega) (fun _ => ?_)
                    refine lv_iconst (v := i32 (1)) hx hb dL_acts_448 rfl ?_
                    refine lv_goto (tgt := 453) hx hb dL_acts_449 (by decide) ?_
                    subst hQm
                    exact q_zret hx hb hr hlocks hP hS (v := 1) (by decide) (by exact ⟨⟨rfl, (fun _ _ _ => rfl)⟩, hI, hV⟩) (by show 7 ≤ 2970; omega) (by show 42 ≤ 18559; omega) dL_acts_453
                · -- y1 = 11
                  refine lv_aload_n hx hb dL_acts_389 rfl (lv_at hl 2 rfl) ?_
                  refine lv_aload_n hx hb dL_acts_390 rfl (lv_at hl 5 rfl) ?_
                  refine lv_iload hx hb dL_acts_391 (lv_at hl 0 rfl) ?_
                  refine lv_iload hx hb dL_acts_393 (lv_at hl 8 rfl) ?_
                  refine lv_aload_n hx hb dL_acts_395 rfl (lv_at hl 3 rfl) ?_
                  refine lv_iconst (v := i32 (2)) hx hb dL_acts_396 rfl ?_
                  refine p_iald (k := 3) (r := 1) (n := 4) hx hb hK hP hI.a.2.2 rfl rfl (by decide) (by decide) (by omega) (by omega) dL_acts_397 ?_
                  refine q_callS2 (As := [.int (i32 (y)), .int (i32 (S 3 1 2))]) (rest := [.int (i32 (y226)), .ref (ad 3 3), .ref (ad 1 0)]) hx hb hml hl.1 hown hK hZ hP hS (c_L_low l g base ad S y (S 3 1 2) hrn2 (by omega)) t_122 (q_callB hK 121 14 123 t_121 t_14 t_123 f_yL_low ⟨Nat.le_of_ble_eq_true rfl, Nat.le_of_ble_eq_true rfl⟩) rfl rfl (Nat.le_of_ble_eq_true rfl) dL_acts_398 (c2 := 0) (s2 := 0) ⟨by first | rfl | (dsimp only; omega), by first | rfl | (dsimp only; omega)⟩ ⟨by show 0 ≤ 2970; omega, by show 0 ≤ 18559; omega⟩ (q_an (fun H locs hP hS => ?_))
                  obtain ⟨y279, hy279⟩ : ∃ y99 : Int, loF y (S 3 1 2) = y99 := ⟨_, rfl⟩
                  have by279 := lo_b y (show 1 ≤ (S 3 1 2) by omega)
                  rw [hy279] at by279
                  refine q_nm hy279 ?_
                  refine q_callS2 (As := [.ref (ad 1 0), .ref (ad 3 3), .int (i32 (y226)), .int (i32 (y279))]) (rest := []) hx hb hml hl.1 hown hK hZ hP hS (c_L_joins l g base ad S y226 y279 hfl hI hV ⟨by omega, by omega⟩ ⟨by omega, by omega⟩) t_583 (q_callB hK 582 14 584 t_582 t_14 t_584 f_yL_joins ⟨Nat.le_of_ble_eq_true rfl, Nat.le_of_ble_eq_true rfl⟩) rfl rfl (Nat.le_of_ble_eq_true rfl) dL_acts_401 (c2 := 1498) (s2 := 8988) ⟨by first | rfl | (dsimp only; omega), by first | rfl | (dsimp only; omega)⟩ ⟨by show 1498 ≤ 2970; omega, by show 8988 ≤ 18559; omega⟩ (fun rr ad' S' H locs hQ hP hS => ?_)
                  obtain ⟨⟨hr9, ek9⟩, hI9, hV9⟩ := hQ
                  subst hr9
                  obtain ⟨S280, hS280⟩ : ∃ s9 : St, s9 = S' := ⟨_, rfl⟩
                  rw [← hS280] at hI9 hV9 hP
                  obtain ⟨ad281, had281⟩ : ∃ a9 : Nat → Nat → Nat, a9 = ad' := ⟨_, rfl⟩
                  rw [← had281] at ek9 hP
                  have ek_ad281 : ∀ x q, x < 4 → ad281 x q = ad x q := fun x q h => (ek9 x q h)
                  have el_ad281 : ∀ x q, x < 4 → ad281 x q = ad x q := ek9
                  have hl : lv_has ls 13 [(8, .int (i32 (y226))), (7, .int (i32 (y1))), (0, .ref (ad281 1 0)), (1, .ref (ad281 3 1)), (2, .ref (ad281 3 2)), (3, .ref (ad281 3 3)), (4, .ref (ad281 3 4)), (5, .int (i32 (x))), (6, .int (i32 (y)))] := by
                    have t9 := hl
                    rw [← el_ad281 1 0 (by decide), ← el_ad281 3 1 (by decide), ← el_ad281 3 2 (by decide), ← el_ad281 3 3 (by decide), ← el_ad281 3 4 (by decide)] at t9
                    exact t9
                  skip
                  have ivS280 : IV S280 := hI9
                  have lvS280 : LV S280 := hV9
                  have rS280 : ∀ (a1 b1 : Nat) (i1 : Int), rng (S280 a1 b1 i1) := fun a1 b1 i1 => hP.rg a1 b1 i1
                  subst hQm
                  exact q_zret hx hb hr hlocks hP hS (v := 1) (by decide) (by exact ⟨⟨rfl, ek_ad281⟩, ivS280, lvS280⟩) (by show 1498 ≤ 2970; omega) (by show 8988 ≤ 18559; omega) dL_acts_404
              · -- y1 < 11
                refine lv_aload_n hx hb dL_acts_323 rfl (lv_at hl 1 rfl) ?_
                refine lv_aload_n hx hb dL_acts_324 rfl (lv_at hl 2 rfl) ?_
                refine lv_iload hx hb dL_acts_325 (lv_at hl 6 rfl) ?_
                refine lv_iconst (v := i32 (4)) hx hb dL_acts_327 rfl ?_
                refine lv_ishr hx hb dL_acts_328 ?_
                obtain ⟨z282, rz282, hz282⟩ := i32_of (i32 (x) >>> (i32 (4) &&& 31))
                rw [hz282]
                refine lv_iload hx hb dL_acts_329 (lv_at hl 7 rfl) ?_
                refine q_callS2 (As := [.ref (ad 1 0), .ref (ad 3 1), .int (i32 (z282)), .int (i32 (y))]) (rest := []) hx hb hml hl.1 hown hK hZ hP hS (c_L_weaves l g base ad S z282 y hfl hI hV (by omega) rz282 hrn2) t_532 (q_callB hK 531 14 533 t_531 t_14 t_533 f_yL_weaves ⟨Nat.le_of_ble_eq_true rfl, Nat.le_of_ble_eq_true rfl⟩) rfl rfl (Nat.le_of_ble_eq_true rfl) dL_acts_331 (c2 := 8) (s2 := 48) ⟨by first | rfl | (dsimp only; omega), by first | rfl | (dsimp only; omega)⟩ ⟨by show 8 ≤ 2970; omega, by show 48 ≤ 18559; omega⟩ (fun rr ad' S' H locs hQ hP hS => ?_)
                obtain ⟨⟨⟨hr9, ek9⟩, hI9, hV9⟩, hW9⟩ := hQ
                subst hr9
                obtain ⟨S283, hS283⟩ : ∃ s9 : St, s9 = S' := ⟨_, rfl⟩
                rw [← hS283] at hI9 hV9 hP hW9
                obtain ⟨ad284, had284⟩ : ∃ a9 : Nat → Nat → Nat, a9 = ad' := ⟨_, rfl⟩
                rw [← had284] at ek9 hP
                have ek_ad284 : ∀ x q, x < 4 → ad284 x q = ad x q := fun x q h => (ek9 x q h)
                have el_ad284 : ∀ x q, x < 4 → ad284 x q = ad x q := ek9
                have hl : lv_has ls 13 [(7, .int (i32 (y1))), (0, .ref (ad284 1 0)), (1, .ref (ad284 3 1)), (2, .ref (ad284 3 2)), (3, .ref (ad284 3 3)), (4, .ref (ad284 3 4)), (5, .int (i32 (x))), (6, .int (i32 (y)))] := by
                  have t9 := hl
                  rw [← el_ad284 1 0 (by decide), ← el_ad284 3 1 (by decide), ← el_ad284 3 2 (by decide), ← el_ad284 3 3 (by decide), ← el_ad284 3 4 (by decide)] at t9
                  exact t9
                skip
                have ivS283 : IV S283 := hI9
                have lvS283 : LV S283 := hV9
                have hwS283 := hW9
                have rS283 : ∀ (a1 b1 : Nat) (i1 : Int), rng (S283 a1 b1 i1) := fun a1 b1 i1 => hP.rg a1 b1 i1
                refine q_if_eq (tgt := 368) hx hb ⟨by decide, by decide⟩ dL_acts_334 (by decide) (fun h => by omega) (fun _ => ?_)
                refine lv_iload hx hb dL_acts_337 (lv_at hl 7 rfl) ?_
                refine lv_iconst (v := i32 (3)) hx hb dL_acts_339 rfl ?_
                refine lv_ishr hx hb dL_acts_340 ?_
                obtain ⟨z285, rz285, hz285⟩ := i32_of (i32 (y) >>> (i32 (3) &&& 31))
                rw [hz285]
                refine lv_iconst (v := i32 (3)) hx hb dL_acts_341 rfl ?_
                refine q_callS2 (As := [.int (i32 (z285)), .int (i32 (3))]) (rest := []) hx hb hml hl.1 hown hK hZ hP hS (c_L_low l g base ad284 S283 z285 ((3 : Int)) rz285 (by omega)) t_122 (q_callB hK 121 14 123 t_121 t_14 t_123 f_yL_low ⟨Nat.le_of_ble_eq_true rfl, Nat.le_of_ble_eq_true rfl⟩) rfl rfl (Nat.le_of_ble_eq_true rfl) dL_acts_342 (c2 := 8) (s2 := 48) ⟨by first | rfl | (dsimp only; omega), by first | rfl | (dsimp only; omega)⟩ ⟨by show 8 ≤ 2970; omega, by show 48 ≤ 18559; omega⟩ (q_an (fun H locs hP hS => ?_))
                obtain ⟨y286, hy286⟩ : ∃ y99 : Int, loF z285 ((3 : Int)) = y99 := ⟨_, rfl⟩
                have by286 := lo_b z285 (show 1 ≤ ((3 : Int)) by omega)
                rw [hy286] at by286
                refine q_nm hy286 ?_
                refine q_if_gt (tgt := 364) hx hb ⟨by omega, by omega⟩ dL_acts_345 (by decide) (fun c_287 => ?_) (fun c_287 => ?_)
                · -- 0 < y286
                  refine lv_iconst (v := i32 (1)) hx hb dL_acts_364 rfl ?_
                  refine lv_goto (tgt := 369) hx hb dL_acts_365 (by decide) ?_
                  subst hQm
                  exact q_zret hx hb hr hlocks hP hS (v := 1) (by decide) (by exact ⟨⟨rfl, ek_ad284⟩, ivS283, lvS283⟩) (by show 8 ≤ 2970; omega) (by show 48 ≤ 18559; omega) dL_acts_369
                · -- y286 ≤ 0
                  refine lv_aload_n hx hb dL_acts_348 rfl (lv_at hl 1 rfl) ?_
                  refine lv_aload_n hx hb dL_acts_349 rfl (lv_at hl 2 rfl) ?_
                  refine lv_iload hx hb dL_acts_350 (lv_at hl 6 rfl) ?_
                  refine lv_iconst (v := i32 (4)) hx hb dL_acts_352 rfl ?_
                  refine lv_ishr hx hb dL_acts_353 ?_
                  obtain ⟨z288, rz288, hz288⟩ := i32_of (i32 (x) >>> (i32 (4) &&& 31))
                  rw [hz288]
                  refine lv_iload hx hb dL_acts_354 (lv_at hl 7 rfl) ?_
                  refine lv_iconst (v := i32 (1)) hx hb dL_acts_356 rfl ?_
                  refine q_iadd hx hb dL_acts_357 ?_
                  obtain ⟨yw, ryw, hyw⟩ := i32_any (y + 1)
                  rw [hyw]
                  refine q_callS2 (As := [.ref (ad284 1 0), .ref (ad284 3 1), .int (i32 (z288)), .int (i32 (yw))]) (rest := []) hx hb hml hl.1 hown hK hZ hP hS (c_L_weaves l g base ad284 S283 z288 yw hfl ivS283 lvS283 (by rw [hwS283]; omega) rz288 ryw) t_532 (q_callB hK 531 14 533 t_531 t_14 t_533 f_yL_weaves ⟨Nat.le_of_ble_eq_true rfl, Nat.le_of_ble_eq_true rfl⟩) rfl rfl (Nat.le_of_ble_eq_true rfl) dL_acts_358 (c2 := 16) (s2 := 96) ⟨by first | rfl | (dsimp only; omega), by first | rfl | (dsimp only; omega)⟩ ⟨by show 16 ≤ 2970; omega, by show 96 ≤ 18559; omega⟩ (fun rr ad' S' H locs hQ hP hS => ?_)
                  obtain ⟨⟨⟨hr9, ek9⟩, hI9, hV9⟩, hW9⟩ := hQ
                  subst hr9
                  obtain ⟨S289, hS289⟩ : ∃ s9 : St, s9 = S' := ⟨_, rfl⟩
                  rw [← hS289] at hI9 hV9 hP hW9
                  obtain ⟨ad290, had290⟩ : ∃ a9 : Nat → Nat → Nat, a9 = ad' := ⟨_, rfl⟩
                  rw [← had290] at ek9 hP
                  have ek_ad290 : ∀ x q, x < 4 → ad290 x q = ad x q := fun x q h => (ek9 x q h).trans (ek_ad284 x q h)
                  have el_ad290 : ∀ x q, x < 4 → ad290 x q = ad284 x q := ek9
                  have hl : lv_has ls 13 [(7, .int (i32 (y1))), (0, .ref (ad290 1 0)), (1, .ref (ad290 3 1)), (2, .ref (ad290 3 2)), (3, .ref (ad290 3 3)), (4, .ref (ad290 3 4)), (5, .int (i32 (x))), (6, .int (i32 (y)))] := by
                    have t9 := hl
                    rw [← el_ad290 1 0 (by decide), ← el_ad290 3 1 (by decide), ← el_ad290 3 2 (by decide), ← el_ad290 3 3 (by decide), ← el_ad290 3 4 (by decide)] at t9
                    exact t9
                  skip
                  have ivS289 : IV S289 := hI9
                  have lvS289 : LV S289 := hV9
                  have hwS289 := hW9
                  have rS289 : ∀ (a1 b1 : Nat) (i1 : Int), rng (S289 a1 b1 i1) := fun a1 b1 i1 => hP.rg a1 b1 i1
                  refine q_if_eq (tgt := 368) hx hb ⟨by decide, by decide⟩ dL_acts_361 (by decide) (fun h => by omega) (fun _ => ?_)
                  refine lv_iconst (v := i32 (1)) hx hb dL_acts_364 rfl ?_
                  refine lv_goto (tgt := 369) hx hb dL_acts_365 (by decide) ?_
                  subst hQm
                  exact q_zret hx hb hr hlocks hP hS (v := 1) (by decide) (by exact ⟨⟨rfl, ek_ad290⟩, ivS289, lvS289⟩) (by show 16 ≤ 2970; omega) (by show 96 ≤ 18559; omega) dL_acts_369
            · -- (S 3 1 2) = 0
              refine lv_iload hx hb dL_acts_143 (lv_at hl 6 rfl) ?_
              refine lv_iconst (v := i32 (4)) hx hb dL_acts_145 rfl ?_
              refine lv_ishr hx hb dL_acts_146 ?_
              obtain ⟨z291, rz291, hz291⟩ := i32_of (i32 (x) >>> (i32 (4) &&& 31))
              rw [hz291]
              refine lv_aload_n hx hb dL_acts_147 rfl (lv_at hl 2 rfl) ?_
              refine lv_iconst (v := i32 (0)) hx hb dL_acts_148 rfl ?_
              refine p_iald (k := 3) (r := 1) (n := 4) hx hb hK hP hI.a.2.2 rfl rfl (by decide) (by decide) (by omega) (by omega) dL_acts_149 ?_
              refine q_callS2 (As := [.int (i32 (z291)), .int (i32 (S 3 1 0))]) (rest := []) hx hb hml hl.1 hown hK hZ hP hS (c_L_low l g base ad S z291 (S 3 1 0) rz291 (by omega)) t_122 (q_callB hK 121 14 123 t_121 t_14 t_123 f_yL_low ⟨Nat.le_of_ble_eq_true rfl, Nat.le_of_ble_eq_true rfl⟩) rfl rfl (Nat.le_of_ble_eq_true rfl) dL_acts_150 (c2 := 0) (s2 := 0) ⟨by first | rfl | (dsimp only; omega), by first | rfl | (dsimp only; omega)⟩ ⟨by show 0 ≤ 2970; omega, by show 0 ≤ 18559; omega⟩ (q_an (fun H locs hP hS => ?_))
              obtain ⟨y292, hy292⟩ : ∃ y99 : Int, loF z291 (S 3 1 0) = y99 := ⟨_, rfl⟩
              have by292 := lo_b z291 (show 1 ≤ (S 3 1 0) by omega)
              rw [hy292] at by292
              refine q_nm hy292 ?_
              refine lv_istore (lv' := [(8, .int (i32 (y292))), (7, .int (i32 (y1))), (0, .ref (ad 1 0)), (1, .ref (ad 3 1)), (2, .ref (ad 3 2)), (3, .ref (ad 3 3)), (4, .ref (ad 3 4)), (5, .int (i32 (x))), (6, .int (i32 (y)))]) hx hb dL_acts_153 hl (by decide) rfl (fun ls hl => ?_)
              refine lv_iconst (v := i32 (1)) hx hb dL_acts_155 rfl ?_
              refine lv_iload hx hb dL_acts_156 (lv_at hl 8 rfl) ?_
              refine lv_iconst (v := i32 (4)) hx hb dL_acts_158 rfl ?_
              refine q_callS2 (As := [.int (i32 (y)), .int (i32 (4))]) (rest := [.int (i32 (1))]) hx hb hml hl.1 hown hK hZ hP hS (c_L_low l g base ad S y ((4 : Int)) hrn2 (by omega)) t_122 (q_callB hK 121 14 123 t_121 t_14 t_123 f_yL_low ⟨Nat.le_of_ble_eq_true rfl, Nat.le_of_ble_eq_true rfl⟩) rfl rfl (Nat.le_of_ble_eq_true rfl) dL_acts_159 (c2 := 0) (s2 := 0) ⟨by first | rfl | (dsimp only; omega), by first | rfl | (dsimp only; omega)⟩ ⟨by show 0 ≤ 2970; omega, by show 0 ≤ 18559; omega⟩ (q_an (fun H locs hP hS => ?_))
              obtain ⟨y293, hy293⟩ : ∃ y99 : Int, loF y ((4 : Int)) = y99 := ⟨_, rfl⟩
              have by293 := lo_b y (show 1 ≤ ((4 : Int)) by omega)
              rw [hy293] at by293
              refine q_nm hy293 ?_
              refine q_iadd hx hb dL_acts_162 ?_
              refine lv_istore (lv' := [(9, .int (i32 (1 + y293))), (8, .int (i32 (y292))), (7, .int (i32 (y1))), (0, .ref (ad 1 0)), (1, .ref (ad 3 1)), (2, .ref (ad 3 2)), (3, .ref (ad 3 3)), (4, .ref (ad 3 4)), (5, .int (i32 (x))), (6, .int (i32 (y)))]) hx hb dL_acts_163 hl (by decide) rfl (fun ls hl => ?_)
              by_cases h_B : 1 ≤ 1 + y293 ∧ 1 + y293 ≤ 4 ∧ 1 + y293 ≤ S (4 + Int.toNat y292) 0 0
              · skip
                by_cases h_C : 1 ≤ S (4 + Int.toNat y292) 0 1 ∧ S 1 0 6 < 20
                · skip
                  obtain ⟨hd1, hd2, hd3⟩ := vd y292 (by omega) (by omega)
                  obtain ⟨⟨-, hcw1, hcw2⟩, -⟩ := hI.k.2.2 y292 (by omega) (by omega)
                  refine lv_aload_n hx hb dL_acts_165 rfl (lv_at hl 3 rfl) ?_
                  refine lv_iload hx hb dL_acts_166 (lv_at hl 1 rfl) ?_
                  refine lv_iload hx hb dL_acts_168 (lv_at hl 0 rfl) ?_
                  refine lv_iload hx hb dL_acts_170 (lv_at hl 9 rfl) ?_
                  refine lv_iconst (v := i32 (2)) hx hb dL_acts_172 rfl ?_
                  refine lv_ishr hx hb dL_acts_173 ?_
                  obtain ⟨z294, rz294, hz294⟩ := i32_of (i32 (y) >>> (i32 (2) &&& 31))
                  rw [hz294]
                  refine lv_iconst (v := i32 (2)) hx hb dL_acts_174 rfl ?_
                  refine q_callS2 (As := [.int (i32 (z294)), .int (i32 (2))]) (rest := [.int (i32 (1 + y293)), .int (i32 (y292)), .ref (ad 1 0)]) hx hb hml hl.1 hown hK hZ hP hS (c_L_low l g base ad S z294 ((2 : Int)) rz294 (by omega)) t_122 (q_callB hK 121 14 123 t_121 t_14 t_123 f_yL_low ⟨Nat.le_of_ble_eq_true rfl, Nat.le_of_ble_eq_true rfl⟩) rfl rfl (Nat.le_of_ble_eq_true rfl) dL_acts_175 (c2 := 0) (s2 := 0) ⟨by first | rfl | (dsimp only; omega), by first | rfl | (dsimp only; omega)⟩ ⟨by show 0 ≤ 2970; omega, by show 0 ≤ 18559; omega⟩ (q_an (fun H locs hP hS => ?_))
                  obtain ⟨y295, hy295⟩ : ∃ y99 : Int, loF z294 ((2 : Int)) = y99 := ⟨_, rfl⟩
                  have by295 := lo_b z294 (show 1 ≤ ((2 : Int)) by omega)
                  rw [hy295] at by295
                  refine q_nm hy295 ?_
                  refine q_if_ne (tgt := 185) hx hb ⟨by omega, by omega⟩ dL_acts_178 (by decide) (fun c_296 => ?_) (fun c_296 => ?_)
                  · -- y295 ≠ 0
                    refine lv_iconst (v := i32 (0)) hx hb dL_acts_185 rfl ?_
                    have w9 := IV_loom (mir := False) hI (hI.ce.mpr (show 0 ≤ y292 ∧ y292 < S 1 0 3 by omega)) h_B h_C
                    refine W.eq (g2 := F0 m 186 ls (Value.int (i32 (b2 (False))) :: Value.int (i32 (1 + y293)) :: Value.int (i32 (y292)) :: Value.ref (ad 1 0) :: [])) (by simp only [b2_t trivial, b2_f not_false] <;> rfl) ?_
                    refine q_callH2 (As := [.ref (ad 1 0), .int (i32 (y292)), .int (i32 (1 + y293)), .int (i32 (b2 (False)))]) (rest := []) hx hb hml hl.1 hown hK hZ hP hS (c_L_loom l g base ad S y292 (1 + y293) False hfl hI.wc ⟨by omega, by omega⟩ ⟨by omega, by omega⟩ hI.hcf hI.hpf) t_442 t_14 t_444 t_443 f_yL_loom ⟨Nat.le_of_ble_eq_true rfl, Nat.le_of_ble_eq_true rfl⟩ rfl rfl (Nat.le_of_ble_eq_true rfl) dL_acts_186 (c2 := 9) (s2 := 793) ⟨by first | rfl | (dsimp only; omega), by first | rfl | (dsimp only; omega)⟩ ⟨by show 9 ≤ 2970; omega, by show 793 ≤ 18559; omega⟩ (fun rr ad' S' H locs hQ hP hS => ?_)
                    have hc9 : (ceC S y292) ∧ (1 ≤ (1 + y293) ∧ (1 + y293) ≤ 4 ∧ (1 + y293) ≤ S (4 + y292.toNat) 0 0) ∧ (1 ≤ S (4 + y292.toNat) 0 1 ∧ S 1 0 6 < 20) := ⟨hI.ce.mpr (by omega), h_B, h_C⟩
                    obtain ⟨⟨hr9, ek9⟩, hQ⟩ := hQ
                    have hs9 := (hQ.resolve_left (fun y9 => y9.1 hc9)).2
                    subst hr9
                    rw [hs9] at hP
                    refine q_nm (b := S 1 0 6) ((lv_0 hc9.1 hc9.2.1 hc9.2.2).trans (rfl)) ?_
                    obtain ⟨ad297, had297⟩ : ∃ a9 : Nat → Nat → Nat, a9 = ad' := ⟨_, rfl⟩
                    rw [← had297] at ek9 hP
                    have ek_ad297 : ∀ x q, x < 4 → ad297 x q = ad x q := fun x q h => (ek9 x q h)
                    have el_ad297 : ∀ x q, x < 4 → ad297 x q = ad x q := ek9
                    have hl : lv_has ls 13 [(9, .int (i32 (1 + y293))), (8, .int (i32 (y292))), (7, .int (i32 (y1))), (0, .ref (ad297 1 0)), (1, .ref (ad297 3 1)), (2, .ref (ad297 3 2)), (3, .ref (ad297 3 3)), (4, .ref (ad297 3 4)), (5, .int (i32 (x))), (6, .int (i32 (y)))] := by
                      have t9 := hl
                      rw [← el_ad297 1 0 (by decide), ← el_ad297 3 1 (by decide), ← el_ad297 3 2 (by decide), ← el_ad297 3 3 (by decide), ← el_ad297 3 4 (by decide)] at t9
                      exact t9
                    skip
                    generalize eS298 : lmS S y292 (1 + y293) False = S298 at hP
                    have rS298 : ∀ (a1 b1 : Nat) (i1 : Int), rng (S298 a1 b1 i1) := fun a1 b1 i1 => hP.rg a1 b1 i1
                    have ivS298 : IV S298 := by rw [← eS298]; exact w9.1
                    have h3S298 : ∀ (b1 : Nat) (i1 : Int), S298 3 b1 i1 = S 3 b1 i1 := by rw [← eS298]; exact fun b i => w9.2.1.2.2 3 b i (by omega) (by omega)
                    rw [eS298] at w9
                    obtain ⟨-, ⟨g6, g7, fr9⟩, gtr, gln⟩ := w9
                    refine lv_istore (lv' := [(10, .int (i32 (S 1 0 6))), (9, .int (i32 (1 + y293))), (8, .int (i32 (y292))), (7, .int (i32 (y1))), (0, .ref (ad297 1 0)), (1, .ref (ad297 3 1)), (2, .ref (ad297 3 2)), (3, .ref (ad297 3 3)), (4, .ref (ad297 3 4)), (5, .int (i32 (x))), (6, .int (i32 (y)))]) hx hb dL_acts_189 hl (by decide) rfl (fun ls hl => ?_)
                    refine lv_iload hx hb dL_acts_191 (lv_at hl 1 rfl) ?_
                    refine lv_aload_n hx hb dL_acts_193 rfl (lv_at hl 6 rfl) ?_
                    refine lv_iconst (v := i32 (2)) hx hb dL_acts_194 rfl ?_
                    refine lv_iload hx hb dL_acts_195 (lv_at hl 2 rfl) ?_
                    refine q_imul hx hb dL_acts_197 ?_
                    refine p_iald (k := 3) (r := 2) (n := 10) hx hb hK hP ivS298.a.2.2 rfl rfl (by decide) (by decide) (by omega) (by omega) dL_acts_198 ?_
                    refine q_nm (show S298 3 2 (2 * y292) = S 3 2 (2 * y292) from by rw [h3S298]) ?_
                    refine q_icmp_le (tgt := 215) hx hb ⟨by omega, by omega⟩ (rS _ _ _) dL_acts_199 (by decide) (fun c_299 => ?_) (fun c_299 => (by exfalso; omega))
                    refine lv_aload_n hx hb dL_acts_215 rfl (lv_at hl 6 rfl) ?_
                    refine lv_iconst (v := i32 (2)) hx hb dL_acts_216 rfl ?_
                    refine lv_iload hx hb dL_acts_217 (lv_at hl 2 rfl) ?_
                    refine q_imul hx hb dL_acts_219 ?_
                    refine lv_iconst (v := i32 (1)) hx hb dL_acts_220 rfl ?_
                    refine q_iadd hx hb dL_acts_221 ?_
                    refine p_iald (k := 3) (r := 2) (n := 10) hx hb hK hP ivS298.a.2.2 rfl rfl (by decide) (by decide) (by omega) (by omega) dL_acts_222 ?_
                    refine q_nm (show S298 3 2 ((2 * y292) + 1) = S 3 2 ((2 * y292) + 1) from by rw [h3S298]) ?_
                    refine q_if_eq (tgt := 234) hx hb (rS _ _ _) dL_acts_223 (by decide) (fun c_300 => (by exfalso; omega)) (fun c_300 => ?_)
                    refine lv_aload_n hx hb dL_acts_226 rfl (lv_at hl 5 rfl) ?_
                    refine lv_iconst (v := i32 (2)) hx hb dL_acts_227 rfl ?_
                    refine p_iald (k := 3) (r := 1) (n := 4) hx hb hK hP ivS298.a.2.2 rfl rfl (by decide) (by decide) (by omega) (by omega) dL_acts_228 ?_
                    refine q_nm (show S298 3 1 2 = S 3 1 2 from by rw [h3S298]) ?_
                    refine lv_bipush (v := i32 (20)) hx hb dL_acts_229 (by decide) ?_
                    refine q_icmp_ne (tgt := 247) hx hb (rS _ _ _) ⟨by decide, by decide⟩ dL_acts_231 (by decide) (fun c_301 => ?_) (fun c_301 => (by exfalso; omega))
                    refine lv_aload_n hx hb dL_acts_247 rfl (lv_at hl 5 rfl) ?_
                    refine lv_iconst (v := i32 (2)) hx hb dL_acts_248 rfl ?_
                    refine lv_dup2_11 hx hb dL_acts_249 rfl rfl ?_
                    refine p_iald (k := 3) (r := 1) (n := 4) hx hb hK hP ivS298.a.2.2 rfl rfl (by decide) (by decide) (by omega) (by omega) dL_acts_250 ?_
                    refine q_nm (show S298 3 1 2 = S 3 1 2 from by rw [h3S298]) ?_
                    refine lv_iconst (v := i32 (1)) hx hb dL_acts_251 rfl ?_
                    refine q_iadd hx hb dL_acts_252 ?_
                    refine p_iast (k := 3) (r := 1) (n := 4) hx hb hK hP hS ivS298.a.2.2 rfl rfl (by decide) (by decide) (by omega) (by omega) ⟨by omega, by omega⟩ dL_acts_253 (fun H locs hP hS => ?_)
                    generalize eS302 : st S298 3 1 2 ((S 3 1 2) + 1) = S302 at hP
                    have qS302 : ∀ (a1 b1 : Nat) (i1 : Int), S302 a1 b1 i1 = if a1 = 3 ∧ b1 = 1 ∧ i1 = 2 then (S 3 1 2) + 1 else S298 a1 b1 i1 := fun a1 b1 i1 => by rw [← eS302]; exact st_at _ _ _ _ _ _ _ _
                    have rS302 : ∀ (a1 b1 : Nat) (i1 : Int), rng (S302 a1 b1 i1) := fun a1 b1 i1 => hP.rg a1 b1 i1
                    have aS302_1 : S302 1 0 (-1) = 1 := by rw [qS302, if_neg (by omega)]; exact ivS298.a.1
                    have aS302_2 : S302 2 0 (-1) = 1 := by rw [qS302, if_neg (by omega)]; exact ivS298.a.2.1
                    have aS302_3 : S302 3 0 (-1) = 1 := by rw [qS302, if_neg (by omega)]; exact ivS298.a.2.2
                    have ivS302 : IV S302 := by rw [← eS302]; exact IV_3 ivS298 (by decide)
                    have en : ∀ a : Nat, a ≠ 3 → S302 a = S298 a := fun a h => fe (fun b i => by rw [qS302, if_neg (by omega)])
                    have kN2 : peC S302 (S 1 0 6) := ⟨hp20.1, by omega, by rw [en 1 (by decide)]; exact g7⟩
                    obtain ⟨na1, na2, na3⟩ := ob_k (en (10 + Int.toNat (S 1 0 6)) (by omega))
                    have lv9 : LV S302 := LV_n hV hI.k.1.2 (fun b i h => by rw [qS302, if_neg (by omega), fr9 _ _ _ (by omega) (by omega)]) (by rw [qS302, if_pos ⟨rfl, rfl, rfl⟩, en 1 (by decide), g6, v2]) (by rw [en 1 (by decide), fr9 _ _ _ (by omega) (by omega)]) (by rw [en 2 (by decide)]; exact fe (fun b i => fr9 _ _ _ (by omega) (by omega))) (fun a h1 h2 => by rw [en a (by omega)]; exact fe (fun b i => fr9 _ _ _ (by omega) (by omega)))
                    have hcc : ceC S302 y292 := ivS302.ce.mpr (by rw [en 1 (by decide), fr9 _ _ _ (by omega) (by omega)]; omega)
                    have hm0 : 0 ≤ (S 3 2 (2 * y292)) * (S 3 2 ((2 * y292) + 1)) := Int.mul_nonneg (by omega) (by omega)
                    have hm1 : (S 3 2 (2 * y292)) * (S 3 2 ((2 * y292) + 1)) ≤ 240 := mul240 (by omega) (by omega) (by omega) (by omega)
                    refine lv_iload hx hb dL_acts_254 (lv_at hl 0 rfl) ?_
                    refine lv_aload_n hx hb dL_acts_256 rfl (lv_at hl 5 rfl) ?_
                    refine lv_iconst (v := i32 (2)) hx hb dL_acts_257 rfl ?_
                    refine p_iald (k := 3) (r := 1) (n := 4) hx hb hK hP aS302_3 rfl rfl (by decide) (by decide) (by omega) (by omega) dL_acts_258 ?_
                    refine q_nm (show S302 3 1 2 = (S 3 1 2) + 1 from by rw [qS302, if_pos ⟨rfl, rfl, rfl⟩]) ?_
                    refine lv_iconst (v := i32 (1)) hx hb dL_acts_259 rfl ?_
                    refine q_isub hx hb dL_acts_260 ?_
                    refine q_icmp_ne (tgt := 314) hx hb (rS _ _ _) ⟨by omega, by omega⟩ dL_acts_261 (by decide) (fun c_303 => (by exfalso; omega)) (fun c_303 => ?_)
                    refine lv_aload_n hx hb dL_acts_264 rfl (lv_at hl 4 rfl) ?_
                    refine lv_iload hx hb dL_acts_265 (lv_at hl 0 rfl) ?_
                    refine lv_iload hx hb dL_acts_267 (lv_at hl 2 rfl) ?_
                    refine q_callH2 (As := [.ref (ad297 1 0), .int (i32 (S 1 0 6)), .int (i32 (y292))]) (rest := []) hx hb hml hl.1 hown hK hZ hP hS (c_L_likeness l g base ad297 S302 (S 1 0 6) y292 hfl ivS302.wc (rS _ _ _) ⟨by omega, by omega⟩) t_504 t_14 t_506 t_505 f_yL_likeness ⟨Nat.le_of_ble_eq_true rfl, Nat.le_of_ble_eq_true rfl⟩ rfl rfl (Nat.le_of_ble_eq_true rfl) dL_acts_269 (c2 := 11) (s2 := 805) ⟨by first | rfl | (dsimp only; omega), by first | rfl | (dsimp only; omega)⟩ ⟨by show 11 ≤ 2970; omega, by show 805 ≤ 18559; omega⟩ (q_an (fun H locs hP hS => ?_))
                    refine q_nm (b := S 3 2 (2 * y292) * S 3 2 ((2 * y292) + 1)) ((lv_0 ⟨kN2, hcc⟩ trivial trivial).trans (by rw [ln_k (en _ (by omega)) (en _ (by omega)), gln, ← hd1, ← hd3])) ?_
                    refine lv_aload_n hx hb dL_acts_272 rfl (lv_at hl 6 rfl) ?_
                    refine lv_iconst (v := i32 (2)) hx hb dL_acts_273 rfl ?_
                    refine lv_iload hx hb dL_acts_274 (lv_at hl 2 rfl) ?_
                    refine q_imul hx hb dL_acts_276 ?_
                    refine p_iald (k := 3) (r := 2) (n := 10) hx hb hK hP aS302_3 rfl rfl (by decide) (by decide) (by omega) (by omega) dL_acts_277 ?_
                    refine q_nm (show S302 3 2 (2 * y292) = S 3 2 (2 * y292) from by rw [qS302, if_neg (by omega), h3S298]) ?_
                    refine lv_aload_n hx hb dL_acts_278 rfl (lv_at hl 6 rfl) ?_
                    refine lv_iconst (v := i32 (2)) hx hb dL_acts_279 rfl ?_
                    refine lv_iload hx hb dL_acts_280 (lv_at hl 2 rfl) ?_
                    refine q_imul hx hb dL_acts_282 ?_
                    refine lv_iconst (v := i32 (1)) hx hb dL_acts_283 rfl ?_
                    refine q_iadd hx hb dL_acts_284 ?_
                    refine p_iald (k := 3) (r := 2) (n := 10) hx hb hK hP aS302_3 rfl rfl (by decide) (by decide) (by omega) (by omega) dL_acts_285 ?_
                    refine q_nm (show S302 3 2 ((2 * y292) + 1) = S 3 2 ((2 * y292) + 1) from by rw [qS302, if_neg (by omega), h3S298]) ?_
                    refine q_imul hx hb dL_acts_286 ?_
                    refine q_icmp_ne (tgt := 314) hx hb ⟨by omega, by omega⟩ ⟨by omega, by omega⟩ dL_acts_287 (by decide) (fun c_304 => (by exfalso; omega)) (fun c_304 => ?_)
                    refine lv_aload_n hx hb dL_acts_290 rfl (lv_at hl 4 rfl) ?_
                    refine lv_iload hx hb dL_acts_291 (lv_at hl 0 rfl) ?_
                    refine q_callH2 (As := [.ref (ad297 1 0), .int (i32 (S 1 0 6))]) (rest := []) hx hb hml hl.1 hown hK hZ hP hS (c_L_isTrue l g base ad297 S302 (S 1 0 6) hfl ivS302.wc (rS _ _ _)) t_516 t_14 t_518 t_517 f_yL_isTrue ⟨Nat.le_of_ble_eq_true rfl, Nat.le_of_ble_eq_true rfl⟩ rfl rfl (Nat.le_of_ble_eq_true rfl) dL_acts_293 (c2 := 12) (s2 := 811) ⟨by first | rfl | (dsimp only; omega), by first | rfl | (dsimp only; omega)⟩ ⟨by show 12 ≤ 2970; omega, by show 811 ≤ 18559; omega⟩ (q_an (fun H locs hP hS => ?_))
                    refine q_nm (b := 1) ((lv_0 kN2 trivial trivial).trans (b2_t (na3.mpr gtr))) ?_
                    refine lv_iconst (v := i32 (1)) hx hb dL_acts_296 rfl ?_
                    refine q_icmp_ne (tgt := 314) hx hb ⟨by decide, by decide⟩ ⟨by decide, by decide⟩ dL_acts_297 (by decide) (fun c_305 => (by exfalso; omega)) (fun c_305 => ?_)
                    refine lv_aload_n hx hb dL_acts_300 rfl (lv_at hl 4 rfl) ?_
                    refine lv_aload_n hx hb dL_acts_301 rfl (lv_at hl 7 rfl) ?_
                    refine lv_iload hx hb dL_acts_302 (lv_at hl 0 rfl) ?_
                    refine q_callS2 (As := [.ref (ad297 1 0), .ref (ad297 3 3), .int (i32 (S 1 0 6))]) (rest := []) hx hb hml hl.1 hown hK hZ hP hS (c_L_isPiece l g base ad297 S302 (S 1 0 6) hfl ivS302 kN2 lv9.2.2.2 (rS _ _ _)) t_329 (q_callB hK 328 14 330 t_328 t_14 t_330 f_yL_isPiece ⟨Nat.le_of_ble_eq_true rfl, Nat.le_of_ble_eq_true rfl⟩) rfl rfl (Nat.le_of_ble_eq_true rfl) dL_acts_304 (c2 := 1472) (s2 := 9571) ⟨by first | rfl | (dsimp only; omega), by first | rfl | (dsimp only; omega)⟩ ⟨by show 1472 ≤ 2970; omega, by show 9571 ≤ 18559; omega⟩ (q_an (fun H locs hP hS => ?_))
                    refine q_if_eq (tgt := 314) hx hb ⟨by decide, by decide⟩ dL_acts_307 (by decide) (fun h => by omega) (fun _ => ?_)
                    refine lv_iconst (v := i32 (1)) hx hb dL_acts_310 rfl ?_
                    refine lv_goto (tgt := 315) hx hb dL_acts_311 (by decide) ?_
                    subst hQm
                    exact q_zret hx hb hr hlocks hP hS (v := 1) (by decide) (by exact ⟨⟨rfl, ek_ad297⟩, ivS302, lv9⟩) (by show 1472 ≤ 2970; omega) (by show 9571 ≤ 18559; omega) dL_acts_315
                  · -- y295 = 0
                    refine lv_iconst (v := i32 (1)) hx hb dL_acts_181 rfl ?_
                    refine lv_goto (tgt := 186) hx hb dL_acts_182 (by decide) ?_
                    have w9 := IV_loom (mir := True) hI (hI.ce.mpr (show 0 ≤ y292 ∧ y292 < S 1 0 3 by omega)) h_B h_C
                    refine W.eq (g2 := F0 m 186 ls (Value.int (i32 (b2 (True))) :: Value.int (i32 (1 + y293)) :: Value.int (i32 (y292)) :: Value.ref (ad 1 0) :: [])) (by simp only [b2_t trivial, b2_f not_false] <;> rfl) ?_
                    refine q_callH2 (As := [.ref (ad 1 0), .int (i32 (y292)), .int (i32 (1 + y293)), .int (i32 (b2 (True)))]) (rest := []) hx hb hml hl.1 hown hK hZ hP hS (c_L_loom l g base ad S y292 (1 + y293) True hfl hI.wc ⟨by omega, by omega⟩ ⟨by omega, by omega⟩ hI.hcf hI.hpf) t_442 t_14 t_444 t_443 f_yL_loom ⟨Nat.le_of_ble_eq_true rfl, Nat.le_of_ble_eq_true rfl⟩ rfl rfl (Nat.le_of_ble_eq_true rfl) dL_acts_186 (c2 := 9) (s2 := 793) ⟨by first | rfl | (dsimp only; omega), by first | rfl | (dsimp only; omega)⟩ ⟨by show 9 ≤ 2970; omega, by show 793 ≤ 18559; omega⟩ (fun rr ad' S' H locs hQ hP hS => ?_)
                    have hc9 : (ceC S y292) ∧ (1 ≤ (1 + y293) ∧ (1 + y293) ≤ 4 ∧ (1 + y293) ≤ S (4 + y292.toNat) 0 0) ∧ (1 ≤ S (4 + y292.toNat) 0 1 ∧ S 1 0 6 < 20) := ⟨hI.ce.mpr (by omega), h_B, h_C⟩
                    obtain ⟨⟨hr9, ek9⟩, hQ⟩ := hQ
                    have hs9 := (hQ.resolve_left (fun y9 => y9.1 hc9)).2
                    subst hr9
                    rw [hs9] at hP
                    refine q_nm (b := S 1 0 6) ((lv_0 hc9.1 hc9.2.1 hc9.2.2).trans (rfl)) ?_
                    obtain ⟨ad306, had306⟩ : ∃ a9 : Nat → Nat → Nat, a9 = ad' := ⟨_, rfl⟩
                    rw [← had306] at ek9 hP
                    have ek_ad306 : ∀ x q, x < 4 → ad306 x q = ad x q := fun x q h => (ek9 x q h)
                    have el_ad306 : ∀ x q, x < 4 → ad306 x q = ad x q := ek9
                    have hl : lv_has ls 13 [(9, .int (i32 (1 + y293))), (8, .int (i32 (y292))), (7, .int (i32 (y1))), (0, .ref (ad306 1 0)), (1, .ref (ad306 3 1)), (2, .ref (ad306 3 2)), (3, .ref (ad306 3 3)), (4, .ref (ad306 3 4)), (5, .int (i32 (x))), (6, .int (i32 (y)))] := by
                      have t9 := hl
                      rw [← el_ad306 1 0 (by decide), ← el_ad306 3 1 (by decide), ← el_ad306 3 2 (by decide), ← el_ad306 3 3 (by decide), ← el_ad306 3 4 (by decide)] at t9
                      exact t9
                    skip
                    generalize eS307 : lmS S y292 (1 + y293) True = S307 at hP
                    have rS307 : ∀ (a1 b1 : Nat) (i1 : Int), rng (S307 a1 b1 i1) := fun a1 b1 i1 => hP.rg a1 b1 i1
                    have ivS307 : IV S307 := by rw [← eS307]; exact w9.1
                    have h3S307 : ∀ (b1 : Nat) (i1 : Int), S307 3 b1 i1 = S 3 b1 i1 := by rw [← eS307]; exact fun b i => w9.2.1.2.2 3 b i (by omega) (by omega)
                    rw [eS307] at w9
                    obtain ⟨-, ⟨g6, g7, fr9⟩, gtr, gln⟩ := w9
                    refine lv_istore (lv' := [(10, .int (i32 (S 1 0 6))), (9, .int (i32 (1 + y293))), (8, .int (i32 (y292))), (7, .int (i32 (y1))), (0, .ref (ad306 1 0)), (1, .ref (ad306 3 1)), (2, .ref (ad306 3 2)), (3, .ref (ad306 3 3)), (4, .ref (ad306 3 4)), (5, .int (i32 (x))), (6, .int (i32 (y)))]) hx hb dL_acts_189 hl (by decide) rfl (fun ls hl => ?_)
                    refine lv_iload hx hb dL_acts_191 (lv_at hl 1 rfl) ?_
                    refine lv_aload_n hx hb dL_acts_193 rfl (lv_at hl 6 rfl) ?_
                    refine lv_iconst (v := i32 (2)) hx hb dL_acts_194 rfl ?_
                    refine lv_iload hx hb dL_acts_195 (lv_at hl 2 rfl) ?_
                    refine q_imul hx hb dL_acts_197 ?_
                    refine p_iald (k := 3) (r := 2) (n := 10) hx hb hK hP ivS307.a.2.2 rfl rfl (by decide) (by decide) (by omega) (by omega) dL_acts_198 ?_
                    refine q_nm (show S307 3 2 (2 * y292) = S 3 2 (2 * y292) from by rw [h3S307]) ?_
                    refine q_icmp_le (tgt := 215) hx hb ⟨by omega, by omega⟩ (rS _ _ _) dL_acts_199 (by decide) (fun c_308 => ?_) (fun c_308 => (by exfalso; omega))
                    refine lv_aload_n hx hb dL_acts_215 rfl (lv_at hl 6 rfl) ?_
                    refine lv_iconst (v := i32 (2)) hx hb dL_acts_216 rfl ?_
                    refine lv_iload hx hb dL_acts_217 (lv_at hl 2 rfl) ?_
                    refine q_imul hx hb dL_acts_219 ?_
                    refine lv_iconst (v := i32 (1)) hx hb dL_acts_220 rfl ?_
                    refine q_iadd hx hb dL_acts_221 ?_
                    refine p_iald (k := 3) (r := 2) (n := 10) hx hb hK hP ivS307.a.2.2 rfl rfl (by decide) (by decide) (by omega) (by omega) dL_acts_222 ?_
                    refine q_nm (show S307 3 2 ((2 * y292) + 1) = S 3 2 ((2 * y292) + 1) from by rw [h3S307]) ?_
                    refine q_if_eq (tgt := 234) hx hb (rS _ _ _) dL_acts_223 (by decide) (fun c_309 => (by exfalso; omega)) (fun c_309 => ?_)
                    refine lv_aload_n hx hb dL_acts_226 rfl (lv_at hl 5 rfl) ?_
                    refine lv_iconst (v := i32 (2)) hx hb dL_acts_227 rfl ?_
                    refine p_iald (k := 3) (r := 1) (n := 4) hx hb hK hP ivS307.a.2.2 rfl rfl (by decide) (by decide) (by omega) (by omega) dL_acts_228 ?_
                    refine q_nm (show S307 3 1 2 = S 3 1 2 from by rw [h3S307]) ?_
                    refine lv_bipush (v := i32 (20)) hx hb dL_acts_229 (by decide) ?_
                    refine q_icmp_ne (tgt := 247) hx hb (rS _ _ _) ⟨by decide, by decide⟩ dL_acts_231 (by decide) (fun c_310 => ?_) (fun c_310 => (by exfalso; omega))
                    refine lv_aload_n hx hb dL_acts_247 rfl (lv_at hl 5 rfl) ?_
                    refine lv_iconst (v := i32 (2)) hx hb dL_acts_248 rfl ?_
                    refine lv_dup2_11 hx hb dL_acts_249 rfl rfl ?_
                    refine p_iald (k := 3) (r := 1) (n := 4) hx hb hK hP ivS307.a.2.2 rfl rfl (by decide) (by decide) (by omega) (by omega) dL_acts_250 ?_
                    refine q_nm (show S307 3 1 2 = S 3 1 2 from by rw [h3S307]) ?_
                    refine lv_iconst (v := i32 (1)) hx hb dL_acts_251 rfl ?_
                    refine q_iadd hx hb dL_acts_252 ?_
                    refine p_iast (k := 3) (r := 1) (n := 4) hx hb hK hP hS ivS307.a.2.2 rfl rfl (by decide) (by decide) (by omega) (by omega) ⟨by omega, by omega⟩ dL_acts_253 (fun H locs hP hS => ?_)
                    generalize eS311 : st S307 3 1 2 ((S 3 1 2) + 1) = S311 at hP
                    have qS311 : ∀ (a1 b1 : Nat) (i1 : Int), S311 a1 b1 i1 = if a1 = 3 ∧ b1 = 1 ∧ i1 = 2 then (S 3 1 2) + 1 else S307 a1 b1 i1 := fun a1 b1 i1 => by rw [← eS311]; exact st_at _ _ _ _ _ _ _ _
                    have rS311 : ∀ (a1 b1 : Nat) (i1 : Int), rng (S311 a1 b1 i1) := fun a1 b1 i1 => hP.rg a1 b1 i1
                    have aS311_1 : S311 1 0 (-1) = 1 := by rw [qS311, if_neg (by omega)]; exact ivS307.a.1
                    have aS311_2 : S311 2 0 (-1) = 1 := by rw [qS311, if_neg (by omega)]; exact ivS307.a.2.1
                    have aS311_3 : S311 3 0 (-1) = 1 := by rw [qS311, if_neg (by omega)]; exact ivS307.a.2.2
                    have ivS311 : IV S311 := by rw [← eS311]; exact IV_3 ivS307 (by decide)
                    have en : ∀ a : Nat, a ≠ 3 → S311 a = S307 a := fun a h => fe (fun b i => by rw [qS311, if_neg (by omega)])
                    have kN2 : peC S311 (S 1 0 6) := ⟨hp20.1, by omega, by rw [en 1 (by decide)]; exact g7⟩
                    obtain ⟨na1, na2, na3⟩ := ob_k (en (10 + Int.toNat (S 1 0 6)) (by omega))
                    have lv9 : LV S311 := LV_n hV hI.k.1.2 (fun b i h => by rw [qS311, if_neg (by omega), fr9 _ _ _ (by omega) (by omega)]) (by rw [qS311, if_pos ⟨rfl, rfl, rfl⟩, en 1 (by decide), g6, v2]) (by rw [en 1 (by decide), fr9 _ _ _ (by omega) (by omega)]) (by rw [en 2 (by decide)]; exact fe (fun b i => fr9 _ _ _ (by omega) (by omega))) (fun a h1 h2 => by rw [en a (by omega)]; exact fe (fun b i => fr9 _ _ _ (by omega) (by omega)))
                    have hcc : ceC S311 y292 := ivS311.ce.mpr (by rw [en 1 (by decide), fr9 _ _ _ (by omega) (by omega)]; omega)
                    have hm0 : 0 ≤ (S 3 2 (2 * y292)) * (S 3 2 ((2 * y292) + 1)) := Int.mul_nonneg (by omega) (by omega)
                    have hm1 : (S 3 2 (2 * y292)) * (S 3 2 ((2 * y292) + 1)) ≤ 240 := mul240 (by omega) (by omega) (by omega) (by omega)
                    refine lv_iload hx hb dL_acts_254 (lv_at hl 0 rfl) ?_
                    refine lv_aload_n hx hb dL_acts_256 rfl (lv_at hl 5 rfl) ?_
                    refine lv_iconst (v := i32 (2)) hx hb dL_acts_257 rfl ?_
                    refine p_iald (k := 3) (r := 1) (n := 4) hx hb hK hP aS311_3 rfl rfl (by decide) (by decide) (by omega) (by omega) dL_acts_258 ?_
                    refine q_nm (show S311 3 1 2 = (S 3 1 2) + 1 from by rw [qS311, if_pos ⟨rfl, rfl, rfl⟩]) ?_
                    refine lv_iconst (v := i32 (1)) hx hb dL_acts_259 rfl ?_
                    refine q_isub hx hb dL_acts_260 ?_
                    refine q_icmp_ne (tgt := 314) hx hb (rS _ _ _) ⟨by omega, by omega⟩ dL_acts_261 (by decide) (fun c_312 => (by exfalso; omega)) (fun c_312 => ?_)
                    refine lv_aload_n hx hb dL_acts_264 rfl (lv_at hl 4 rfl) ?_
                    refine lv_iload hx hb dL_acts_265 (lv_at hl 0 rfl) ?_
                    refine lv_iload hx hb dL_acts_267 (lv_at hl 2 rfl) ?_
                    refine q_callH2 (As := [.ref (ad306 1 0), .int (i32 (S 1 0 6)), .int (i32 (y292))]) (rest := []) hx hb hml hl.1 hown hK hZ hP hS (c_L_likeness l g base ad306 S311 (S 1 0 6) y292 hfl ivS311.wc (rS _ _ _) ⟨by omega, by omega⟩) t_504 t_14 t_506 t_505 f_yL_likeness ⟨Nat.le_of_ble_eq_true rfl, Nat.le_of_ble_eq_true rfl⟩ rfl rfl (Nat.le_of_ble_eq_true rfl) dL_acts_269 (c2 := 11) (s2 := 805) ⟨by first | rfl | (dsimp only; omega), by first | rfl | (dsimp only; omega)⟩ ⟨by show 11 ≤ 2970; omega, by show 805 ≤ 18559; omega⟩ (q_an (fun H locs hP hS => ?_))
                    refine q_nm (b := S 3 2 (2 * y292) * S 3 2 ((2 * y292) + 1)) ((lv_0 ⟨kN2, hcc⟩ trivial trivial).trans (by rw [ln_k (en _ (by omega)) (en _ (by omega)), gln, ← hd1, ← hd3])) ?_
                    refine lv_aload_n hx hb dL_acts_272 rfl (lv_at hl 6 rfl) ?_
                    refine lv_iconst (v := i32 (2)) hx hb dL_acts_273 rfl ?_
                    refine lv_iload hx hb dL_acts_274 (lv_at hl 2 rfl) ?_
                    refine q_imul hx hb dL_acts_276 ?_
                    refine p_iald (k := 3) (r := 2) (n := 10) hx hb hK hP aS311_3 rfl rfl (by decide) (by decide) (by omega) (by omega) dL_acts_277 ?_
                    refine q_nm (show S311 3 2 (2 * y292) = S 3 2 (2 * y292) from by rw [qS311, if_neg (by omega), h3S307]) ?_
                    refine lv_aload_n hx hb dL_acts_278 rfl (lv_at hl 6 rfl) ?_
                    refine lv_iconst (v := i32 (2)) hx hb dL_acts_279 rfl ?_
                    refine lv_iload hx hb dL_acts_280 (lv_at hl 2 rfl) ?_
                    refine q_imul hx hb dL_acts_282 ?_
                    refine lv_iconst (v := i32 (1)) hx hb dL_acts_283 rfl ?_
                    refine q_iadd hx hb dL_acts_284 ?_
                    refine p_iald (k := 3) (r := 2) (n := 10) hx hb hK hP aS311_3 rfl rfl (by decide) (by decide) (by omega) (by omega) dL_acts_285 ?_
                    refine q_nm (show S311 3 2 ((2 * y292) + 1) = S 3 2 ((2 * y292) + 1) from by rw [qS311, if_neg (by omega), h3S307]) ?_
                    refine q_imul hx hb dL_acts_286 ?_
                    refine q_icmp_ne (tgt := 314) hx hb ⟨by omega, by omega⟩ ⟨by omega, by omega⟩ dL_acts_287 (by decide) (fun c_313 => (by exfalso; omega)) (fun c_313 => ?_)
                    refine lv_aload_n hx hb dL_acts_290 rfl (lv_at hl 4 rfl) ?_
                    refine lv_iload hx hb dL_acts_291 (lv_at hl 0 rfl) ?_
                    refine q_callH2 (As := [.ref (ad306 1 0), .int (i32 (S 1 0 6))]) (rest := []) hx hb hml hl.1 hown hK hZ hP hS (c_L_isTrue l g base ad306 S311 (S 1 0 6) hfl ivS311.wc (rS _ _ _)) t_516 t_14 t_518 t_517 f_yL_isTrue ⟨Nat.le_of_ble_eq_true rfl, Nat.le_of_ble_eq_true rfl⟩ rfl rfl (Nat.le_of_ble_eq_true rfl) dL_acts_293 (c2 := 12) (s2 := 811) ⟨by first | rfl | (dsimp only; omega), by first | rfl | (dsimp only; omega)⟩ ⟨by show 12 ≤ 2970; omega, by show 811 ≤ 18559; omega⟩ (q_an (fun H locs hP hS => ?_))
                    refine q_nm (b := 1) ((lv_0 kN2 trivial trivial).trans (b2_t (na3.mpr gtr))) ?_
                    refine lv_iconst (v := i32 (1)) hx hb dL_acts_296 rfl ?_
                    refine q_icmp_ne (tgt := 314) hx hb ⟨by decide, by decide⟩ ⟨by decide, by decide⟩ dL_acts_297 (by decide) (fun c_314 => (by exfalso; omega)) (fun c_314 => ?_)
                    refine lv_aload_n hx hb dL_acts_300 rfl (lv_at hl 4 rfl) ?_
                    refine lv_aload_n hx hb dL_acts_301 rfl (lv_at hl 7 rfl) ?_
                    refine lv_iload hx hb dL_acts_302 (lv_at hl 0 rfl) ?_
                    refine q_callS2 (As := [.ref (ad306 1 0), .ref (ad306 3 3), .int (i32 (S 1 0 6))]) (rest := []) hx hb hml hl.1 hown hK hZ hP hS (c_L_isPiece l g base ad306 S311 (S 1 0 6) hfl ivS311 kN2 lv9.2.2.2 (rS _ _ _)) t_329 (q_callB hK 328 14 330 t_328 t_14 t_330 f_yL_isPiece ⟨Nat.le_of_ble_eq_true rfl, Nat.le_of_ble_eq_true rfl⟩) rfl rfl (Nat.le_of_ble_eq_true rfl) dL_acts_304 (c2 := 1472) (s2 := 9571) ⟨by first | rfl | (dsimp only; omega), by first | rfl | (dsimp only; omega)⟩ ⟨by show 1472 ≤ 2970; omega, by show 9571 ≤ 18559; omega⟩ (q_an (fun H locs hP hS => ?_))
                    refine q_if_eq (tgt := 314) hx hb ⟨by decide, by decide⟩ dL_acts_307 (by decide) (fun h => by omega) (fun _ => ?_)
                    refine lv_iconst (v := i32 (1)) hx hb dL_acts_310 rfl ?_
                    refine lv_goto (tgt := 315) hx hb dL_acts_311 (by decide) ?_
                    subst hQm
                    exact q_zret hx hb hr hlocks hP hS (v := 1) (by decide) (by exact ⟨⟨rfl, ek_ad306⟩, ivS311, lv9⟩) (by show 1472 ≤ 2970; omega) (by show 9571 ≤ 18559; omega) dL_acts_315
                · skip
                  obtain ⟨hd1, hd2, hd3⟩ := vd y292 (by omega) (by omega)
                  obtain ⟨⟨-, hcw1, hcw2⟩, -⟩ := hI.k.2.2 y292 (by omega) (by omega)
                  refine lv_aload_n hx hb dL_acts_165 rfl (lv_at hl 3 rfl) ?_
                  refine lv_iload hx hb dL_acts_166 (lv_at hl 1 rfl) ?_
                  refine lv_iload hx hb dL_acts_168 (lv_at hl 0 rfl) ?_
                  refine lv_iload hx hb dL_acts_170 (lv_at hl 9 rfl) ?_
                  refine lv_iconst (v := i32 (2)) hx hb dL_acts_172 rfl ?_
                  refine lv_ishr hx hb dL_acts_173 ?_
                  obtain ⟨z315, rz315, hz315⟩ := i32_of (i32 (y) >>> (i32 (2) &&& 31))
                  rw [hz315]
                  refine lv_iconst (v := i32 (2)) hx hb dL_acts_174 rfl ?_
                  refine q_callS2 (As := [.int (i32 (z315)), .int (i32 (2))]) (rest := [.int (i32 (1 + y293)), .int (i32 (y292)), .ref (ad 1 0)]) hx hb hml hl.1 hown hK hZ hP hS (c_L_low l g base ad S z315 ((2 : Int)) rz315 (by omega)) t_122 (q_callB hK 121 14 123 t_121 t_14 t_123 f_yL_low ⟨Nat.le_of_ble_eq_true rfl, Nat.le_of_ble_eq_true rfl⟩) rfl rfl (Nat.le_of_ble_eq_true rfl) dL_acts_175 (c2 := 0) (s2 := 0) ⟨by first | rfl | (dsimp only; omega), by first | rfl | (dsimp only; omega)⟩ ⟨by show 0 ≤ 2970; omega, by show 0 ≤ 18559; omega⟩ (q_an (fun H locs hP hS => ?_))
                  obtain ⟨y316, hy316⟩ : ∃ y99 : Int, loF z315 ((2 : Int)) = y99 := ⟨_, rfl⟩
                  have by316 := lo_b z315 (show 1 ≤ ((2 : Int)) by omega)
                  rw [hy316] at by316
                  refine q_nm hy316 ?_
                  refine q_if_ne (tgt := 185) hx hb ⟨by omega, by omega⟩ dL_acts_178 (by decide) (fun c_317 => ?_) (fun c_317 => ?_)
                  · -- y316 ≠ 0
                    refine lv_iconst (v := i32 (0)) hx hb dL_acts_185 rfl ?_
                    refine W.eq (g2 := F0 m 186 ls (Value.int (i32 (b2 (False))) :: Value.int (i32 (1 + y293)) :: Value.int (i32 (y292)) :: Value.ref (ad 1 0) :: [])) (by simp only [b2_t trivial, b2_f not_false] <;> rfl) ?_
                    refine q_callH2 (As := [.ref (ad 1 0), .int (i32 (y292)), .int (i32 (1 + y293)), .int (i32 (b2 (False)))]) (rest := []) hx hb hml hl.1 hown hK hZ hP hS (c_L_loom l g base ad S y292 (1 + y293) False hfl hI.wc ⟨by omega, by omega⟩ ⟨by omega, by omega⟩ hI.hcf hI.hpf) t_442 t_14 t_444 t_443 f_yL_loom ⟨Nat.le_of_ble_eq_true rfl, Nat.le_of_ble_eq_true rfl⟩ rfl rfl (Nat.le_of_ble_eq_true rfl) dL_acts_186 (c2 := 9) (s2 := 793) ⟨by first | rfl | (dsimp only; omega), by first | rfl | (dsimp only; omega)⟩ ⟨by show 9 ≤ 2970; omega, by show 793 ≤ 18559; omega⟩ (fun rr ad' S' H locs hQ hP hS => ?_)
                    obtain ⟨⟨hr9, ek9⟩, hQ⟩ := hQ
                    have hc9_1 : ceC S y292 := hI.ce.mpr (by omega)
                    have hc9_2 : 1 ≤ (1 + y293) ∧ (1 + y293) ≤ 4 ∧ (1 + y293) ≤ S (4 + y292.toNat) 0 0 := h_B
                    have hc9_3 : ¬ (1 ≤ S (4 + y292.toNat) 0 1 ∧ S 1 0 6 < 20) := h_C
                    have hs9 := (hQ.resolve_right (fun y9 => hc9_3 y9.1.2.2)).2
                    subst hr9
                    rw [hs9] at hP
                    obtain ⟨ad318, had318⟩ : ∃ a9 : Nat → Nat → Nat, a9 = ad' := ⟨_, rfl⟩
                    rw [← had318] at ek9 hP
                    have ek_ad318 : ∀ x q, x < 4 → ad318 x q = ad x q := fun x q h => (ek9 x q h)
                    have el_ad318 : ∀ x q, x < 4 → ad318 x q = ad x q := ek9
                    have hl : lv_has ls 13 [(9, .int (i32 (1 + y293))), (8, .int (i32 (y292))), (7, .int (i32 (y1))), (0, .ref (ad318 1 0)), (1, .ref (ad318 3 1)), (2, .ref (ad318 3 2)), (3, .ref (ad318 3 3)), (4, .ref (ad318 3 4)), (5, .int (i32 (x))), (6, .int (i32 (y)))] := by
                      have t9 := hl
                      rw [← el_ad318 1 0 (by decide), ← el_ad318 3 1 (by decide), ← el_ad318 3 2 (by decide), ← el_ad318 3 3 (by decide), ← el_ad318 3 4 (by decide)] at t9
                      exact t9
                    skip
                    refine q_nm (lv_3 hc9_1 hc9_2 hc9_3) ?_
                    refine lv_istore (lv' := [(10, .int (i32 (-1000003))), (9, .int (i32 (1 + y293))), (8, .int (i32 (y292))), (7, .int (i32 (y1))), (0, .ref (ad318 1 0)), (1, .ref (ad318 3 1)), (2, .ref (ad318 3 2)), (3, .ref (ad318 3 3)), (4, .ref (ad318 3 4)), (5, .int (i32 (x))), (6, .int (i32 (y)))]) hx hb dL_acts_189 hl (by decide) rfl (fun ls hl => ?_)
                    refine lv_iload hx hb dL_acts_191 (lv_at hl 1 rfl) ?_
                    refine lv_aload_n hx hb dL_acts_193 rfl (lv_at hl 6 rfl) ?_
                    refine lv_iconst (v := i32 (2)) hx hb dL_acts_194 rfl ?_
                    refine lv_iload hx hb dL_acts_195 (lv_at hl 2 rfl) ?_
                    refine q_imul hx hb dL_acts_197 ?_
                    refine p_iald (k := 3) (r := 2) (n := 10) hx hb hK hP hI.a.2.2 rfl rfl (by decide) (by decide) (by omega) (by omega) dL_acts_198 ?_
                    refine q_icmp_le (tgt := 215) hx hb ⟨by omega, by omega⟩ (rS _ _ _) dL_acts_199 (by decide) (fun c_319 => ?_) (fun c_319 => (by exfalso; omega))
                    refine lv_aload_n hx hb dL_acts_215 rfl (lv_at hl 6 rfl) ?_
                    refine lv_iconst (v := i32 (2)) hx hb dL_acts_216 rfl ?_
                    refine lv_iload hx hb dL_acts_217 (lv_at hl 2 rfl) ?_
                    refine q_imul hx hb dL_acts_219 ?_
                    refine lv_iconst (v := i32 (1)) hx hb dL_acts_220 rfl ?_
                    refine q_iadd hx hb dL_acts_221 ?_
                    refine p_iald (k := 3) (r := 2) (n := 10) hx hb hK hP hI.a.2.2 rfl rfl (by decide) (by decide) (by omega) (by omega) dL_acts_222 ?_
                    refine q_if_eq (tgt := 234) hx hb (rS _ _ _) dL_acts_223 (by decide) (fun c_320 => ?_) (fun c_320 => ?_)
                    · -- (S 3 2 ((2 * y292) + 1)) = 0
                      refine lv_iload hx hb dL_acts_234 (lv_at hl 0 rfl) ?_
                      refine q_ldc (z := -1000003) hx hb hown hK t_250 rfl dL_acts_236 ?_
                      refine q_icmp_ne (tgt := 245) hx hb ⟨by decide, by decide⟩ ⟨by decide, by decide⟩ dL_acts_238 (by decide) (fun c_321 => (by exfalso; omega)) (fun c_321 => ?_)
                      refine lv_iconst (v := i32 (1)) hx hb dL_acts_241 rfl ?_
                      refine lv_goto (tgt := 246) hx hb dL_acts_242 (by decide) ?_
                      subst hQm
                      exact q_zret hx hb hr hlocks hP hS (v := 1) (by decide) (by exact ⟨⟨rfl, ek_ad318⟩, hI, hV⟩) (by show 9 ≤ 2970; omega) (by show 793 ≤ 18559; omega) dL_acts_246
                    · -- (S 3 2 ((2 * y292) + 1)) ≠ 0
                      refine lv_aload_n hx hb dL_acts_226 rfl (lv_at hl 5 rfl) ?_
                      refine lv_iconst (v := i32 (2)) hx hb dL_acts_227 rfl ?_
                      refine p_iald (k := 3) (r := 1) (n := 4) hx hb hK hP hI.a.2.2 rfl rfl (by decide) (by decide) (by omega) (by omega) dL_acts_228 ?_
                      refine lv_bipush (v := i32 (20)) hx hb dL_acts_229 (by decide) ?_
                      refine q_icmp_ne (tgt := 247) hx hb (rS _ _ _) ⟨by decide, by decide⟩ dL_acts_231 (by decide) (fun c_322 => (by exfalso; exact h_C ⟨by omega, by omega⟩)) (fun c_322 => ?_)
                      refine lv_iload hx hb dL_acts_234 (lv_at hl 0 rfl) ?_
                      refine q_ldc (z := -1000003) hx hb hown hK t_250 rfl dL_acts_236 ?_
                      refine q_icmp_ne (tgt := 245) hx hb ⟨by decide, by decide⟩ ⟨by decide, by decide⟩ dL_acts_238 (by decide) (fun c_323 => (by exfalso; omega)) (fun c_323 => ?_)
                      refine lv_iconst (v := i32 (1)) hx hb dL_acts_241 rfl ?_
                      refine lv_goto (tgt := 246) hx hb dL_acts_242 (by decide) ?_
                      subst hQm
                      exact q_zret hx hb hr hlocks hP hS (v := 1) (by decide) (by exact ⟨⟨rfl, ek_ad318⟩, hI, hV⟩) (by show 9 ≤ 2970; omega) (by show 793 ≤ 18559; omega) dL_acts_246
                  · -- y316 = 0
                    refine lv_iconst (v := i32 (1)) hx hb dL_acts_181 rfl ?_
                    refine lv_goto (tgt := 186) hx hb dL_acts_182 (by decide) ?_
                    refine W.eq (g2 := F0 m 186 ls (Value.int (i32 (b2 (True))) :: Value.int (i32 (1 + y293)) :: Value.int (i32 (y292)) :: Value.ref (ad 1 0) :: [])) (by simp only [b2_t trivial, b2_f not_false] <;> rfl) ?_
                    refine q_callH2 (As := [.ref (ad 1 0), .int (i32 (y292)), .int (i32 (1 + y293)), .int (i32 (b2 (True)))]) (rest := []) hx hb hml hl.1 hown hK hZ hP hS (c_L_loom l g base ad S y292 (1 + y293) True hfl hI.wc ⟨by omega, by omega⟩ ⟨by omega, by omega⟩ hI.hcf hI.hpf) t_442 t_14 t_444 t_443 f_yL_loom ⟨Nat.le_of_ble_eq_true rfl, Nat.le_of_ble_eq_true rfl⟩ rfl rfl (Nat.le_of_ble_eq_true rfl) dL_acts_186 (c2 := 9) (s2 := 793) ⟨by first | rfl | (dsimp only; omega), by first | rfl | (dsimp only; omega)⟩ ⟨by show 9 ≤ 2970; omega, by show 793 ≤ 18559; omega⟩ (fun rr ad' S' H locs hQ hP hS => ?_)
                    obtain ⟨⟨hr9, ek9⟩, hQ⟩ := hQ
                    have hc9_1 : ceC S y292 := hI.ce.mpr (by omega)
                    have hc9_2 : 1 ≤ (1 + y293) ∧ (1 + y293) ≤ 4 ∧ (1 + y293) ≤ S (4 + y292.toNat) 0 0 := h_B
                    have hc9_3 : ¬ (1 ≤ S (4 + y292.toNat) 0 1 ∧ S 1 0 6 < 20) := h_C
                    have hs9 := (hQ.resolve_right (fun y9 => hc9_3 y9.1.2.2)).2
                    subst hr9
                    rw [hs9] at hP
                    obtain ⟨ad324, had324⟩ : ∃ a9 : Nat → Nat → Nat, a9 = ad' := ⟨_, rfl⟩
                    rw [← had324] at ek9 hP
                    have ek_ad324 : ∀ x q, x < 4 → ad324 x q = ad x q := fun x q h => (ek9 x q h)
                    have el_ad324 : ∀ x q, x < 4 → ad324 x q = ad x q := ek9
                    have hl : lv_has ls 13 [(9, .int (i32 (1 + y293))), (8, .int (i32 (y292))), (7, .int (i32 (y1))), (0, .ref (ad324 1 0)), (1, .ref (ad324 3 1)), (2, .ref (ad324 3 2)), (3, .ref (ad324 3 3)), (4, .ref (ad324 3 4)), (5, .int (i32 (x))), (6, .int (i32 (y)))] := by
                      have t9 := hl
                      rw [← el_ad324 1 0 (by decide), ← el_ad324 3 1 (by decide), ← el_ad324 3 2 (by decide), ← el_ad324 3 3 (by decide), ← el_ad324 3 4 (by decide)] at t9
                      exact t9
                    skip
                    refine q_nm (lv_3 hc9_1 hc9_2 hc9_3) ?_
                    refine lv_istore (lv' := [(10, .int (i32 (-1000003))), (9, .int (i32 (1 + y293))), (8, .int (i32 (y292))), (7, .int (i32 (y1))), (0, .ref (ad324 1 0)), (1, .ref (ad324 3 1)), (2, .ref (ad324 3 2)), (3, .ref (ad324 3 3)), (4, .ref (ad324 3 4)), (5, .int (i32 (x))), (6, .int (i32 (y)))]) hx hb dL_acts_189 hl (by decide) rfl (fun ls hl => ?_)
                    refine lv_iload hx hb dL_acts_191 (lv_at hl 1 rfl) ?_
                    refine lv_aload_n hx hb dL_acts_193 rfl (lv_at hl 6 rfl) ?_
                    refine lv_iconst (v := i32 (2)) hx hb dL_acts_194 rfl ?_
                    refine lv_iload hx hb dL_acts_195 (lv_at hl 2 rfl) ?_
                    refine q_imul hx hb dL_acts_197 ?_
                    refine p_iald (k := 3) (r := 2) (n := 10) hx hb hK hP hI.a.2.2 rfl rfl (by decide) (by decide) (by omega) (by omega) dL_acts_198 ?_
                    refine q_icmp_le (tgt := 215) hx hb ⟨by omega, by omega⟩ (rS _ _ _) dL_acts_199 (by decide) (fun c_325 => ?_) (fun c_325 => (by exfalso; omega))
                    refine lv_aload_n hx hb dL_acts_215 rfl (lv_at hl 6 rfl) ?_
                    refine lv_iconst (v := i32 (2)) hx hb dL_acts_216 rfl ?_
                    refine lv_iload hx hb dL_acts_217 (lv_at hl 2 rfl) ?_
                    refine q_imul hx hb dL_acts_219 ?_
                    refine lv_iconst (v := i32 (1)) hx hb dL_acts_220 rfl ?_
                    refine q_iadd hx hb dL_acts_221 ?_
                    refine p_iald (k := 3) (r := 2) (n := 10) hx hb hK hP hI.a.2.2 rfl rfl (by decide) (by decide) (by omega) (by omega) dL_acts_222 ?_
                    refine q_if_eq (tgt := 234) hx hb (rS _ _ _) dL_acts_223 (by decide) (fun c_326 => ?_) (fun c_326 => ?_)
                    · -- (S 3 2 ((2 * y292) + 1)) = 0
                      refine lv_iload hx hb dL_acts_234 (lv_at hl 0 rfl) ?_
                      refine q_ldc (z := -1000003) hx hb hown hK t_250 rfl dL_acts_236 ?_
                      refine q_icmp_ne (tgt := 245) hx hb ⟨by decide, by decide⟩ ⟨by decide, by decide⟩ dL_acts_238 (by decide) (fun c_327 => (by exfalso; omega)) (fun c_327 => ?_)
                      refine lv_iconst (v := i32 (1)) hx hb dL_acts_241 rfl ?_
                      refine lv_goto (tgt := 246) hx hb dL_acts_242 (by decide) ?_
                      subst hQm
                      exact q_zret hx hb hr hlocks hP hS (v := 1) (by decide) (by exact ⟨⟨rfl, ek_ad324⟩, hI, hV⟩) (by show 9 ≤ 2970; omega) (by show 793 ≤ 18559; omega) dL_acts_246
                    · -- (S 3 2 ((2 * y292) + 1)) ≠ 0
                      refine lv_aload_n hx hb dL_acts_226 rfl (lv_at hl 5 rfl) ?_
                      refine lv_iconst (v := i32 (2)) hx hb dL_acts_227 rfl ?_
                      refine p_iald (k := 3) (r := 1) (n := 4) hx hb hK hP hI.a.2.2 rfl rfl (by decide) (by decide) (by omega) (by omega) dL_acts_228 ?_
                      refine lv_bipush (v := i32 (20)) hx hb dL_acts_229 (by decide) ?_
                      refine q_icmp_ne (tgt := 247) hx hb (rS _ _ _) ⟨by decide, by decide⟩ dL_acts_231 (by decide) (fun c_328 => (by exfalso; exact h_C ⟨by omega, by omega⟩)) (fun c_328 => ?_)
                      refine lv_iload hx hb dL_acts_234 (lv_at hl 0 rfl) ?_
                      refine q_ldc (z := -1000003) hx hb hown hK t_250 rfl dL_acts_236 ?_
                      refine q_icmp_ne (tgt := 245) hx hb ⟨by decide, by decide⟩ ⟨by decide, by decide⟩ dL_acts_238 (by decide) (fun c_329 => (by exfalso; omega)) (fun c_329 => ?_)
                      refine lv_iconst (v := i32 (1)) hx hb dL_acts_241 rfl ?_
                      refine lv_goto (tgt := 246) hx hb dL_acts_242 (by decide) ?_
                      subst hQm
                      exact q_zret hx hb hr hlocks hP hS (v := 1) (by decide) (by exact ⟨⟨rfl, ek_ad324⟩, hI, hV⟩) (by show 9 ≤ 2970; omega) (by show 793 ≤ 18559; omega) dL_acts_246
              · skip
                obtain ⟨hd1, hd2, hd3⟩ := vd y292 (by omega) (by omega)
                obtain ⟨⟨-, hcw1, hcw2⟩, -⟩ := hI.k.2.2 y292 (by omega) (by omega)
                refine lv_aload_n hx hb dL_acts_165 rfl (lv_at hl 3 rfl) ?_
                refine lv_iload hx hb dL_acts_166 (lv_at hl 1 rfl) ?_
                refine lv_iload hx hb dL_acts_168 (lv_at hl 0 rfl) ?_
                refine lv_iload hx hb dL_acts_170 (lv_at hl 9 rfl) ?_
                refine lv_iconst (v := i32 (2)) hx hb dL_acts_172 rfl ?_
                refine lv_ishr hx hb dL_acts_173 ?_
                obtain ⟨z330, rz330, hz330⟩ := i32_of (i32 (y) >>> (i32 (2) &&& 31))
                rw [hz330]
                refine lv_iconst (v := i32 (2)) hx hb dL_acts_174 rfl ?_
                refine q_callS2 (As := [.int (i32 (z330)), .int (i32 (2))]) (rest := [.int (i32 (1 + y293)), .int (i32 (y292)), .ref (ad 1 0)]) hx hb hml hl.1 hown hK hZ hP hS (c_L_low l g base ad S z330 ((2 : Int)) rz330 (by omega)) t_122 (q_callB hK 121 14 123 t_121 t_14 t_123 f_yL_low ⟨Nat.le_of_ble_eq_true rfl, Nat.le_of_ble_eq_true rfl⟩) rfl rfl (Nat.le_of_ble_eq_true rfl) dL_acts_175 (c2 := 0) (s2 := 0) ⟨by first | rfl | (dsimp only; omega), by first | rfl | (dsimp only; omega)⟩ ⟨by show 0 ≤ 2970; omega, by show 0 ≤ 18559; omega⟩ (q_an (fun H locs hP hS => ?_))
                obtain ⟨y331, hy331⟩ : ∃ y99 : Int, loF z330 ((2 : Int)) = y99 := ⟨_, rfl⟩
                have by331 := lo_b z330 (show 1 ≤ ((2 : Int)) by omega)
                rw [hy331] at by331
                refine q_nm hy331 ?_
                refine q_if_ne (tgt := 185) hx hb ⟨by omega, by omega⟩ dL_acts_178 (by decide) (fun c_332 => ?_) (fun c_332 => ?_)
                · -- y331 ≠ 0
                  refine lv_iconst (v := i32 (0)) hx hb dL_acts_185 rfl ?_
                  refine W.eq (g2 := F0 m 186 ls (Value.int (i32 (b2 (False))) :: Value.int (i32 (1 + y293)) :: Value.int (i32 (y292)) :: Value.ref (ad 1 0) :: [])) (by simp only [b2_t trivial, b2_f not_false] <;> rfl) ?_
                  refine q_callH2 (As := [.ref (ad 1 0), .int (i32 (y292)), .int (i32 (1 + y293)), .int (i32 (b2 (False)))]) (rest := []) hx hb hml hl.1 hown hK hZ hP hS (c_L_loom l g base ad S y292 (1 + y293) False hfl hI.wc ⟨by omega, by omega⟩ ⟨by omega, by omega⟩ hI.hcf hI.hpf) t_442 t_14 t_444 t_443 f_yL_loom ⟨Nat.le_of_ble_eq_true rfl, Nat.le_of_ble_eq_true rfl⟩ rfl rfl (Nat.le_of_ble_eq_true rfl) dL_acts_186 (c2 := 9) (s2 := 793) ⟨by first | rfl | (dsimp only; omega), by first | rfl | (dsimp only; omega)⟩ ⟨by show 9 ≤ 2970; omega, by show 793 ≤ 18559; omega⟩ (fun rr ad' S' H locs hQ hP hS => ?_)
                  obtain ⟨⟨hr9, ek9⟩, hQ⟩ := hQ
                  have hc9_1 : ceC S y292 := hI.ce.mpr (by omega)
                  have hc9_2 : ¬ (1 ≤ (1 + y293) ∧ (1 + y293) ≤ 4 ∧ (1 + y293) ≤ S (4 + y292.toNat) 0 0) := h_B
                  have hs9 := (hQ.resolve_right (fun y9 => hc9_2 y9.1.2.1)).2
                  subst hr9
                  rw [hs9] at hP
                  obtain ⟨ad333, had333⟩ : ∃ a9 : Nat → Nat → Nat, a9 = ad' := ⟨_, rfl⟩
                  rw [← had333] at ek9 hP
                  have ek_ad333 : ∀ x q, x < 4 → ad333 x q = ad x q := fun x q h => (ek9 x q h)
                  have el_ad333 : ∀ x q, x < 4 → ad333 x q = ad x q := ek9
                  have hl : lv_has ls 13 [(9, .int (i32 (1 + y293))), (8, .int (i32 (y292))), (7, .int (i32 (y1))), (0, .ref (ad333 1 0)), (1, .ref (ad333 3 1)), (2, .ref (ad333 3 2)), (3, .ref (ad333 3 3)), (4, .ref (ad333 3 4)), (5, .int (i32 (x))), (6, .int (i32 (y)))] := by
                    have t9 := hl
                    rw [← el_ad333 1 0 (by decide), ← el_ad333 3 1 (by decide), ← el_ad333 3 2 (by decide), ← el_ad333 3 3 (by decide), ← el_ad333 3 4 (by decide)] at t9
                    exact t9
                  skip
                  refine q_nm (lv_2 hc9_1 hc9_2) ?_
                  refine lv_istore (lv' := [(10, .int (i32 (-1000002))), (9, .int (i32 (1 + y293))), (8, .int (i32 (y292))), (7, .int (i32 (y1))), (0, .ref (ad333 1 0)), (1, .ref (ad333 3 1)), (2, .ref (ad333 3 2)), (3, .ref (ad333 3 3)), (4, .ref (ad333 3 4)), (5, .int (i32 (x))), (6, .int (i32 (y)))]) hx hb dL_acts_189 hl (by decide) rfl (fun ls hl => ?_)
                  refine lv_iload hx hb dL_acts_191 (lv_at hl 1 rfl) ?_
                  refine lv_aload_n hx hb dL_acts_193 rfl (lv_at hl 6 rfl) ?_
                  refine lv_iconst (v := i32 (2)) hx hb dL_acts_194 rfl ?_
                  refine lv_iload hx hb dL_acts_195 (lv_at hl 2 rfl) ?_
                  refine q_imul hx hb dL_acts_197 ?_
                  refine p_iald (k := 3) (r := 2) (n := 10) hx hb hK hP hI.a.2.2 rfl rfl (by decide) (by decide) (by omega) (by omega) dL_acts_198 ?_
                  refine q_icmp_le (tgt := 215) hx hb ⟨by omega, by omega⟩ (rS _ _ _) dL_acts_199 (by decide) (fun c_334 => (by exfalso; exact h_B ⟨by omega, by omega, by omega⟩)) (fun c_334 => ?_)
                  refine lv_iload hx hb dL_acts_202 (lv_at hl 0 rfl) ?_
                  refine q_ldc (z := -1000002) hx hb hown hK t_249 rfl dL_acts_204 ?_
                  refine q_icmp_ne (tgt := 213) hx hb ⟨by decide, by decide⟩ ⟨by decide, by decide⟩ dL_acts_206 (by decide) (fun c_335 => (by exfalso; omega)) (fun c_335 => ?_)
                  refine lv_iconst (v := i32 (1)) hx hb dL_acts_209 rfl ?_
                  refine lv_goto (tgt := 214) hx hb dL_acts_210 (by decide) ?_
                  subst hQm
                  exact q_zret hx hb hr hlocks hP hS (v := 1) (by decide) (by exact ⟨⟨rfl, ek_ad333⟩, hI, hV⟩) (by show 9 ≤ 2970; omega) (by show 793 ≤ 18559; omega) dL_acts_214
                · -- y331 = 0
                  refine lv_iconst (v := i32 (1)) hx hb dL_acts_181 rfl ?_
                  refine lv_goto (tgt := 186) hx hb dL_acts_182 (by decide) ?_
                  refine W.eq (g2 := F0 m 186 ls (Value.int (i32 (b2 (True))) :: Value.int (i32 (1 + y293)) :: Value.int (i32 (y292)) :: Value.ref (ad 1 0) :: [])) (by simp only [b2_t trivial, b2_f not_false] <;> rfl) ?_
                  refine q_callH2 (As := [.ref (ad 1 0), .int (i32 (y292)), .int (i32 (1 + y293)), .int (i32 (b2 (True)))]) (rest := []) hx hb hml hl.1 hown hK hZ hP hS (c_L_loom l g base ad S y292 (1 + y293) True hfl hI.wc ⟨by omega, by omega⟩ ⟨by omega, by omega⟩ hI.hcf hI.hpf) t_442 t_14 t_444 t_443 f_yL_loom ⟨Nat.le_of_ble_eq_true rfl, Nat.le_of_ble_eq_true rfl⟩ rfl rfl (Nat.le_of_ble_eq_true rfl) dL_acts_186 (c2 := 9) (s2 := 793) ⟨by first | rfl | (dsimp only; omega), by first | rfl | (dsimp only; omega)⟩ ⟨by show 9 ≤ 2970; omega, by show 793 ≤ 18559; omega⟩ (fun rr ad' S' H locs hQ hP hS => ?_)
                  obtain ⟨⟨hr9, ek9⟩, hQ⟩ := hQ
                  have hc9_1 : ceC S y292 := hI.ce.mpr (by omega)
                  have hc9_2 : ¬ (1 ≤ (1 + y293) ∧ (1 + y293) ≤ 4 ∧ (1 + y293) ≤ S (4 + y292.toNat) 0 0) := h_B
                  have hs9 := (hQ.resolve_right (fun y9 => hc9_2 y9.1.2.1)).2
                  subst hr9
                  rw [hs9] at hP
                  obtain ⟨ad336, had336⟩ : ∃ a9 : Nat → Nat → Nat, a9 = ad' := ⟨_, rfl⟩
                  rw [← had336] at ek9 hP
                  have ek_ad336 : ∀ x q, x < 4 → ad336 x q = ad x q := fun x q h => (ek9 x q h)
                  have el_ad336 : ∀ x q, x < 4 → ad336 x q = ad x q := ek9
                  have hl : lv_has ls 13 [(9, .int (i32 (1 + y293))), (8, .int (i32 (y292))), (7, .int (i32 (y1))), (0, .ref (ad336 1 0)), (1, .ref (ad336 3 1)), (2, .ref (ad336 3 2)), (3, .ref (ad336 3 3)), (4, .ref (ad336 3 4)), (5, .int (i32 (x))), (6, .int (i32 (y)))] := by
                    have t9 := hl
                    rw [← el_ad336 1 0 (by decide), ← el_ad336 3 1 (by decide), ← el_ad336 3 2 (by decide), ← el_ad336 3 3 (by decide), ← el_ad336 3 4 (by decide)] at t9
                    exact t9
                  skip
                  refine q_nm (lv_2 hc9_1 hc9_2) ?_
                  refine lv_istore (lv' := [(10, .int (i32 (-1000002))), (9, .int (i32 (1 + y293))), (8, .int (i32 (y292))), (7, .int (i32 (y1))), (0, .ref (ad336 1 0)), (1, .ref (ad336 3 1)), (2, .ref (ad336 3 2)), (3, .ref (ad336 3 3)), (4, .ref (ad336 3 4)), (5, .int (i32 (x))), (6, .int (i32 (y)))]) hx hb dL_acts_189 hl (by decide) rfl (fun ls hl => ?_)
                  refine lv_iload hx hb dL_acts_191 (lv_at hl 1 rfl) ?_
                  refine lv_aload_n hx hb dL_acts_193 rfl (lv_at hl 6 rfl) ?_
                  refine lv_iconst (v := i32 (2)) hx hb dL_acts_194 rfl ?_
                  refine lv_iload hx hb dL_acts_195 (lv_at hl 2 rfl) ?_
                  refine q_imul hx hb dL_acts_197 ?_
                  refine p_iald (k := 3) (r := 2) (n := 10) hx hb hK hP hI.a.2.2 rfl rfl (by decide) (by decide) (by omega) (by omega) dL_acts_198 ?_
                  refine q_icmp_le (tgt := 215) hx hb ⟨by omega, by omega⟩ (rS _ _ _) dL_acts_199 (by decide) (fun c_337 => (by exfalso; exact h_B ⟨by omega, by omega, by omega⟩)) (fun c_337 => ?_)
                  refine lv_iload hx hb dL_acts_202 (lv_at hl 0 rfl) ?_
                  refine q_ldc (z := -1000002) hx hb hown hK t_249 rfl dL_acts_204 ?_
                  refine q_icmp_ne (tgt := 213) hx hb ⟨by decide, by decide⟩ ⟨by decide, by decide⟩ dL_acts_206 (by decide) (fun c_338 => (by exfalso; omega)) (fun c_338 => ?_)
                  refine lv_iconst (v := i32 (1)) hx hb dL_acts_209 rfl ?_
                  refine lv_goto (tgt := 214) hx hb dL_acts_210 (by decide) ?_
                  subst hQm
                  exact q_zret hx hb hr hlocks hP hS (v := 1) (by decide) (by exact ⟨⟨rfl, ek_ad336⟩, hI, hV⟩) (by show 9 ≤ 2970; omega) (by show 793 ≤ 18559; omega) dL_acts_214
        · -- (S 3 1 1) < 20
          refine lv_aload_n hx hb dL_acts_48 rfl (lv_at hl 4 rfl) ?_
          refine lv_aload_n hx hb dL_acts_49 rfl (lv_at hl 2 rfl) ?_
          refine lv_iconst (v := i32 (1)) hx hb dL_acts_50 rfl ?_
          refine p_iald (k := 3) (r := 1) (n := 4) hx hb hK hP hI.a.2.2 rfl rfl (by decide) (by decide) (by omega) (by omega) dL_acts_51 ?_
          refine lv_iload hx hb dL_acts_52 (lv_at hl 7 rfl) ?_
          refine lv_bipush (v := i32 (6)) hx hb dL_acts_54 (by decide) ?_
          refine q_callS2 (As := [.int (i32 (y)), .int (i32 (6))]) (rest := [.int (i32 (S 3 1 1)), .ref (ad 3 3)]) hx hb hml hl.1 hown hK hZ hP hS (c_L_low l g base ad S y ((6 : Int)) hrn2 (by omega)) t_122 (q_callB hK 121 14 123 t_121 t_14 t_123 f_yL_low ⟨Nat.le_of_ble_eq_true rfl, Nat.le_of_ble_eq_true rfl⟩) rfl rfl (Nat.le_of_ble_eq_true rfl) dL_acts_56 (c2 := 0) (s2 := 0) ⟨by first | rfl | (dsimp only; omega), by first | rfl | (dsimp only; omega)⟩ ⟨by show 0 ≤ 2970; omega, by show 0 ≤ 18559; omega⟩ (q_an (fun H locs hP hS => ?_))
          obtain ⟨y339, hy339⟩ : ∃ y99 : Int, loF y ((6 : Int)) = y99 := ⟨_, rfl⟩
          have by339 := lo_b y (show 1 ≤ ((6 : Int)) by omega)
          rw [hy339] at by339
          refine q_nm hy339 ?_
          refine p_iast (k := 3) (r := 3) (n := 20) hx hb hK hP hS hI.a.2.2 rfl rfl (by decide) (by decide) (by omega) (by omega) ⟨by omega, by omega⟩ dL_acts_59 (fun H locs hP hS => ?_)
          generalize eS340 : st S 3 3 (S 3 1 1) y339 = S340 at hP
          have qS340 : ∀ (a1 b1 : Nat) (i1 : Int), S340 a1 b1 i1 = if a1 = 3 ∧ b1 = 3 ∧ i1 = S 3 1 1 then y339 else S a1 b1 i1 := fun a1 b1 i1 => by rw [← eS340]; exact st_at _ _ _ _ _ _ _ _
          have rS340 : ∀ (a1 b1 : Nat) (i1 : Int), rng (S340 a1 b1 i1) := fun a1 b1 i1 => hP.rg a1 b1 i1
          have aS340_1 : S340 1 0 (-1) = 1 := by rw [qS340, if_neg (by omega)]; exact hI.a.1
          have aS340_2 : S340 2 0 (-1) = 1 := by rw [qS340, if_neg (by omega)]; exact hI.a.2.1
          have aS340_3 : S340 3 0 (-1) = 1 := by rw [qS340, if_neg (by omega)]; exact hI.a.2.2
          have ivS340 : IV S340 := by rw [← eS340]; exact IV_3 hI (by decide)
          refine lv_aload_n hx hb dL_acts_60 rfl (lv_at hl 2 rfl) ?_
          refine lv_iconst (v := i32 (1)) hx hb dL_acts_61 rfl ?_
          refine lv_dup2_11 hx hb dL_acts_62 rfl rfl ?_
          refine p_iald (k := 3) (r := 1) (n := 4) hx hb hK hP aS340_3 rfl rfl (by decide) (by decide) (by omega) (by omega) dL_acts_63 ?_
          refine q_nm (show S340 3 1 1 = S 3 1 1 from by rw [qS340, if_neg (by omega)]) ?_
          refine lv_iconst (v := i32 (1)) hx hb dL_acts_64 rfl ?_
          refine q_iadd hx hb dL_acts_65 ?_
          refine p_iast (k := 3) (r := 1) (n := 4) hx hb hK hP hS aS340_3 rfl rfl (by decide) (by decide) (by omega) (by omega) ⟨by omega, by omega⟩ dL_acts_66 (fun H locs hP hS => ?_)
          generalize eS341 : st S340 3 1 1 ((S 3 1 1) + 1) = S341 at hP
          have qS341 : ∀ (a1 b1 : Nat) (i1 : Int), S341 a1 b1 i1 = if a1 = 3 ∧ b1 = 1 ∧ i1 = 1 then (S 3 1 1) + 1 else S340 a1 b1 i1 := fun a1 b1 i1 => by rw [← eS341]; exact st_at _ _ _ _ _ _ _ _
          have rS341 : ∀ (a1 b1 : Nat) (i1 : Int), rng (S341 a1 b1 i1) := fun a1 b1 i1 => hP.rg a1 b1 i1
          have aS341_1 : S341 1 0 (-1) = 1 := by rw [qS341, if_neg (by omega)]; exact aS340_1
          have aS341_2 : S341 2 0 (-1) = 1 := by rw [qS341, if_neg (by omega)]; exact aS340_2
          have aS341_3 : S341 3 0 (-1) = 1 := by rw [qS341, if_neg (by omega)]; exact aS340_3
          have ivS341 : IV S341 := by rw [← eS341]; exact IV_3 ivS340 (by decide)
          refine lv_aload_n hx hb dL_acts_67 rfl (lv_at hl 1 rfl) ?_
          refine lv_aload_n hx hb dL_acts_68 rfl (lv_at hl 4 rfl) ?_
          refine lv_aload_n hx hb dL_acts_69 rfl (lv_at hl 2 rfl) ?_
          refine lv_iconst (v := i32 (1)) hx hb dL_acts_70 rfl ?_
          refine p_iald (k := 3) (r := 1) (n := 4) hx hb hK hP aS341_3 rfl rfl (by decide) (by decide) (by omega) (by omega) dL_acts_71 ?_
          refine q_nm (show S341 3 1 1 = (S 3 1 1) + 1 from by rw [qS341, if_pos ⟨rfl, rfl, rfl⟩]) ?_
          refine lv_iconst (v := i32 (1)) hx hb dL_acts_72 rfl ?_
          refine q_isub hx hb dL_acts_73 ?_
          refine p_iald (k := 3) (r := 3) (n := 20) hx hb hK hP aS341_3 rfl rfl (by decide) (by decide) (by omega) (by omega) dL_acts_74 ?_
          refine q_nm (show S341 3 3 (((S 3 1 1) + 1) - 1) = S340 3 3 (((S 3 1 1) + 1) - 1) from by rw [qS341, if_neg (by omega)]) ?_
          refine q_nm (b := y339) (by rw [show ((((S 3 1 1) + 1) - 1) : Int) = S 3 1 1 from by omega, qS340, if_pos ⟨rfl, rfl, rfl⟩]) ?_
          refine lv_iconst (v := i32 (1)) hx hb dL_acts_75 rfl ?_
          refine lv_iload hx hb dL_acts_76 (lv_at hl 7 rfl) ?_
          refine lv_iconst (v := i32 (3)) hx hb dL_acts_78 rfl ?_
          refine lv_ishr hx hb dL_acts_79 ?_
          obtain ⟨z342, rz342, hz342⟩ := i32_of (i32 (y) >>> (i32 (3) &&& 31))
          rw [hz342]
          refine lv_sipush (v := i32 (200)) hx hb dL_acts_80 (by decide) ?_
          refine q_callS2 (As := [.int (i32 (z342)), .int (i32 (200))]) (rest := [.int (i32 (1)), .int (i32 (y339)), .ref (ad 1 0)]) hx hb hml hl.1 hown hK hZ hP hS (c_L_low l g base ad S341 z342 ((200 : Int)) rz342 (by omega)) t_122 (q_callB hK 121 14 123 t_121 t_14 t_123 f_yL_low ⟨Nat.le_of_ble_eq_true rfl, Nat.le_of_ble_eq_true rfl⟩) rfl rfl (Nat.le_of_ble_eq_true rfl) dL_acts_83 (c2 := 0) (s2 := 0) ⟨by first | rfl | (dsimp only; omega), by first | rfl | (dsimp only; omega)⟩ ⟨by show 0 ≤ 2970; omega, by show 0 ≤ 18559; omega⟩ (q_an (fun H locs hP hS => ?_))
          obtain ⟨y343, hy343⟩ : ∃ y99 : Int, loF z342 ((200 : Int)) = y99 := ⟨_, rfl⟩
          have by343 := lo_b z342 (show 1 ≤ ((200 : Int)) by omega)
          rw [hy343] at by343
          refine q_nm hy343 ?_
          refine q_iadd hx hb dL_acts_86 ?_
          refine lv_iload hx hb dL_acts_87 (lv_at hl 7 rfl) ?_
          refine lv_bipush (v := i32 (11)) hx hb dL_acts_89 (by decide) ?_
          refine lv_ishr hx hb dL_acts_91 ?_
          obtain ⟨z344, rz344, hz344⟩ := i32_of (i32 (y) >>> (i32 (11) &&& 31))
          rw [hz344]
          refine lv_bipush (v := i32 (10)) hx hb dL_acts_92 (by decide) ?_
          refine q_callS2 (As := [.int (i32 (z344)), .int (i32 (10))]) (rest := [.int (i32 (1 + y343)), .int (i32 (y339)), .ref (ad 1 0)]) hx hb hml hl.1 hown hK hZ hP hS (c_L_low l g base ad S341 z344 ((10 : Int)) rz344 (by omega)) t_122 (q_callB hK 121 14 123 t_121 t_14 t_123 f_yL_low ⟨Nat.le_of_ble_eq_true rfl, Nat.le_of_ble_eq_true rfl⟩) rfl rfl (Nat.le_of_ble_eq_true rfl) dL_acts_94 (c2 := 0) (s2 := 0) ⟨by first | rfl | (dsimp only; omega), by first | rfl | (dsimp only; omega)⟩ ⟨by show 0 ≤ 2970; omega, by show 0 ≤ 18559; omega⟩ (q_an (fun H locs hP hS => ?_))
          obtain ⟨y345, hy345⟩ : ∃ y99 : Int, loF z344 ((10 : Int)) = y99 := ⟨_, rfl⟩
          have by345 := lo_b z344 (show 1 ≤ ((10 : Int)) by omega)
          rw [hy345] at by345
          refine q_nm hy345 ?_
          refine lv_iload hx hb dL_acts_97 (lv_at hl 7 rfl) ?_
          refine lv_bipush (v := i32 (15)) hx hb dL_acts_99 (by decide) ?_
          refine lv_ishr hx hb dL_acts_101 ?_
          obtain ⟨z346, rz346, hz346⟩ := i32_of (i32 (y) >>> (i32 (15) &&& 31))
          rw [hz346]
          refine lv_iconst (v := i32 (2)) hx hb dL_acts_102 rfl ?_
          refine q_callS2 (As := [.int (i32 (z346)), .int (i32 (2))]) (rest := [.int (i32 (y345)), .int (i32 (1 + y343)), .int (i32 (y339)), .ref (ad 1 0)]) hx hb hml hl.1 hown hK hZ hP hS (c_L_low l g base ad S341 z346 ((2 : Int)) rz346 (by omega)) t_122 (q_callB hK 121 14 123 t_121 t_14 t_123 f_yL_low ⟨Nat.le_of_ble_eq_true rfl, Nat.le_of_ble_eq_true rfl⟩) rfl rfl (Nat.le_of_ble_eq_true rfl) dL_acts_103 (c2 := 0) (s2 := 0) ⟨by first | rfl | (dsimp only; omega), by first | rfl | (dsimp only; omega)⟩ ⟨by show 0 ≤ 2970; omega, by show 0 ≤ 18559; omega⟩ (q_an (fun H locs hP hS => ?_))
          obtain ⟨y347, hy347⟩ : ∃ y99 : Int, loF z346 ((2 : Int)) = y99 := ⟨_, rfl⟩
          have by347 := lo_b z346 (show 1 ≤ ((2 : Int)) by omega)
          rw [hy347] at by347
          refine q_nm hy347 ?_
          refine q_if_ne (tgt := 113) hx hb ⟨by omega, by omega⟩ dL_acts_106 (by decide) (fun c_348 => ?_) (fun c_348 => ?_)
          · -- y347 ≠ 0
            refine lv_iconst (v := i32 (0)) hx hb dL_acts_113 rfl ?_
            refine W.eq (g2 := F0 m 114 ls (Value.int (i32 (b2 (False))) :: Value.int (i32 (y345)) :: Value.int (i32 (1 + y343)) :: Value.int (i32 (y339)) :: Value.ref (ad 1 0) :: [])) (by simp only [b2_t trivial, b2_f not_false] <;> rfl) ?_
            refine q_callH2 (As := [.ref (ad 1 0), .int (i32 (y339)), .int (i32 (1 + y343)), .int (i32 (y345)), .int (i32 (b2 (False)))]) (rest := []) hx hb hml hl.1 hown hK hZ hP hS (c_L_dye l g base ad S341 y339 (1 + y343) y345 False hfl ivS341.wc ⟨by omega, by omega⟩ ⟨by omega, by omega⟩ ⟨by omega, by omega⟩) t_125 t_14 t_127 t_126 f_yL_dye ⟨Nat.le_of_ble_eq_true rfl, Nat.le_of_ble_eq_true rfl⟩ rfl rfl (Nat.le_of_ble_eq_true rfl) dL_acts_114 (c2 := 2) (s2 := 12) ⟨by first | rfl | (dsimp only; omega), by first | rfl | (dsimp only; omega)⟩ ⟨by show 2 ≤ 2970; omega, by show 12 ≤ 18559; omega⟩ (fun rr ad' S' H locs hQ hP hS => ?_)
            have hc9 : (0 ≤ y339 ∧ y339 < 6) ∧ ((1 ≤ (1 + y343) ∧ (1 + y343) ≤ 999) ∧ (0 ≤ y345 ∧ y345 ≤ 9)) ∧ (S341 2 0 0 < 20) := ⟨by omega, ⟨by omega, by omega⟩, by rw [qS341, if_neg (by omega), qS340, if_neg (by omega)]; omega⟩
            obtain ⟨⟨hr9, ek9⟩, hQ⟩ := hQ
            have hs9 := (hQ.resolve_left (fun y9 => y9.1 hc9)).2
            subst hr9
            rw [ek9] at hP
            rw [hs9] at hP
            refine q_nm (b := S 3 1 1) ((lv_0 hc9.1 hc9.2.1 hc9.2.2).trans (by rw [qS341, if_neg (by omega), qS340, if_neg (by omega), v1])) ?_
            generalize eS349 : st (st (st (st (st (st S341 2 2 (S341 2 0 0) y339) 2 3 (S341 2 0 0) (1 + y343)) 2 4 (S341 2 0 0) (1 + y343)) 2 5 (S341 2 0 0) y345) 2 6 (S341 2 0 0) (b2 False)) 2 0 0 (S341 2 0 0 + 1) = S349 at hP
            have rS349 : ∀ (a1 b1 : Nat) (i1 : Int), rng (S349 a1 b1 i1) := fun a1 b1 i1 => hP.rg a1 b1 i1
            have ivS349 : IV S349 := by rw [← eS349]; exact IV_dye ivS341 hc9.2.1.1 hc9.2.1.2 hc9.2.2
            have h3S349 : ∀ (b1 : Nat) (i1 : Int), S349 3 b1 i1 = S341 3 b1 i1 := by rw [← eS349]; exact fun b i => dy_3 b i
            have lv9 : LV S349 := by rw [← eS349]; exact LV_dye hV (fun a b i => by rw [qS341, qS340])
            refine lv_aload_n hx hb dL_acts_117 rfl (lv_at hl 2 rfl) ?_
            refine lv_iconst (v := i32 (1)) hx hb dL_acts_118 rfl ?_
            refine p_iald (k := 3) (r := 1) (n := 4) hx hb hK hP ivS349.a.2.2 rfl rfl (by decide) (by decide) (by omega) (by omega) dL_acts_119 ?_
            refine q_nm (show S349 3 1 1 = (S 3 1 1) + 1 from by rw [h3S349, qS341, if_pos ⟨rfl, rfl, rfl⟩]) ?_
            refine lv_iconst (v := i32 (1)) hx hb dL_acts_120 rfl ?_
            refine q_isub hx hb dL_acts_121 ?_
            refine q_icmp_ne (tgt := 129) hx hb (rS _ _ _) ⟨by omega, by omega⟩ dL_acts_122 (by decide) (fun c_350 => (by exfalso; omega)) (fun c_350 => ?_)
            refine lv_iconst (v := i32 (1)) hx hb dL_acts_125 rfl ?_
            refine lv_goto (tgt := 130) hx hb dL_acts_126 (by decide) ?_
            subst hQm
            exact q_zret hx hb hr hlocks hP hS (v := 1) (by decide) (by exact ⟨⟨rfl, (fun _ _ _ => rfl)⟩, ivS349, lv9⟩) (by show 2 ≤ 2970; omega) (by show 12 ≤ 18559; omega) dL_acts_130
          · -- y347 = 0
            refine lv_iconst (v := i32 (1)) hx hb dL_acts_109 rfl ?_
            refine lv_goto (tgt := 114) hx hb dL_acts_110 (by decide) ?_
            refine W.eq (g2 := F0 m 114 ls (Value.int (i32 (b2 (True))) :: Value.int (i32 (y345)) :: Value.int (i32 (1 + y343)) :: Value.int (i32 (y339)) :: Value.ref (ad 1 0) :: [])) (by simp only [b2_t trivial, b2_f not_false] <;> rfl) ?_
            refine q_callH2 (As := [.ref (ad 1 0), .int (i32 (y339)), .int (i32 (1 + y343)), .int (i32 (y345)), .int (i32 (b2 (True)))]) (rest := []) hx hb hml hl.1 hown hK hZ hP hS (c_L_dye l g base ad S341 y339 (1 + y343) y345 True hfl ivS341.wc ⟨by omega, by omega⟩ ⟨by omega, by omega⟩ ⟨by omega, by omega⟩) t_125 t_14 t_127 t_126 f_yL_dye ⟨Nat.le_of_ble_eq_true rfl, Nat.le_of_ble_eq_true rfl⟩ rfl rfl (Nat.le_of_ble_eq_true rfl) dL_acts_114 (c2 := 2) (s2 := 12) ⟨by first | rfl | (dsimp only; omega), by first | rfl | (dsimp only; omega)⟩ ⟨by show 2 ≤ 2970; omega, by show 12 ≤ 18559; omega⟩ (fun rr ad' S' H locs hQ hP hS => ?_)
            have hc9 : (0 ≤ y339 ∧ y339 < 6) ∧ ((1 ≤ (1 + y343) ∧ (1 + y343) ≤ 999) ∧ (0 ≤ y345 ∧ y345 ≤ 9)) ∧ (S341 2 0 0 < 20) := ⟨by omega, ⟨by omega, by omega⟩, by rw [qS341, if_neg (by omega), qS340, if_neg (by omega)]; omega⟩
            obtain ⟨⟨hr9, ek9⟩, hQ⟩ := hQ
            have hs9 := (hQ.resolve_left (fun y9 => y9.1 hc9)).2
            subst hr9
            rw [ek9] at hP
            rw [hs9] at hP
            refine q_nm (b := S 3 1 1) ((lv_0 hc9.1 hc9.2.1 hc9.2.2).trans (by rw [qS341, if_neg (by omega), qS340, if_neg (by omega), v1])) ?_
            generalize eS351 : st (st (st (st (st (st S341 2 2 (S341 2 0 0) y339) 2 3 (S341 2 0 0) (1 + y343)) 2 4 (S341 2 0 0) (1 + y343)) 2 5 (S341 2 0 0) y345) 2 6 (S341 2 0 0) (b2 True)) 2 0 0 (S341 2 0 0 + 1) = S351 at hP
            have rS351 : ∀ (a1 b1 : Nat) (i1 : Int), rng (S351 a1 b1 i1) := fun a1 b1 i1 => hP.rg a1 b1 i1
            have ivS351 : IV S351 := by rw [← eS351]; exact IV_dye ivS341 hc9.2.1.1 hc9.2.1.2 hc9.2.2
            have h3S351 : ∀ (b1 : Nat) (i1 : Int), S351 3 b1 i1 = S341 3 b1 i1 := by rw [← eS351]; exact fun b i => dy_3 b i
            have lv9 : LV S351 := by rw [← eS351]; exact LV_dye hV (fun a b i => by rw [qS341, qS340])
            refine lv_aload_n hx hb dL_acts_117 rfl (lv_at hl 2 rfl) ?_
            refine lv_iconst (v := i32 (1)) hx hb dL_acts_118 rfl ?_
            refine p_iald (k := 3) (r := 1) (n := 4) hx hb hK hP ivS351.a.2.2 rfl rfl (by decide) (by decide) (by omega) (by omega) dL_acts_119 ?_
            refine q_nm (show S351 3 1 1 = (S 3 1 1) + 1 from by rw [h3S351, qS341, if_pos ⟨rfl, rfl, rfl⟩]) ?_
            refine lv_iconst (v := i32 (1)) hx hb dL_acts_120 rfl ?_
            refine q_isub hx hb dL_acts_121 ?_
            refine q_icmp_ne (tgt := 129) hx hb (rS _ _ _) ⟨by omega, by omega⟩ dL_acts_122 (by decide) (fun c_352 => (by exfalso; omega)) (fun c_352 => ?_)
            refine lv_iconst (v := i32 (1)) hx hb dL_acts_125 rfl ?_
            refine lv_goto (tgt := 130) hx hb dL_acts_126 (by decide) ?_
            subst hQm
            exact q_zret hx hb hr hlocks hP hS (v := 1) (by decide) (by exact ⟨⟨rfl, (fun _ _ _ => rfl)⟩, ivS351, lv9⟩) (by show 2 ≤ 2970; omega) (by show 12 ≤ 18559; omega) dL_acts_130
    · -- (S 3 1 0) = 0
      refine lv_aload_n hx hb dL_acts_21 rfl (lv_at hl 1 rfl) ?_
      refine lv_aload_n hx hb dL_acts_22 rfl (lv_at hl 2 rfl) ?_
      refine lv_aload_n hx hb dL_acts_23 rfl (lv_at hl 3 rfl) ?_
      refine lv_iload hx hb dL_acts_24 (lv_at hl 6 rfl) ?_
      refine lv_iconst (v := i32 (4)) hx hb dL_acts_26 rfl ?_
      refine lv_ishr hx hb dL_acts_27 ?_
      obtain ⟨z353, rz353, hz353⟩ := i32_of (i32 (x) >>> (i32 (4) &&& 31))
      rw [hz353]
      refine lv_iload hx hb dL_acts_28 (lv_at hl 7 rfl) ?_
      refine q_callS2 (As := [.ref (ad 1 0), .ref (ad 3 1), .ref (ad 3 2), .int (i32 (z353)), .int (i32 (y))]) (rest := []) hx hb hml hl.1 hown hK hZ hP hS (c_L_draws l g base ad S z353 y hfl hI hV rz353 hrn2) t_348 (q_callB hK 347 14 349 t_347 t_14 t_349 f_yL_draws ⟨Nat.le_of_ble_eq_true rfl, Nat.le_of_ble_eq_true rfl⟩) rfl rfl (Nat.le_of_ble_eq_true rfl) dL_acts_30 (c2 := 10) (s2 := 125) ⟨by first | rfl | (dsimp only; omega), by first | rfl | (dsimp only; omega)⟩ ⟨by show 10 ≤ 2970; omega, by show 125 ≤ 18559; omega⟩ (fun rr ad' S' H locs hQ hP hS => ?_)
      obtain ⟨⟨⟨hr9, ek9⟩, hI9, hV9⟩, hW9⟩ := hQ
      subst hr9
      obtain ⟨S354, hS354⟩ : ∃ s9 : St, s9 = S' := ⟨_, rfl⟩
      rw [← hS354] at hI9 hV9 hP hW9
      obtain ⟨ad355, had355⟩ : ∃ a9 : Nat → Nat → Nat, a9 = ad' := ⟨_, rfl⟩
      rw [← had355] at ek9 hP
      have ek_ad355 : ∀ x q, x < 4 → ad355 x q = ad x q := fun x q h => (ek9 x q h)
      have el_ad355 : ∀ x q, x < 4 → ad355 x q = ad x q := ek9
      have hl : lv_has ls 13 [(7, .int (i32 (y1))), (0, .ref (ad355 1 0)), (1, .ref (ad355 3 1)), (2, .ref (ad355 3 2)), (3, .ref (ad355 3 3)), (4, .ref (ad355 3 4)), (5, .int (i32 (x))), (6, .int (i32 (y)))] := by
        have t9 := hl
        rw [← el_ad355 1 0 (by decide), ← el_ad355 3 1 (by decide), ← el_ad355 3 2 (by decide), ← el_ad355 3 3 (by decide), ← el_ad355 3 4 (by decide)] at t9
        exact t9
      skip
      have ivS354 : IV S354 := hI9
      have lvS354 : LV S354 := hV9
      have hwS354 := hW9
      have rS354 : ∀ (a1 b1 : Nat) (i1 : Int), rng (S354 a1 b1 i1) := fun a1 b1 i1 => hP.rg a1 b1 i1
      subst hQm
      exact q_zret hx hb hr hlocks hP hS (v := 1) (by decide) (by exact ⟨⟨rfl, ek_ad355⟩, ivS354, lvS354⟩) (by show 10 ≤ 2970; omega) (by show 125 ≤ 18559; omega) dL_acts_33
