/-! ===== one act ===== -/
theorem ln_k {S S' : St} {o k : Nat} (e : S' o = S o) (e2 : S' k = S k) : lnC S' o k = lnC S o k := by
  have h : ∀ m9 : Prop, lkC S' o k m9 = lkC S o k m9 := fun m9 => by
    unfold lkC
    rw [s2_ss, s2_ss, e]
    exact ss_c (fun r c _ _ _ _ => by rw [dcF_k e2, e2])
  unfold lnC
  rw [h, h, e, e2]
theorem ln_b {S : St} {o k : Nat} (hw : 0 ≤ S o 0 0) (hh : 0 ≤ S o 0 1) (h : S o 0 1 = S k 0 1 ∧ S o 0 0 = S k 0 0) : 0 ≤ lnC S o k ∧ lnC S o k ≤ S k 0 0 * S k 0 1 := by
  have h2 : ∀ m9 : Prop, 0 ≤ lkC S o k m9 ∧ lkC S o k m9 ≤ S k 0 0 * S k 0 1 := fun m9 => by
    unfold lkC
    rw [s2_ss, ← h.1, ← h.2]
    exact ss_top hw hh
  have h3 := h2 True
  have h4 := h2 False
  unfold lnC
  rw [cif_t h]
  split
  · exact h3
  · exact h4
theorem gd_b {S : St} (h : IV S) : 0 ≤ gdC S ∧ gdC S ≤ 4800 := by
  have := sm_b (f := fun k => cif (S 1 6 k = 1) (woC S (10 + k.toNat) 5) 0) (B := 240) (n := 20) (by decide) (fun k k0 k1 => by
    by_cases q : S 1 6 k = 1
    · show 0 ≤ cif (S 1 6 k = 1) (woC S (10 + k.toNat) 5) 0 ∧ cif (S 1 6 k = 1) (woC S (10 + k.toNat) 5) 0 ≤ 240
      rw [cif_t q]
      obtain ⟨⟨-, pw, ph, -⟩, -⟩ := h.pp ⟨k0, by omega, q⟩
      have := s2_b S (10 + k.toNat) (fun r c => b2 (S (10 + k.toNat) 6 (r * 24 + c) ≠ -1 ∧ S (10 + k.toNat) 5 (r * 24 + c) = 5)) (by omega) (by omega) 1 (by decide) (fun _ _ _ _ _ _ => b2_b _)
      unfold woC
      omega
    · show 0 ≤ cif (S 1 6 k = 1) (woC S (10 + k.toNat) 5) 0 ∧ cif (S 1 6 k = 1) (woC S (10 + k.toNat) 5) 0 ≤ 240
      rw [cif_f q]; decide)
  unfold gdC
  omega
theorem dy_3 {S : St} {u n f e k : Int} (b : Nat) (i : Int) : st (st (st (st (st (st S 2 2 (S 2 0 0) u) 2 3 (S 2 0 0) n) 2 4 (S 2 0 0) n) 2 5 (S 2 0 0) f) 2 6 (S 2 0 0) e) 2 0 0 k 3 b i = S 3 b i := by
  rw [st_at, if_neg (by omega), st_at, if_neg (by omega), st_at, if_neg (by omega), st_at, if_neg (by omega), st_at, if_neg (by omega), st_at, if_neg (by omega)]
theorem LV_dye {S S2 : St} {u n f e : Int} (hV : LV S) (e2 : ∀ (a b : Nat) (i : Int), S2 a b i = if a = 3 ∧ b = 1 ∧ i = 1 then S 3 1 1 + 1 else if a = 3 ∧ b = 3 ∧ i = S 3 1 1 then u else S a b i) :
    LV (st (st (st (st (st (st S2 2 2 (S2 2 0 0) u) 2 3 (S2 2 0 0) n) 2 4 (S2 2 0 0) n) 2 5 (S2 2 0 0) f) 2 6 (S2 2 0 0) e) 2 0 0 (S2 2 0 0 + 1)) := by
  obtain ⟨⟨a0, a1, a2⟩, ad, az, ac⟩ := hV
  have h20 : S2 2 0 0 = S 3 1 1 := by rw [e2, if_neg (by omega), if_neg (by omega), a1]
  rw [h20]
  obtain ⟨k, hk⟩ : ∃ k : Int, S 3 1 1 = k := ⟨_, rfl⟩
  rw [hk] at a1 e2 ⊢
  have q : ∀ (a b : Nat) (i : Int), st (st (st (st (st (st S2 2 2 k u) 2 3 k n) 2 4 k n) 2 5 k f) 2 6 k e) 2 0 0 (k + 1) a b i = if a = 2 ∧ b = 0 ∧ i = 0 then k + 1 else if a = 2 ∧ b = 6 ∧ i = k then e else if a = 2 ∧ b = 5 ∧ i = k then f else if a = 2 ∧ b = 4 ∧ i = k then n else if a = 2 ∧ b = 3 ∧ i = k then n else if a = 2 ∧ b = 2 ∧ i = k then u else S2 a b i := by
    intro a b i
    rw [st_at, st_at, st_at, st_at, st_at, st_at]
  generalize st (st (st (st (st (st S2 2 2 k u) 2 3 k n) 2 4 k n) 2 5 k f) 2 6 k e) 2 0 0 (k + 1) = S' at q
  have g : ∀ (a b : Nat) (i : Int), a ≠ 2 → ¬ (a = 3 ∧ b = 1 ∧ i = 1) → ¬ (a = 3 ∧ b = 3 ∧ i = k) → S' a b i = S a b i := fun a b i h1 h2 h3 => by rw [q, if_neg (by omega), if_neg (by omega), if_neg (by omega), if_neg (by omega), if_neg (by omega), if_neg (by omega), e2, if_neg h2, if_neg h3]
  have g0 : S' 2 0 0 = k + 1 := by rw [q, if_pos ⟨rfl, rfl, rfl⟩]
  have g2 : ∀ i, S' 2 2 i = if i = k then u else S 2 2 i := fun i => by
    rw [q, if_neg (by omega), if_neg (by omega), if_neg (by omega), if_neg (by omega), if_neg (by omega)]
    by_cases hi : i = k
    · rw [if_pos ⟨rfl, rfl, hi⟩, if_pos hi]
    · rw [if_neg (by omega), if_neg hi, e2, if_neg (by omega), if_neg (by omega)]
  have g31 : S' 3 1 1 = k + 1 := by rw [q, if_neg (by omega), if_neg (by omega), if_neg (by omega), if_neg (by omega), if_neg (by omega), if_neg (by omega), e2, if_pos ⟨rfl, rfl, rfl⟩]
  have g33 : S' 3 3 k = u := by rw [q, if_neg (by omega), if_neg (by omega), if_neg (by omega), if_neg (by omega), if_neg (by omega), if_neg (by omega), e2, if_neg (by omega), if_pos ⟨rfl, rfl, rfl⟩]
  refine ⟨⟨by rw [g _ _ _ (by omega) (by omega) (by omega), g _ _ _ (by omega) (by omega) (by omega)]; exact a0, by rw [g31, g0], by rw [g _ _ _ (by omega) (by omega) (by omega), g _ _ _ (by omega) (by omega) (by omega)]; exact a2⟩, fun x x0 x1 => ?_, fun x x0 x1 => ?_, fun j j0 j1 => ?_⟩
  · rw [g _ _ _ (by omega) (by omega) (by omega)] at x1
    rw [g 3 2 _ (by omega) (by omega) (by omega), g 3 2 _ (by omega) (by omega) (by omega), g _ 0 0 (by omega) (by omega) (by omega), g _ 0 1 (by omega) (by omega) (by omega)]
    exact ad x x0 x1
  · rw [g _ _ _ (by omega) (by omega) (by omega)] at x0
    rw [g 3 2 _ (by omega) (by omega) (by omega)]
    exact az x x0 x1
  · rw [g0] at j1
    rw [g2]
    by_cases hj : j = k
    · rw [if_pos hj, hj, g33]
    · rw [if_neg hj, g 3 3 j (by omega) (by omega) (by omega)]
      exact ac j j0 (by omega)
theorem i32_any (z : Int) : ∃ y, rng y ∧ i32 z = i32 y := i32_of (i32 z)
set_option maxHeartbeats 4000000 in
set_option maxRecDepth 100000 in
theorem c_L_acts (l : Launch) (g : GT) (base : Nat) (ad : Nat → Nat → Nat) (S : St) (x y : Int) (hfl : l.stackTraces = false) (hI : IV S) (hV : LV S) (hrn : rng x) (hrn2 : rng y) : Met l yL_acts [Cond.code yL_acts cL_acts 13 (some FieldType.boolean)] ({ frames := 11, cells := 2970, slots := 18559, locals := 223 }) (va_Pc [.ref (ad 1 0), .ref (ad 3 1), .ref (ad 3 2), .ref (ad 3 3), .ref (ad 3 4), .int (i32 (x)), .int (i32 (y))] (PK g base ad S)) (gQ g base (lmP ad)) 2970 18559 (fun q => base ≤ q) := by
  refine mk_m (own := RL) (lv0 := [(0, .ref (ad 1 0)), (1, .ref (ad 3 1)), (2, .ref (ad 3 2)), (3, .ref (ad 3 3)), (4, .ref (ad 3 4)), (5, .int (i32 (x))), (6, .int (i32 (y)))]) (by decide) rfl (Nat.le_of_ble_eq_true rfl) rfl ?_
  intro p e s m below meth cz av Qm hx hb hr hml hown hlocks hK hZ hP hQm ls hl
  have hS : va_S (fun q => base ≤ q) s.heap s.heap [] := va_S.rf
  have rS : ∀ (a1 b1 : Nat) (i1 : Int), rng (S a1 b1 i1) := fun a1 b1 i1 => hP.rg a1 b1 i1
  obtain ⟨⟨v0, v1, v2⟩, vd, vz, vc⟩ := id hV
  have hk5 := hI.k.1
  have hl20 := hI.l.1
  have hp20 := hI.p.1
  refine lv_iload hx hb dL_acts_0 (lv_at hl 5 rfl) ?_
  refine lv_bipush (v := i32 (16)) hx hb dL_acts_2 (by decide) ?_
  refine q_callS2 (As := [.int (i32 (x)), .int (i32 (16))]) (rest := []) hx hb hml hl.1 hown hK hZ hP hS (c_L_low l g base ad S x ((16 : Int)) hrn (by omega)) t_122 (q_callB hK 121 14 123 t_121 t_14 t_123 f_yL_low ⟨Nat.le_of_ble_eq_true rfl, Nat.le_of_ble_eq_true rfl⟩) rfl rfl (Nat.le_of_ble_eq_true rfl) dL_acts_4 (c2 := 0) (s2 := 0) ⟨by first | rfl | (dsimp only; omega), by first | rfl | (dsimp only; omega)⟩ ⟨by show 0 ≤ 2970; omega, by show 0 ≤ 18559; omega⟩ (q_an (fun H locs hP hS => ?_))
  obtain ⟨y1, hy1⟩ : ∃ y99 : Int, loF x ((16 : Int)) = y99 := ⟨_, rfl⟩
  have by1 := lo_b x (show 1 ≤ ((16 : Int)) by omega)
  rw [hy1] at by1
  refine q_nm hy1 ?_
  refine lv_istore (lv' := [(7, .int (i32 (y1))), (0, .ref (ad 1 0)), (1, .ref (ad 3 1)), (2, .ref (ad 3 2)), (3, .ref (ad 3 3)), (4, .ref (ad 3 4)), (5, .int (i32 (x))), (6, .int (i32 (y)))]) hx hb dL_acts_7 hl (by decide) rfl (fun ls hl => ?_)
  refine lv_iload hx hb dL_acts_9 (lv_at hl 0 rfl) ?_
  refine lv_iconst (v := i32 (3)) hx hb dL_acts_11 rfl ?_
  refine q_icmp_lt (tgt := 21) hx hb ⟨by omega, by omega⟩ ⟨by decide, by decide⟩ dL_acts_12 (by decide) (fun c_2 => ?_) (fun c_2 => ?_)
  · -- y1 < 3
    refine lv_aload_n hx hb dL_acts_21 rfl (lv_at hl 1 rfl) ?_
    refine lv_aload_n hx hb dL_acts_22 rfl (lv_at hl 2 rfl) ?_
    refine lv_aload_n hx hb dL_acts_23 rfl (lv_at hl 3 rfl) ?_
    refine lv_iload hx hb dL_acts_24 (lv_at hl 6 rfl) ?_
    refine lv_iconst (v := i32 (4)) hx hb dL_acts_26 rfl ?_
    refine lv_ishr hx hb dL_acts_27 ?_
    obtain ⟨z3, rz3, hz3⟩ := i32_of (i32 (x) >>> (i32 (4) &&& 31))
    rw [hz3]
    refine lv_iload hx hb dL_acts_28 (lv_at hl 7 rfl) ?_
    refine q_callS2 (As := [.ref (ad 1 0), .ref (ad 3 1), .ref (ad 3 2), .int (i32 (z3)), .int (i32 (y))]) (rest := []) hx hb hml hl.1 hown hK hZ hP hS (c_L_draws l g base ad S z3 y hfl hI hV rz3 hrn2) t_348 (q_callB hK 347 14 349 t_347 t_14 t_349 f_yL_draws ⟨Nat.le_of_ble_eq_true rfl, Nat.le_of_ble_eq_true rfl⟩) rfl rfl (Nat.le_of_ble_eq_true rfl) dL_acts_30 (c2 := 10) (s2 := 125) ⟨by first | rfl | (dsimp only; omega), by first | rfl | (dsimp only; omega)⟩ ⟨by show 10 ≤ 2970; omega, by show 125 ≤ 18559; omega⟩ (fun rr ad' S' H locs hQ hP hS => ?_)
    obtain ⟨⟨hr9, ek9⟩, hI9, hV9⟩ := hQ
    subst hr9
    obtain ⟨S4, hS4⟩ : ∃ s9 : St, s9 = S' := ⟨_, rfl⟩
    rw [← hS4] at hI9 hV9 hP
    obtain ⟨ad4, had4⟩ : ∃ a9 : Nat → Nat → Nat, a9 = ad' := ⟨_, rfl⟩
    rw [← had4] at ek9 hP
    have ek_ad4 : ∀ x q, x < 4 → ad4 x q = ad x q := fun x q h => (ek9 x q h)
    have el_ad4 : ∀ x q, x < 4 → ad4 x q = ad x q := ek9
    have hl : lv_has ls 13 [(7, .int (i32 (y1))), (0, .ref (ad4 1 0)), (1, .ref (ad4 3 1)), (2, .ref (ad4 3 2)), (3, .ref (ad4 3 3)), (4, .ref (ad4 3 4)), (5, .int (i32 (x))), (6, .int (i32 (y)))] := by
      have t9 := hl
      rw [← el_ad4 1 0 (by decide), ← el_ad4 3 1 (by decide), ← el_ad4 3 2 (by decide), ← el_ad4 3 3 (by decide), ← el_ad4 3 4 (by decide)] at t9
      exact t9
    skip
    have ivS4 : IV S4 := hI9
    have lvS4 : LV S4 := hV9
    have rS4 : ∀ (a1 b1 : Nat) (i1 : Int), rng (S4 a1 b1 i1) := fun a1 b1 i1 => hP.rg a1 b1 i1
    subst hQm
    exact q_zret hx hb hr hlocks hP hS (v := 1) (by decide) (by exact ⟨⟨rfl, ek_ad4⟩, ivS4, lvS4⟩) (by show 10 ≤ 2970; omega) (by show 125 ≤ 18559; omega) dL_acts_33
  · -- 3 ≤ y1
    refine lv_aload_n hx hb dL_acts_15 rfl (lv_at hl 2 rfl) ?_
    refine lv_iconst (v := i32 (0)) hx hb dL_acts_16 rfl ?_
    refine p_iald (k := 3) (r := 1) (n := 4) hx hb hK hP hI.a.2.2 rfl rfl (by decide) (by decide) (by omega) (by omega) dL_acts_17 ?_
    refine q_if_ne (tgt := 34) hx hb (rS _ _ _) dL_acts_18 (by decide) (fun c_5 => ?_) (fun c_5 => ?_)
    · -- (S 3 1 0) ≠ 0
      refine lv_iload hx hb dL_acts_34 (lv_at hl 0 rfl) ?_
      refine lv_iconst (v := i32 (3)) hx hb dL_acts_36 rfl ?_
      refine q_icmp_ne (tgt := 131) hx hb ⟨by omega, by omega⟩ ⟨by decide, by decide⟩ dL_acts_37 (by decide) (fun c_6 => ?_) (fun c_6 => ?_)
      · -- y1 ≠ 3
        refine lv_iload hx hb dL_acts_131 (lv_at hl 0 rfl) ?_
        refine lv_iconst (v := i32 (4)) hx hb dL_acts_133 rfl ?_
        refine q_icmp_eq (tgt := 143) hx hb ⟨by omega, by omega⟩ ⟨by decide, by decide⟩ dL_acts_134 (by decide) (fun c_7 => ?_) (fun c_7 => ?_)
        · -- y1 = 4
          refine lv_iload hx hb dL_acts_143 (lv_at hl 6 rfl) ?_
          refine lv_iconst (v := i32 (4)) hx hb dL_acts_145 rfl ?_
          refine lv_ishr hx hb dL_acts_146 ?_
          obtain ⟨z8, rz8, hz8⟩ := i32_of (i32 (x) >>> (i32 (4) &&& 31))
          rw [hz8]
          refine lv_aload_n hx hb dL_acts_147 rfl (lv_at hl 2 rfl) ?_
          refine lv_iconst (v := i32 (0)) hx hb dL_acts_148 rfl ?_
          refine p_iald (k := 3) (r := 1) (n := 4) hx hb hK hP hI.a.2.2 rfl rfl (by decide) (by decide) (by omega) (by omega) dL_acts_149 ?_
          refine q_callS2 (As := [.int (i32 (z8)), .int (i32 (S 3 1 0))]) (rest := []) hx hb hml hl.1 hown hK hZ hP hS (c_L_low l g base ad S z8 (S 3 1 0) rz8 (by omega)) t_122 (q_callB hK 121 14 123 t_121 t_14 t_123 f_yL_low ⟨Nat.le_of_ble_eq_true rfl, Nat.le_of_ble_eq_true rfl⟩) rfl rfl (Nat.le_of_ble_eq_true rfl) dL_acts_150 (c2 := 0) (s2 := 0) ⟨by first | rfl | (dsimp only; omega), by first | rfl | (dsimp only; omega)⟩ ⟨by show 0 ≤ 2970; omega, by show 0 ≤ 18559; omega⟩ (q_an (fun H locs hP hS => ?_))
          obtain ⟨y9, hy9⟩ : ∃ y99 : Int, loF z8 (S 3 1 0) = y99 := ⟨_, rfl⟩
          have by9 := lo_b z8 (show 1 ≤ (S 3 1 0) by omega)
          rw [hy9] at by9
          refine q_nm hy9 ?_
          refine lv_istore (lv' := [(8, .int (i32 (y9))), (7, .int (i32 (y1))), (0, .ref (ad 1 0)), (1, .ref (ad 3 1)), (2, .ref (ad 3 2)), (3, .ref (ad 3 3)), (4, .ref (ad 3 4)), (5, .int (i32 (x))), (6, .int (i32 (y)))]) hx hb dL_acts_153 hl (by decide) rfl (fun ls hl => ?_)
          refine lv_iconst (v := i32 (1)) hx hb dL_acts_155 rfl ?_
          refine lv_iload hx hb dL_acts_156 (lv_at hl 8 rfl) ?_
          refine lv_iconst (v := i32 (4)) hx hb dL_acts_158 rfl ?_
          refine q_callS2 (As := [.int (i32 (y)), .int (i32 (4))]) (rest := [.int (i32 (1))]) hx hb hml hl.1 hown hK hZ hP hS (c_L_low l g base ad S y ((4 : Int)) hrn2 (by omega)) t_122 (q_callB hK 121 14 123 t_121 t_14 t_123 f_yL_low ⟨Nat.le_of_ble_eq_true rfl, Nat.le_of_ble_eq_true rfl⟩) rfl rfl (Nat.le_of_ble_eq_true rfl) dL_acts_159 (c2 := 0) (s2 := 0) ⟨by first | rfl | (dsimp only; omega), by first | rfl | (dsimp only; omega)⟩ ⟨by show 0 ≤ 2970; omega, by show 0 ≤ 18559; omega⟩ (q_an (fun H locs hP hS => ?_))
          obtain ⟨y10, hy10⟩ : ∃ y99 : Int, loF y ((4 : Int)) = y99 := ⟨_, rfl⟩
          have by10 := lo_b y (show 1 ≤ ((4 : Int)) by omega)
          rw [hy10] at by10
          refine q_nm hy10 ?_
          refine q_iadd hx hb dL_acts_162 ?_
          refine lv_istore (lv' := [(9, .int (i32 (1 + y10))), (8, .int (i32 (y9))), (7, .int (i32 (y1))), (0, .ref (ad 1 0)), (1, .ref (ad 3 1)), (2, .ref (ad 3 2)), (3, .ref (ad 3 3)), (4, .ref (ad 3 4)), (5, .int (i32 (x))), (6, .int (i32 (y)))]) hx hb dL_acts_163 hl (by decide) rfl (fun ls hl => ?_)
          by_cases h_B : 1 ≤ 1 + y10 ∧ 1 + y10 ≤ 4 ∧ 1 + y10 ≤ S (4 + Int.toNat y9) 0 0
          · skip
            by_cases h_C : 1 ≤ S (4 + Int.toNat y9) 0 1 ∧ S 1 0 6 < 20
            · skip
              obtain ⟨hd1, hd2, hd3⟩ := vd y9 (by omega) (by omega)
              obtain ⟨⟨-, hcw1, hcw2⟩, -⟩ := hI.k.2.2 y9 (by omega) (by omega)
              refine lv_aload_n hx hb dL_acts_165 rfl (lv_at hl 3 rfl) ?_
              refine lv_iload hx hb dL_acts_166 (lv_at hl 1 rfl) ?_
              refine lv_iload hx hb dL_acts_168 (lv_at hl 0 rfl) ?_
              refine lv_iload hx hb dL_acts_170 (lv_at hl 9 rfl) ?_
              refine lv_iconst (v := i32 (2)) hx hb dL_acts_172 rfl ?_
              refine lv_ishr hx hb dL_acts_173 ?_
              obtain ⟨z11, rz11, hz11⟩ := i32_of (i32 (y) >>> (i32 (2) &&& 31))
              rw [hz11]
              refine lv_iconst (v := i32 (2)) hx hb dL_acts_174 rfl ?_
              refine q_callS2 (As := [.int (i32 (z11)), .int (i32 (2))]) (rest := [.int (i32 (1 + y10)), .int (i32 (y9)), .ref (ad 1 0)]) hx hb hml hl.1 hown hK hZ hP hS (c_L_low l g base ad S z11 ((2 : Int)) rz11 (by omega)) t_122 (q_callB hK 121 14 123 t_121 t_14 t_123 f_yL_low ⟨Nat.le_of_ble_eq_true rfl, Nat.le_of_ble_eq_true rfl⟩) rfl rfl (Nat.le_of_ble_eq_true rfl) dL_acts_175 (c2 := 0) (s2 := 0) ⟨by first | rfl | (dsimp only; omega), by first | rfl | (dsimp only; omega)⟩ ⟨by show 0 ≤ 2970; omega, by show 0 ≤ 18559; omega⟩ (q_an (fun H locs hP hS => ?_))
              obtain ⟨y12, hy12⟩ : ∃ y99 : Int, loF z11 ((2 : Int)) = y99 := ⟨_, rfl⟩
              have by12 := lo_b z11 (show 1 ≤ ((2 : Int)) by omega)
              rw [hy12] at by12
              refine q_nm hy12 ?_
              refine q_if_ne (tgt := 185) hx hb ⟨by omega, by omega⟩ dL_acts_178 (by decide) (fun c_13 => ?_) (fun c_13 => ?_)
              · -- y12 ≠ 0
                refine lv_iconst (v := i32 (0)) hx hb dL_acts_185 rfl ?_
                have w9 := IV_loom (mir := False) hI (hI.ce.mpr (show 0 ≤ y9 ∧ y9 < S 1 0 3 by omega)) h_B h_C
                refine W.eq (g2 := F0 m 186 ls (Value.int (i32 (b2 (False))) :: Value.int (i32 (1 + y10)) :: Value.int (i32 (y9)) :: Value.ref (ad 1 0) :: [])) (by simp only [b2_t trivial, b2_f not_false] <;> rfl) ?_
                refine q_callH2 (As := [.ref (ad 1 0), .int (i32 (y9)), .int (i32 (1 + y10)), .int (i32 (b2 (False)))]) (rest := []) hx hb hml hl.1 hown hK hZ hP hS (c_L_loom l g base ad S y9 (1 + y10) False hfl hI.wc ⟨by omega, by omega⟩ ⟨by omega, by omega⟩ hI.hcf hI.hpf) t_442 t_14 t_444 t_443 f_yL_loom ⟨Nat.le_of_ble_eq_true rfl, Nat.le_of_ble_eq_true rfl⟩ rfl rfl (Nat.le_of_ble_eq_true rfl) dL_acts_186 (c2 := 9) (s2 := 793) ⟨by first | rfl | (dsimp only; omega), by first | rfl | (dsimp only; omega)⟩ ⟨by show 9 ≤ 2970; omega, by show 793 ≤ 18559; omega⟩ (fun rr ad' S' H locs hQ hP hS => ?_)
                have hc9 : (ceC S y9) ∧ (1 ≤ (1 + y10) ∧ (1 + y10) ≤ 4 ∧ (1 + y10) ≤ S (4 + y9.toNat) 0 0) ∧ (1 ≤ S (4 + y9.toNat) 0 1 ∧ S 1 0 6 < 20) := ⟨hI.ce.mpr (by omega), h_B, h_C⟩
                obtain ⟨⟨hr9, ek9⟩, hQ⟩ := hQ
                have hs9 := (hQ.resolve_left (fun y9 => y9.1 hc9)).2
                subst hr9
                rw [hs9] at hP
                refine q_nm (b := S 1 0 6) ((lv_0 hc9.1 hc9.2.1 hc9.2.2).trans (rfl)) ?_
                obtain ⟨ad14, had14⟩ : ∃ a9 : Nat → Nat → Nat, a9 = ad' := ⟨_, rfl⟩
                rw [← had14] at ek9 hP
                have ek_ad14 : ∀ x q, x < 4 → ad14 x q = ad x q := fun x q h => (ek9 x q h)
                have el_ad14 : ∀ x q, x < 4 → ad14 x q = ad x q := ek9
                have hl : lv_has ls 13 [(9, .int (i32 (1 + y10))), (8, .int (i32 (y9))), (7, .int (i32 (y1))), (0, .ref (ad14 1 0)), (1, .ref (ad14 3 1)), (2, .ref (ad14 3 2)), (3, .ref (ad14 3 3)), (4, .ref (ad14 3 4)), (5, .int (i32 (x))), (6, .int (i32 (y)))] := by
                  have t9 := hl
                  rw [← el_ad14 1 0 (by decide), ← el_ad14 3 1 (by decide), ← el_ad14 3 2 (by decide), ← el_ad14 3 3 (by decide), ← el_ad14 3 4 (by decide)] at t9
                  exact t9
                skip
                generalize eS15 : lmS S y9 (1 + y10) False = S15 at hP
                have rS15 : ∀ (a1 b1 : Nat) (i1 : Int), rng (S15 a1 b1 i1) := fun a1 b1 i1 => hP.rg a1 b1 i1
                have ivS15 : IV S15 := by rw [← eS15]; exact w9.1
                have h3S15 : ∀ (b1 : Nat) (i1 : Int), S15 3 b1 i1 = S 3 b1 i1 := by rw [← eS15]; exact fun b i => w9.2.1.2.2 3 b i (by omega) (by omega)
                rw [eS15] at w9
                obtain ⟨-, ⟨g6, g7, fr9⟩, gtr, gln⟩ := w9
                refine lv_istore (lv' := [(10, .int (i32 (S 1 0 6))), (9, .int (i32 (1 + y10))), (8, .int (i32 (y9))), (7, .int (i32 (y1))), (0, .ref (ad14 1 0)), (1, .ref (ad14 3 1)), (2, .ref (ad14 3 2)), (3, .ref (ad14 3 3)), (4, .ref (ad14 3 4)), (5, .int (i32 (x))), (6, .int (i32 (y)))]) hx hb dL_acts_189 hl (by decide) rfl (fun ls hl => ?_)
                refine lv_iload hx hb dL_acts_191 (lv_at hl 1 rfl) ?_
                refine lv_aload_n hx hb dL_acts_193 rfl (lv_at hl 6 rfl) ?_
                refine lv_iconst (v := i32 (2)) hx hb dL_acts_194 rfl ?_
                refine lv_iload hx hb dL_acts_195 (lv_at hl 2 rfl) ?_
                refine q_imul hx hb dL_acts_197 ?_
                refine p_iald (k := 3) (r := 2) (n := 10) hx hb hK hP ivS15.a.2.2 rfl rfl (by decide) (by decide) (by omega) (by omega) dL_acts_198 ?_
                refine q_nm (show S15 3 2 (2 * y9) = S 3 2 (2 * y9) from by rw [h3S15]) ?_
                refine q_icmp_le (tgt := 215) hx hb ⟨by omega, by omega⟩ (rS _ _ _) dL_acts_199 (by decide) (fun c_16 => ?_) (fun c_16 => (by exfalso; omega))
                refine lv_aload_n hx hb dL_acts_215 rfl (lv_at hl 6 rfl) ?_
                refine lv_iconst (v := i32 (2)) hx hb dL_acts_216 rfl ?_
                refine lv_iload hx hb dL_acts_217 (lv_at hl 2 rfl) ?_
                refine q_imul hx hb dL_acts_219 ?_
                refine lv_iconst (v := i32 (1)) hx hb dL_acts_220 rfl ?_
                refine q_iadd hx hb dL_acts_221 ?_
                refine p_iald (k := 3) (r := 2) (n := 10) hx hb hK hP ivS15.a.2.2 rfl rfl (by decide) (by decide) (by omega) (by omega) dL_acts_222 ?_
                refine q_nm (show S15 3 2 ((2 * y9) + 1) = S 3 2 ((2 * y9) + 1) from by rw [h3S15]) ?_
                refine q_if_eq (tgt := 234) hx hb (rS _ _ _) dL_acts_223 (by decide) (fun c_17 => (by exfalso; omega)) (fun c_17 => ?_)
                refine lv_aload_n hx hb dL_acts_226 rfl (lv_at hl 5 rfl) ?_
                refine lv_iconst (v := i32 (2)) hx hb dL_acts_227 rfl ?_
                refine p_iald (k := 3) (r := 1) (n := 4) hx hb hK hP ivS15.a.2.2 rfl rfl (by decide) (by decide) (by omega) (by omega) dL_acts_228 ?_
                refine q_nm (show S15 3 1 2 = S 3 1 2 from by rw [h3S15]) ?_
                refine lv_bipush (v := i32 (20)) hx hb dL_acts_229 (by decide) ?_
                refine q_icmp_ne (tgt := 247) hx hb (rS _ _ _) ⟨by decide, by decide⟩ dL_acts_231 (by decide) (fun c_18 => ?_) (fun c_18 => (by exfalso; omega))
                refine lv_aload_n hx hb dL_acts_247 rfl (lv_at hl 5 rfl) ?_
                refine lv_iconst (v := i32 (2)) hx hb dL_acts_248 rfl ?_
                refine lv_dup2_11 hx hb dL_acts_249 rfl rfl ?_
                refine p_iald (k := 3) (r := 1) (n := 4) hx hb hK hP ivS15.a.2.2 rfl rfl (by decide) (by decide) (by omega) (by omega) dL_acts_250 ?_
                refine q_nm (show S15 3 1 2 = S 3 1 2 from by rw [h3S15]) ?_
                refine lv_iconst (v := i32 (1)) hx hb dL_acts_251 rfl ?_
                refine q_iadd hx hb dL_acts_252 ?_
                refine p_iast (k := 3) (r := 1) (n := 4) hx hb hK hP hS ivS15.a.2.2 rfl rfl (by decide) (by decide) (by omega) (by omega) ⟨by omega, by omega⟩ dL_acts_253 (fun H locs hP hS => ?_)
                generalize eS19 : st S15 3 1 2 ((S 3 1 2) + 1) = S19 at hP
                have qS19 : ∀ (a1 b1 : Nat) (i1 : Int), S19 a1 b1 i1 = if a1 = 3 ∧ b1 = 1 ∧ i1 = 2 then (S 3 1 2) + 1 else S15 a1 b1 i1 := fun a1 b1 i1 => by rw [← eS19]; exact st_at _ _ _ _ _ _ _ _
                have rS19 : ∀ (a1 b1 : Nat) (i1 : Int), rng (S19 a1 b1 i1) := fun a1 b1 i1 => hP.rg a1 b1 i1
                have aS19_1 : S19 1 0 (-1) = 1 := by rw [qS19, if_neg (by omega)]; exact ivS15.a.1
                have aS19_2 : S19 2 0 (-1) = 1 := by rw [qS19, if_neg (by omega)]; exact ivS15.a.2.1
                have aS19_3 : S19 3 0 (-1) = 1 := by rw [qS19, if_neg (by omega)]; exact ivS15.a.2.2
                have ivS19 : IV S19 := by rw [← eS19]; exact IV_3 ivS15 (by decide)
                have en : ∀ a : Nat, a ≠ 3 → S19 a = S15 a := fun a h => fe (fun b i => by rw [qS19, if_neg (by omega)])
                have kN2 : peC S19 (S 1 0 6) := ⟨hp20.1, by omega, by rw [en 1 (by decide)]; exact g7⟩
                obtain ⟨na1, na2, na3⟩ := ob_k (en (10 + Int.toNat (S 1 0 6)) (by omega))
                have lv9 : LV S19 := LV_n hV hI.k.1.2 (fun b i h => by rw [qS19, if_neg (by omega), fr9 _ _ _ (by omega) (by omega)]) (by rw [qS19, if_pos ⟨rfl, rfl, rfl⟩, en 1 (by decide), g6, v2]) (by rw [en 1 (by decide), fr9 _ _ _ (by omega) (by omega)]) (by rw [en 2 (by decide)]; exact fe (fun b i => fr9 _ _ _ (by omega) (by omega))) (fun a h1 h2 => by rw [en a (by omega)]; exact fe (fun b i => fr9 _ _ _ (by omega) (by omega)))
                have hcc : ceC S19 y9 := ivS19.ce.mpr (by rw [en 1 (by decide), fr9 _ _ _ (by omega) (by omega)]; omega)
                have hm0 : 0 ≤ (S 3 2 (2 * y9)) * (S 3 2 ((2 * y9) + 1)) := Int.mul_nonneg (by omega) (by omega)
                have hm1 : (S 3 2 (2 * y9)) * (S 3 2 ((2 * y9) + 1)) ≤ 240 := mul240 (by omega) (by omega) (by omega) (by omega)
                refine lv_iload hx hb dL_acts_254 (lv_at hl 0 rfl) ?_
                refine lv_aload_n hx hb dL_acts_256 rfl (lv_at hl 5 rfl) ?_
                refine lv_iconst (v := i32 (2)) hx hb dL_acts_257 rfl ?_
                refine p_iald (k := 3) (r := 1) (n := 4) hx hb hK hP aS19_3 rfl rfl (by decide) (by decide) (by omega) (by omega) dL_acts_258 ?_
                refine q_nm (show S19 3 1 2 = (S 3 1 2) + 1 from by rw [qS19, if_pos ⟨rfl, rfl, rfl⟩]) ?_
                refine lv_iconst (v := i32 (1)) hx hb dL_acts_259 rfl ?_
                refine q_isub hx hb dL_acts_260 ?_
                refine q_icmp_ne (tgt := 314) hx hb (rS _ _ _) ⟨by omega, by omega⟩ dL_acts_261 (by decide) (fun c_20 => (by exfalso; omega)) (fun c_20 => ?_)
                refine lv_aload_n hx hb dL_acts_264 rfl (lv_at hl 4 rfl) ?_
                refine lv_iload hx hb dL_acts_265 (lv_at hl 0 rfl) ?_
                refine lv_iload hx hb dL_acts_267 (lv_at hl 2 rfl) ?_
                refine q_callH2 (As := [.ref (ad14 1 0), .int (i32 (S 1 0 6)), .int (i32 (y9))]) (rest := []) hx hb hml hl.1 hown hK hZ hP hS (c_L_likeness l g base ad14 S19 (S 1 0 6) y9 hfl ivS19.wc (rS _ _ _) ⟨by omega, by omega⟩) t_504 t_14 t_506 t_505 f_yL_likeness ⟨Nat.le_of_ble_eq_true rfl, Nat.le_of_ble_eq_true rfl⟩ rfl rfl (Nat.le_of_ble_eq_true rfl) dL_acts_269 (c2 := 11) (s2 := 805) ⟨by first | rfl | (dsimp only; omega), by first | rfl | (dsimp only; omega)⟩ ⟨by show 11 ≤ 2970; omega, by show 805 ≤ 18559; omega⟩ (q_an (fun H locs hP hS => ?_))
                refine q_nm (b := S 3 2 (2 * y9) * S 3 2 ((2 * y9) + 1)) ((lv_0 ⟨kN2, hcc⟩ trivial trivial).trans (by rw [ln_k (en _ (by omega)) (en _ (by omega)), gln, ← hd1, ← hd3])) ?_
                refine lv_aload_n hx hb dL_acts_272 rfl (lv_at hl 6 rfl) ?_
                refine lv_iconst (v := i32 (2)) hx hb dL_acts_273 rfl ?_
                refine lv_iload hx hb dL_acts_274 (lv_at hl 2 rfl) ?_
                refine q_imul hx hb dL_acts_276 ?_
                refine p_iald (k := 3) (r := 2) (n := 10) hx hb hK hP aS19_3 rfl rfl (by decide) (by decide) (by omega) (by omega) dL_acts_277 ?_
                refine q_nm (show S19 3 2 (2 * y9) = S 3 2 (2 * y9) from by rw [qS19, if_neg (by omega), h3S15]) ?_
                refine lv_aload_n hx hb dL_acts_278 rfl (lv_at hl 6 rfl) ?_
                refine lv_iconst (v := i32 (2)) hx hb dL_acts_279 rfl ?_
                refine lv_iload hx hb dL_acts_280 (lv_at hl 2 rfl) ?_
                refine q_imul hx hb dL_acts_282 ?_
                refine lv_iconst (v := i32 (1)) hx hb dL_acts_283 rfl ?_
                refine q_iadd hx hb dL_acts_284 ?_
                refine p_iald (k := 3) (r := 2) (n := 10) hx hb hK hP aS19_3 rfl rfl (by decide) (by decide) (by omega) (by omega) dL_acts_285 ?_
                refine q_nm (show S19 3 2 ((2 * y9) + 1) = S 3 2 ((2 * y9) + 1) from by rw [qS19, if_neg (by omega), h3S15]) ?_
                refine q_imul hx hb dL_acts_286 ?_
                refine q_icmp_ne (tgt := 314) hx hb ⟨by omega, by omega⟩ ⟨by omega, by omega⟩ dL_acts_287 (by decide) (fun c_21 => (by exfalso; omega)) (fun c_21 => ?_)
                refine lv_aload_n hx hb dL_acts_290 rfl (lv_at hl 4 rfl) ?_
                refine lv_iload hx hb dL_acts_291 (lv_at hl 0 rfl) ?_
                refine q_callH2 (As := [.ref (ad14 1 0), .int (i32 (S 1 0 6))]) (rest := []) hx hb hml hl.1 hown hK hZ hP hS (c_L_isTrue l g base ad14 S19 (S 1 0 6) hfl ivS19.wc (rS _ _ _)) t_516 t_14 t_518 t_517 f_yL_isTrue ⟨Nat.le_of_ble_eq_true rfl, Nat.le_of_ble_eq_true rfl⟩ rfl rfl (Nat.le_of_ble_eq_true rfl) dL_acts_293 (c2 := 12) (s2 := 811) ⟨by first | rfl | (dsimp only; omega), by first | rfl | (dsimp only; omega)⟩ ⟨by show 12 ≤ 2970; omega, by show 811 ≤ 18559; omega⟩ (q_an (fun H locs hP hS => ?_))
                refine q_nm (b := 1) ((lv_0 kN2 trivial trivial).trans (b2_t (na3.mpr gtr))) ?_
                refine lv_iconst (v := i32 (1)) hx hb dL_acts_296 rfl ?_
                refine q_icmp_ne (tgt := 314) hx hb ⟨by decide, by decide⟩ ⟨by decide, by decide⟩ dL_acts_297 (by decide) (fun c_22 => (by exfalso; omega)) (fun c_22 => ?_)
                refine lv_aload_n hx hb dL_acts_300 rfl (lv_at hl 4 rfl) ?_
                refine lv_aload_n hx hb dL_acts_301 rfl (lv_at hl 7 rfl) ?_
                refine lv_iload hx hb dL_acts_302 (lv_at hl 0 rfl) ?_
                refine q_callS2 (As := [.ref (ad14 1 0), .ref (ad14 3 3), .int (i32 (S 1 0 6))]) (rest := []) hx hb hml hl.1 hown hK hZ hP hS (c_L_isPiece l g base ad14 S19 (S 1 0 6) hfl ivS19 kN2 lv9.2.2.2 (rS _ _ _)) t_329 (q_callB hK 328 14 330 t_328 t_14 t_330 f_yL_isPiece ⟨Nat.le_of_ble_eq_true rfl, Nat.le_of_ble_eq_true rfl⟩) rfl rfl (Nat.le_of_ble_eq_true rfl) dL_acts_304 (c2 := 1472) (s2 := 9571) ⟨by first | rfl | (dsimp only; omega), by first | rfl | (dsimp only; omega)⟩ ⟨by show 1472 ≤ 2970; omega, by show 9571 ≤ 18559; omega⟩ (q_an (fun H locs hP hS => ?_))
                refine q_if_eq (tgt := 314) hx hb ⟨by decide, by decide⟩ dL_acts_307 (by decide) (fun h => by omega) (fun _ => ?_)
                refine lv_iconst (v := i32 (1)) hx hb dL_acts_310 rfl ?_
                refine lv_goto (tgt := 315) hx hb dL_acts_311 (by decide) ?_
                subst hQm
                exact q_zret hx hb hr hlocks hP hS (v := 1) (by decide) (by exact ⟨⟨rfl, ek_ad14⟩, ivS19, lv9⟩) (by show 1472 ≤ 2970; omega) (by show 9571 ≤ 18559; omega) dL_acts_315
              · -- y12 = 0
                refine lv_iconst (v := i32 (1)) hx hb dL_acts_181 rfl ?_
                refine lv_goto (tgt := 186) hx hb dL_acts_182 (by decide) ?_
                have w9 := IV_loom (mir := True) hI (hI.ce.mpr (show 0 ≤ y9 ∧ y9 < S 1 0 3 by omega)) h_B h_C
                refine W.eq (g2 := F0 m 186 ls (Value.int (i32 (b2 (True))) :: Value.int (i32 (1 + y10)) :: Value.int (i32 (y9)) :: Value.ref (ad 1 0) :: [])) (by simp only [b2_t trivial, b2_f not_false] <;> rfl) ?_
                refine q_callH2 (As := [.ref (ad 1 0), .int (i32 (y9)), .int (i32 (1 + y10)), .int (i32 (b2 (True)))]) (rest := []) hx hb hml hl.1 hown hK hZ hP hS (c_L_loom l g base ad S y9 (1 + y10) True hfl hI.wc ⟨by omega, by omega⟩ ⟨by omega, by omega⟩ hI.hcf hI.hpf) t_442 t_14 t_444 t_443 f_yL_loom ⟨Nat.le_of_ble_eq_true rfl, Nat.le_of_ble_eq_true rfl⟩ rfl rfl (Nat.le_of_ble_eq_true rfl) dL_acts_186 (c2 := 9) (s2 := 793) ⟨by first | rfl | (dsimp only; omega), by first | rfl | (dsimp only; omega)⟩ ⟨by show 9 ≤ 2970; omega, by show 793 ≤ 18559; omega⟩ (fun rr ad' S' H locs hQ hP hS => ?_)
                have hc9 : (ceC S y9) ∧ (1 ≤ (1 + y10) ∧ (1 + y10) ≤ 4 ∧ (1 + y10) ≤ S (4 + y9.toNat) 0 0) ∧ (1 ≤ S (4 + y9.toNat) 0 1 ∧ S 1 0 6 < 20) := ⟨hI.ce.mpr (by omega), h_B, h_C⟩
                obtain ⟨⟨hr9, ek9⟩, hQ⟩ := hQ
                have hs9 := (hQ.resolve_left (fun y9 => y9.1 hc9)).2
                subst hr9
                rw [hs9] at hP
                refine q_nm (b := S 1 0 6) ((lv_0 hc9.1 hc9.2.1 hc9.2.2).trans (rfl)) ?_
                obtain ⟨ad23, had23⟩ : ∃ a9 : Nat → Nat → Nat, a9 = ad' := ⟨_, rfl⟩
                rw [← had23] at ek9 hP
                have ek_ad23 : ∀ x q, x < 4 → ad23 x q = ad x q := fun x q h => (ek9 x q h)
                have el_ad23 : ∀ x q, x < 4 → ad23 x q = ad x q := ek9
                have hl : lv_has ls 13 [(9, .int (i32 (1 + y10))), (8, .int (i32 (y9))), (7, .int (i32 (y1))), (0, .ref (ad23 1 0)), (1, .ref (ad23 3 1)), (2, .ref (ad23 3 2)), (3, .ref (ad23 3 3)), (4, .ref (ad23 3 4)), (5, .int (i32 (x))), (6, .int (i32 (y)))] := by
                  have t9 := hl
                  rw [← el_ad23 1 0 (by decide), ← el_ad23 3 1 (by decide), ← el_ad23 3 2 (by decide), ← el_ad23 3 3 (by decide), ← el_ad23 3 4 (by decide)] at t9
                  exact t9
                skip
                generalize eS24 : lmS S y9 (1 + y10) True = S24 at hP
                have rS24 : ∀ (a1 b1 : Nat) (i1 : Int), rng (S24 a1 b1 i1) := fun a1 b1 i1 => hP.rg a1 b1 i1
                have ivS24 : IV S24 := by rw [← eS24]; exact w9.1
                have h3S24 : ∀ (b1 : Nat) (i1 : Int), S24 3 b1 i1 = S 3 b1 i1 := by rw [← eS24]; exact fun b i => w9.2.1.2.2 3 b i (by omega) (by omega)
                rw [eS24] at w9
                obtain ⟨-, ⟨g6, g7, fr9⟩, gtr, gln⟩ := w9
                refine lv_istore (lv' := [(10, .int (i32 (S 1 0 6))), (9, .int (i32 (1 + y10))), (8, .int (i32 (y9))), (7, .int (i32 (y1))), (0, .ref (ad23 1 0)), (1, .ref (ad23 3 1)), (2, .ref (ad23 3 2)), (3, .ref (ad23 3 3)), (4, .ref (ad23 3 4)), (5, .int (i32 (x))), (6, .int (i32 (y)))]) hx hb dL_acts_189 hl (by decide) rfl (fun ls hl => ?_)
                refine lv_iload hx hb dL_acts_191 (lv_at hl 1 rfl) ?_
                refine lv_aload_n hx hb dL_acts_193 rfl (lv_at hl 6 rfl) ?_
                refine lv_iconst (v := i32 (2)) hx hb dL_acts_194 rfl ?_
                refine lv_iload hx hb dL_acts_195 (lv_at hl 2 rfl) ?_
                refine q_imul hx hb dL_acts_197 ?_
                refine p_iald (k := 3) (r := 2) (n := 10) hx hb hK hP ivS24.a.2.2 rfl rfl (by decide) (by decide) (by omega) (by omega) dL_acts_198 ?_
                refine q_nm (show S24 3 2 (2 * y9) = S 3 2 (2 * y9) from by rw [h3S24]) ?_
                refine q_icmp_le (tgt := 215) hx hb ⟨by omega, by omega⟩ (rS _ _ _) dL_acts_199 (by decide) (fun c_25 => ?_) (fun c_25 => (by exfalso; omega))
                refine lv_aload_n hx hb dL_acts_215 rfl (lv_at hl 6 rfl) ?_
                refine lv_iconst (v := i32 (2)) hx hb dL_acts_216 rfl ?_
                refine lv_iload hx hb dL_acts_217 (lv_at hl 2 rfl) ?_
                refine q_imul hx hb dL_acts_219 ?_
                refine lv_iconst (v := i32 (1)) hx hb dL_acts_220 rfl ?_
                refine q_iadd hx hb dL_acts_221 ?_
                refine p_iald (k := 3) (r := 2) (n := 10) hx hb hK hP ivS24.a.2.2 rfl rfl (by decide) (by decide) (by omega) (by omega) dL_acts_222 ?_
                refine q_nm (show S24 3 2 ((2 * y9) + 1) = S 3 2 ((2 * y9) + 1) from by rw [h3S24]) ?_
                refine q_if_eq (tgt := 234) hx hb (rS _ _ _) dL_acts_223 (by decide) (fun c_26 => (by exfalso; omega)) (fun c_26 => ?_)
                refine lv_aload_n hx hb dL_acts_226 rfl (lv_at hl 5 rfl) ?_
                refine lv_iconst (v := i32 (2)) hx hb dL_acts_227 rfl ?_
                refine p_iald (k := 3) (r := 1) (n := 4) hx hb hK hP ivS24.a.2.2 rfl rfl (by decide) (by decide) (by omega) (by omega) dL_acts_228 ?_
                refine q_nm (show S24 3 1 2 = S 3 1 2 from by rw [h3S24]) ?_
                refine lv_bipush (v := i32 (20)) hx hb dL_acts_229 (by decide) ?_
                refine q_icmp_ne (tgt := 247) hx hb (rS _ _ _) ⟨by decide, by decide⟩ dL_acts_231 (by decide) (fun c_27 => ?_) (fun c_27 => (by exfalso; omega))
                refine lv_aload_n hx hb dL_acts_247 rfl (lv_at hl 5 rfl) ?_
                refine lv_iconst (v := i32 (2)) hx hb dL_acts_248 rfl ?_
                refine lv_dup2_11 hx hb dL_acts_249 rfl rfl ?_
                refine p_iald (k := 3) (r := 1) (n := 4) hx hb hK hP ivS24.a.2.2 rfl rfl (by decide) (by decide) (by omega) (by omega) dL_acts_250 ?_
                refine q_nm (show S24 3 1 2 = S 3 1 2 from by rw [h3S24]) ?_
                refine lv_iconst (v := i32 (1)) hx hb dL_acts_251 rfl ?_
                refine q_iadd hx hb dL_acts_252 ?_
                refine p_iast (k := 3) (r := 1) (n := 4) hx hb hK hP hS ivS24.a.2.2 rfl rfl (by decide) (by decide) (by omega) (by omega) ⟨by omega, by omega⟩ dL_acts_253 (fun H locs hP hS => ?_)
                generalize eS28 : st S24 3 1 2 ((S 3 1 2) + 1) = S28 at hP
                have qS28 : ∀ (a1 b1 : Nat) (i1 : Int), S28 a1 b1 i1 = if a1 = 3 ∧ b1 = 1 ∧ i1 = 2 then (S 3 1 2) + 1 else S24 a1 b1 i1 := fun a1 b1 i1 => by rw [← eS28]; exact st_at _ _ _ _ _ _ _ _
                have rS28 : ∀ (a1 b1 : Nat) (i1 : Int), rng (S28 a1 b1 i1) := fun a1 b1 i1 => hP.rg a1 b1 i1
                have aS28_1 : S28 1 0 (-1) = 1 := by rw [qS28, if_neg (by omega)]; exact ivS24.a.1
                have aS28_2 : S28 2 0 (-1) = 1 := by rw [qS28, if_neg (by omega)]; exact ivS24.a.2.1
                have aS28_3 : S28 3 0 (-1) = 1 := by rw [qS28, if_neg (by omega)]; exact ivS24.a.2.2
                have ivS28 : IV S28 := by rw [← eS28]; exact IV_3 ivS24 (by decide)
                have en : ∀ a : Nat, a ≠ 3 → S28 a = S24 a := fun a h => fe (fun b i => by rw [qS28, if_neg (by omega)])
                have kN2 : peC S28 (S 1 0 6) := ⟨hp20.1, by omega, by rw [en 1 (by decide)]; exact g7⟩
                obtain ⟨na1, na2, na3⟩ := ob_k (en (10 + Int.toNat (S 1 0 6)) (by omega))
                have lv9 : LV S28 := LV_n hV hI.k.1.2 (fun b i h => by rw [qS28, if_neg (by omega), fr9 _ _ _ (by omega) (by omega)]) (by rw [qS28, if_pos ⟨rfl, rfl, rfl⟩, en 1 (by decide), g6, v2]) (by rw [en 1 (by decide), fr9 _ _ _ (by omega) (by omega)]) (by rw [en 2 (by decide)]; exact fe (fun b i => fr9 _ _ _ (by omega) (by omega))) (fun a h1 h2 => by rw [en a (by omega)]; exact fe (fun b i => fr9 _ _ _ (by omega) (by omega)))
                have hcc : ceC S28 y9 := ivS28.ce.mpr (by rw [en 1 (by decide), fr9 _ _ _ (by omega) (by omega)]; omega)
                have hm0 : 0 ≤ (S 3 2 (2 * y9)) * (S 3 2 ((2 * y9) + 1)) := Int.mul_nonneg (by omega) (by omega)
                have hm1 : (S 3 2 (2 * y9)) * (S 3 2 ((2 * y9) + 1)) ≤ 240 := mul240 (by omega) (by omega) (by omega) (by omega)
                refine lv_iload hx hb dL_acts_254 (lv_at hl 0 rfl) ?_
                refine lv_aload_n hx hb dL_acts_256 rfl (lv_at hl 5 rfl) ?_
                refine lv_iconst (v := i32 (2)) hx hb dL_acts_257 rfl ?_
                refine p_iald (k := 3) (r := 1) (n := 4) hx hb hK hP aS28_3 rfl rfl (by decide) (by decide) (by omega) (by omega) dL_acts_258 ?_
                refine q_nm (show S28 3 1 2 = (S 3 1 2) + 1 from by rw [qS28, if_pos ⟨rfl, rfl, rfl⟩]) ?_
                refine lv_iconst (v := i32 (1)) hx hb dL_acts_259 rfl ?_
                refine q_isub hx hb dL_acts_260 ?_
                refine q_icmp_ne (tgt := 314) hx hb (rS _ _ _) ⟨by omega, by omega⟩ dL_acts_261 (by decide) (fun c_29 => (by exfalso; omega)) (fun c_29 => ?_)
                refine lv_aload_n hx hb dL_acts_264 rfl (lv_at hl 4 rfl) ?_
                refine lv_iload hx hb dL_acts_265 (lv_at hl 0 rfl) ?_
                refine lv_iload hx hb dL_acts_267 (lv_at hl 2 rfl) ?_
                refine q_callH2 (As := [.ref (ad23 1 0), .int (i32 (S 1 0 6)), .int (i32 (y9))]) (rest := []) hx hb hml hl.1 hown hK hZ hP hS (c_L_likeness l g base ad23 S28 (S 1 0 6) y9 hfl ivS28.wc (rS _ _ _) ⟨by omega, by omega⟩) t_504 t_14 t_506 t_505 f_yL_likeness ⟨Nat.le_of_ble_eq_true rfl, Nat.le_of_ble_eq_true rfl⟩ rfl rfl (Nat.le_of_ble_eq_true rfl) dL_acts_269 (c2 := 11) (s2 := 805) ⟨by first | rfl | (dsimp only; omega), by first | rfl | (dsimp only; omega)⟩ ⟨by show 11 ≤ 2970; omega, by show 805 ≤ 18559; omega⟩ (q_an (fun H locs hP hS => ?_))
                refine q_nm (b := S 3 2 (2 * y9) * S 3 2 ((2 * y9) + 1)) ((lv_0 ⟨kN2, hcc⟩ trivial trivial).trans (by rw [ln_k (en _ (by omega)) (en _ (by omega)), gln, ← hd1, ← hd3])) ?_
                refine lv_aload_n hx hb dL_acts_272 rfl (lv_at hl 6 rfl) ?_
                refine lv_iconst (v := i32 (2)) hx hb dL_acts_273 rfl ?_
                refine lv_iload hx hb dL_acts_274 (lv_at hl 2 rfl) ?_
                refine q_imul hx hb dL_acts_276 ?_
                refine p_iald (k := 3) (r := 2) (n := 10) hx hb hK hP aS28_3 rfl rfl (by decide) (by decide) (by omega) (by omega) dL_acts_277 ?_
                refine q_nm (show S28 3 2 (2 * y9) = S 3 2 (2 * y9) from by rw [qS28, if_neg (by omega), h3S24]) ?_
                refine lv_aload_n hx hb dL_acts_278 rfl (lv_at hl 6 rfl) ?_
                refine lv_iconst (v := i32 (2)) hx hb dL_acts_279 rfl ?_
                refine lv_iload hx hb dL_acts_280 (lv_at hl 2 rfl) ?_
                refine q_imul hx hb dL_acts_282 ?_
                refine lv_iconst (v := i32 (1)) hx hb dL_acts_283 rfl ?_
                refine q_iadd hx hb dL_acts_284 ?_
                refine p_iald (k := 3) (r := 2) (n := 10) hx hb hK hP aS28_3 rfl rfl (by decide) (by decide) (by omega) (by omega) dL_acts_285 ?_
                refine q_nm (show S28 3 2 ((2 * y9) + 1) = S 3 2 ((2 * y9) + 1) from by rw [qS28, if_neg (by omega), h3S24]) ?_
                refine q_imul hx hb dL_acts_286 ?_
                refine q_icmp_ne (tgt := 314) hx hb ⟨by omega, by omega⟩ ⟨by omega, by omega⟩ dL_acts_287 (by decide) (fun c_30 => (by exfalso; omega)) (fun c_30 => ?_)
                refine lv_aload_n hx hb dL_acts_290 rfl (lv_at hl 4 rfl) ?_
                refine lv_iload hx hb dL_acts_291 (lv_at hl 0 rfl) ?_
                refine q_callH2 (As := [.ref (ad23 1 0), .int (i32 (S 1 0 6))]) (rest := []) hx hb hml hl.1 hown hK hZ hP hS (c_L_isTrue l g base ad23 S28 (S 1 0 6) hfl ivS28.wc (rS _ _ _)) t_516 t_14 t_518 t_517 f_yL_isTrue ⟨Nat.le_of_ble_eq_true rfl, Nat.le_of_ble_eq_true rfl⟩ rfl rfl (Nat.le_of_ble_eq_true rfl) dL_acts_293 (c2 := 12) (s2 := 811) ⟨by first | rfl | (dsimp only; omega), by first | rfl | (dsimp only; omega)⟩ ⟨by show 12 ≤ 2970; omega, by show 811 ≤ 18559; omega⟩ (q_an (fun H locs hP hS => ?_))
                refine q_nm (b := 1) ((lv_0 kN2 trivial trivial).trans (b2_t (na3.mpr gtr))) ?_
                refine lv_iconst (v := i32 (1)) hx hb dL_acts_296 rfl ?_
                refine q_icmp_ne (tgt := 314) hx hb ⟨by decide, by decide⟩ ⟨by decide, by decide⟩ dL_acts_297 (by decide) (fun c_31 => (by exfalso; omega)) (fun c_31 => ?_)
                refine lv_aload_n hx hb dL_acts_300 rfl (lv_at hl 4 rfl) ?_
                refine lv_aload_n hx hb dL_acts_301 rfl (lv_at hl 7 rfl) ?_
                refine lv_iload hx hb dL_acts_302 (lv_at hl 0 rfl) ?_
                refine q_callS2 (As := [.ref (ad23 1 0), .ref (ad23 3 3), .int (i32 (S 1 0 6))]) (rest := []) hx hb hml hl.1 hown hK hZ hP hS (c_L_isPiece l g base ad23 S28 (S 1 0 6) hfl ivS28 kN2 lv9.2.2.2 (rS _ _ _)) t_329 (q_callB hK 328 14 330 t_328 t_14 t_330 f_yL_isPiece ⟨Nat.le_of_ble_eq_true rfl, Nat.le_of_ble_eq_true rfl⟩) rfl rfl (Nat.le_of_ble_eq_true rfl) dL_acts_304 (c2 := 1472) (s2 := 9571) ⟨by first | rfl | (dsimp only; omega), by first | rfl | (dsimp only; omega)⟩ ⟨by show 1472 ≤ 2970; omega, by show 9571 ≤ 18559; omega⟩ (q_an (fun H locs hP hS => ?_))
                refine q_if_eq (tgt := 314) hx hb ⟨by decide, by decide⟩ dL_acts_307 (by decide) (fun h => by omega) (fun _ => ?_)
                refine lv_iconst (v := i32 (1)) hx hb dL_acts_310 rfl ?_
                refine lv_goto (tgt := 315) hx hb dL_acts_311 (by decide) ?_
                subst hQm
                exact q_zret hx hb hr hlocks hP hS (v := 1) (by decide) (by exact ⟨⟨rfl, ek_ad23⟩, ivS28, lv9⟩) (by show 1472 ≤ 2970; omega) (by show 9571 ≤ 18559; omega) dL_acts_315
            · skip
              obtain ⟨hd1, hd2, hd3⟩ := vd y9 (by omega) (by omega)
              obtain ⟨⟨-, hcw1, hcw2⟩, -⟩ := hI.k.2.2 y9 (by omega) (by omega)
              refine lv_aload_n hx hb dL_acts_165 rfl (lv_at hl 3 rfl) ?_
              refine lv_iload hx hb dL_acts_166 (lv_at hl 1 rfl) ?_
              refine lv_iload hx hb dL_acts_168 (lv_at hl 0 rfl) ?_
              refine lv_iload hx hb dL_acts_170 (lv_at hl 9 rfl) ?_
              refine lv_iconst (v := i32 (2)) hx hb dL_acts_172 rfl ?_
              refine lv_ishr hx hb dL_acts_173 ?_
              obtain ⟨z32, rz32, hz32⟩ := i32_of (i32 (y) >>> (i32 (2) &&& 31))
              rw [hz32]
              refine lv_iconst (v := i32 (2)) hx hb dL_acts_174 rfl ?_
              refine q_callS2 (As := [.int (i32 (z32)), .int (i32 (2))]) (rest := [.int (i32 (1 + y10)), .int (i32 (y9)), .ref (ad 1 0)]) hx hb hml hl.1 hown hK hZ hP hS (c_L_low l g base ad S z32 ((2 : Int)) rz32 (by omega)) t_122 (q_callB hK 121 14 123 t_121 t_14 t_123 f_yL_low ⟨Nat.le_of_ble_eq_true rfl, Nat.le_of_ble_eq_true rfl⟩) rfl rfl (Nat.le_of_ble_eq_true rfl) dL_acts_175 (c2 := 0) (s2 := 0) ⟨by first | rfl | (dsimp only; omega), by first | rfl | (dsimp only; omega)⟩ ⟨by show 0 ≤ 2970; omega, by show 0 ≤ 18559; omega⟩ (q_an (fun H locs hP hS => ?_))
              obtain ⟨y33, hy33⟩ : ∃ y99 : Int, loF z32 ((2 : Int)) = y99 := ⟨_, rfl⟩
              have by33 := lo_b z32 (show 1 ≤ ((2 : Int)) by omega)
              rw [hy33] at by33
              refine q_nm hy33 ?_
              refine q_if_ne (tgt := 185) hx hb ⟨by omega, by omega⟩ dL_acts_178 (by decide) (fun c_34 => ?_) (fun c_34 => ?_)
              · -- y33 ≠ 0
                refine lv_iconst (v := i32 (0)) hx hb dL_acts_185 rfl ?_
                refine W.eq (g2 := F0 m 186 ls (Value.int (i32 (b2 (False))) :: Value.int (i32 (1 + y10)) :: Value.int (i32 (y9)) :: Value.ref (ad 1 0) :: [])) (by simp only [b2_t trivial, b2_f not_false] <;> rfl) ?_
                refine q_callH2 (As := [.ref (ad 1 0), .int (i32 (y9)), .int (i32 (1 + y10)), .int (i32 (b2 (False)))]) (rest := []) hx hb hml hl.1 hown hK hZ hP hS (c_L_loom l g base ad S y9 (1 + y10) False hfl hI.wc ⟨by omega, by omega⟩ ⟨by omega, by omega⟩ hI.hcf hI.hpf) t_442 t_14 t_444 t_443 f_yL_loom ⟨Nat.le_of_ble_eq_true rfl, Nat.le_of_ble_eq_true rfl⟩ rfl rfl (Nat.le_of_ble_eq_true rfl) dL_acts_186 (c2 := 9) (s2 := 793) ⟨by first | rfl | (dsimp only; omega), by first | rfl | (dsimp only; omega)⟩ ⟨by show 9 ≤ 2970; omega, by show 793 ≤ 18559; omega⟩ (fun rr ad' S' H locs hQ hP hS => ?_)
                obtain ⟨⟨hr9, ek9⟩, hQ⟩ := hQ
                have hc9_1 : ceC S y9 := hI.ce.mpr (by omega)
                have hc9_2 : 1 ≤ (1 + y10) ∧ (1 + y10) ≤ 4 ∧ (1 + y10) ≤ S (4 + y9.toNat) 0 0 := h_B
                have hc9_3 : ¬ (1 ≤ S (4 + y9.toNat) 0 1 ∧ S 1 0 6 < 20) := h_C
                have hs9 := (hQ.resolve_right (fun y9 => hc9_3 y9.1.2.2)).2
                subst hr9
                rw [hs9] at hP
                obtain ⟨ad35, had35⟩ : ∃ a9 : Nat → Nat → Nat, a9 = ad' := ⟨_, rfl⟩
                rw [← had35] at ek9 hP
                have ek_ad35 : ∀ x q, x < 4 → ad35 x q = ad x q := fun x q h => (ek9 x q h)
                have el_ad35 : ∀ x q, x < 4 → ad35 x q = ad x q := ek9
                have hl : lv_has ls 13 [(9, .int (i32 (1 + y10))), (8, .int (i32 (y9))), (7, .int (i32 (y1))), (0, .ref (ad35 1 0)), (1, .ref (ad35 3 1)), (2, .ref (ad35 3 2)), (3, .ref (ad35 3 3)), (4, .ref (ad35 3 4)), (5, .int (i32 (x))), (6, .int (i32 (y)))] := by
                  have t9 := hl
                  rw [← el_ad35 1 0 (by decide), ← el_ad35 3 1 (by decide), ← el_ad35 3 2 (by decide), ← el_ad35 3 3 (by decide), ← el_ad35 3 4 (by decide)] at t9
                  exact t9
                skip
                refine q_nm (lv_3 hc9_1 hc9_2 hc9_3) ?_
                refine lv_istore (lv' := [(10, .int (i32 (-1000003))), (9, .int (i32 (1 + y10))), (8, .int (i32 (y9))), (7, .int (i32 (y1))), (0, .ref (ad35 1 0)), (1, .ref (ad35 3 1)), (2, .ref (ad35 3 2)), (3, .ref (ad35 3 3)), (4, .ref (ad35 3 4)), (5, .int (i32 (x))), (6, .int (i32 (y)))]) hx hb dL_acts_189 hl (by decide) rfl (fun ls hl => ?_)
                refine lv_iload hx hb dL_acts_191 (lv_at hl 1 rfl) ?_
                refine lv_aload_n hx hb dL_acts_193 rfl (lv_at hl 6 rfl) ?_
                refine lv_iconst (v := i32 (2)) hx hb dL_acts_194 rfl ?_
                refine lv_iload hx hb dL_acts_195 (lv_at hl 2 rfl) ?_
                refine q_imul hx hb dL_acts_197 ?_
                refine p_iald (k := 3) (r := 2) (n := 10) hx hb hK hP hI.a.2.2 rfl rfl (by decide) (by decide) (by omega) (by omega) dL_acts_198 ?_
                refine q_icmp_le (tgt := 215) hx hb ⟨by omega, by omega⟩ (rS _ _ _) dL_acts_199 (by decide) (fun c_36 => ?_) (fun c_36 => (by exfalso; omega))
                refine lv_aload_n hx hb dL_acts_215 rfl (lv_at hl 6 rfl) ?_
                refine lv_iconst (v := i32 (2)) hx hb dL_acts_216 rfl ?_
                refine lv_iload hx hb dL_acts_217 (lv_at hl 2 rfl) ?_
                refine q_imul hx hb dL_acts_219 ?_
                refine lv_iconst (v := i32 (1)) hx hb dL_acts_220 rfl ?_
                refine q_iadd hx hb dL_acts_221 ?_
                refine p_iald (k := 3) (r := 2) (n := 10) hx hb hK hP hI.a.2.2 rfl rfl (by decide) (by decide) (by omega) (by omega) dL_acts_222 ?_
                refine q_if_eq (tgt := 234) hx hb (rS _ _ _) dL_acts_223 (by decide) (fun c_37 => ?_) (fun c_37 => ?_)
                · -- (S 3 2 ((2 * y9) + 1)) = 0
                  refine lv_iload hx hb dL_acts_234 (lv_at hl 0 rfl) ?_
                  refine q_ldc (z := -1000003) hx hb hown hK t_250 rfl dL_acts_236 ?_
                  refine q_icmp_ne (tgt := 245) hx hb ⟨by decide, by decide⟩ ⟨by decide, by decide⟩ dL_acts_238 (by decide) (fun c_38 => (by exfalso; omega)) (fun c_38 => ?_)
                  refine lv_iconst (v := i32 (1)) hx hb dL_acts_241 rfl ?_
                  refine lv_goto (tgt := 246) hx hb dL_acts_242 (by decide) ?_
                  subst hQm
                  exact q_zret hx hb hr hlocks hP hS (v := 1) (by decide) (by exact ⟨⟨rfl, ek_ad35⟩, hI, hV⟩) (by show 9 ≤ 2970; omega) (by show 793 ≤ 18559; omega) dL_acts_246
                · -- (S 3 2 ((2 * y9) + 1)) ≠ 0
                  refine lv_aload_n hx hb dL_acts_226 rfl (lv_at hl 5 rfl) ?_
                  refine lv_iconst (v := i32 (2)) hx hb dL_acts_227 rfl ?_
                  refine p_iald (k := 3) (r := 1) (n := 4) hx hb hK hP hI.a.2.2 rfl rfl (by decide) (by decide) (by omega) (by omega) dL_acts_228 ?_
                  refine lv_bipush (v := i32 (20)) hx hb dL_acts_229 (by decide) ?_
                  refine q_icmp_ne (tgt := 247) hx hb (rS _ _ _) ⟨by decide, by decide⟩ dL_acts_231 (by decide) (fun c_39 => (by exfalso; exact h_C ⟨by omega, by omega⟩)) (fun c_39 => ?_)
                  refine lv_iload hx hb dL_acts_234 (lv_at hl 0 rfl) ?_
                  refine q_ldc (z := -1000003) hx hb hown hK t_250 rfl dL_acts_236 ?_
                  refine q_icmp_ne (tgt := 245) hx hb ⟨by decide, by decide⟩ ⟨by decide, by decide⟩ dL_acts_238 (by decide) (fun c_40 => (by exfalso; omega)) (fun c_40 => ?_)
                  refine lv_iconst (v := i32 (1)) hx hb dL_acts_241 rfl ?_
                  refine lv_goto (tgt := 246) hx hb dL_acts_242 (by decide) ?_
                  subst hQm
                  exact q_zret hx hb hr hlocks hP hS (v := 1) (by decide) (by exact ⟨⟨rfl, ek_ad35⟩, hI, hV⟩) (by show 9 ≤ 2970; omega) (by show 793 ≤ 18559; omega) dL_acts_246
              · -- y33 = 0
                refine lv_iconst (v := i32 (1)) hx hb dL_acts_181 rfl ?_
                refine lv_goto (tgt := 186) hx hb dL_acts_182 (by decide) ?_
                refine W.eq (g2 := F0 m 186 ls (Value.int (i32 (b2 (True))) :: Value.int (i32 (1 + y10)) :: Value.int (i32 (y9)) :: Value.ref (ad 1 0) :: [])) (by simp only [b2_t trivial, b2_f not_false] <;> rfl) ?_
                refine q_callH2 (As := [.ref (ad 1 0), .int (i32 (y9)), .int (i32 (1 + y10)), .int (i32 (b2 (True)))]) (rest := []) hx hb hml hl.1 hown hK hZ hP hS (c_L_loom l g base ad S y9 (1 + y10) True hfl hI.wc ⟨by omega, by omega⟩ ⟨by omega, by omega⟩ hI.hcf hI.hpf) t_442 t_14 t_444 t_443 f_yL_loom ⟨Nat.le_of_ble_eq_true rfl, Nat.le_of_ble_eq_true rfl⟩ rfl rfl (Nat.le_of_ble_eq_true rfl) dL_acts_186 (c2 := 9) (s2 := 793) ⟨by first | rfl | (dsimp only; omega), by first | rfl | (dsimp only; omega)⟩ ⟨by show 9 ≤ 2970; omega, by show 793 ≤ 18559; omega⟩ (fun rr ad' S' H locs hQ hP hS => ?_)
                obtain ⟨⟨hr9, ek9⟩, hQ⟩ := hQ
                have hc9_1 : ceC S y9 := hI.ce.mpr (by omega)
                have hc9_2 : 1 ≤ (1 + y10) ∧ (1 + y10) ≤ 4 ∧ (1 + y10) ≤ S (4 + y9.toNat) 0 0 := h_B
                have hc9_3 : ¬ (1 ≤ S (4 + y9.toNat) 0 1 ∧ S 1 0 6 < 20) := h_C
                have hs9 := (hQ.resolve_right (fun y9 => hc9_3 y9.1.2.2)).2
                subst hr9
                rw [hs9] at hP
                obtain ⟨ad41, had41⟩ : ∃ a9 : Nat → Nat → Nat, a9 = ad' := ⟨_, rfl⟩
                rw [← had41] at ek9 hP
                have ek_ad41 : ∀ x q, x < 4 → ad41 x q = ad x q := fun x q h => (ek9 x q h)
                have el_ad41 : ∀ x q, x < 4 → ad41 x q = ad x q := ek9
                have hl : lv_has ls 13 [(9, .int (i32 (1 + y10))), (8, .int (i32 (y9))), (7, .int (i32 (y1))), (0, .ref (ad41 1 0)), (1, .ref (ad41 3 1)), (2, .ref (ad41 3 2)), (3, .ref (ad41 3 3)), (4, .ref (ad41 3 4)), (5, .int (i32 (x))), (6, .int (i32 (y)))] := by
                  have t9 := hl
                  rw [← el_ad41 1 0 (by decide), ← el_ad41 3 1 (by decide), ← el_ad41 3 2 (by decide), ← el_ad41 3 3 (by decide), ← el_ad41 3 4 (by decide)] at t9
                  exact t9
                skip
                refine q_nm (lv_3 hc9_1 hc9_2 hc9_3) ?_
                refine lv_istore (lv' := [(10, .int (i32 (-1000003))), (9, .int (i32 (1 + y10))), (8, .int (i32 (y9))), (7, .int (i32 (y1))), (0, .ref (ad41 1 0)), (1, .ref (ad41 3 1)), (2, .ref (ad41 3 2)), (3, .ref (ad41 3 3)), (4, .ref (ad41 3 4)), (5, .int (i32 (x))), (6, .int (i32 (y)))]) hx hb dL_acts_189 hl (by decide) rfl (fun ls hl => ?_)
                refine lv_iload hx hb dL_acts_191 (lv_at hl 1 rfl) ?_
                refine lv_aload_n hx hb dL_acts_193 rfl (lv_at hl 6 rfl) ?_
                refine lv_iconst (v := i32 (2)) hx hb dL_acts_194 rfl ?_
                refine lv_iload hx hb dL_acts_195 (lv_at hl 2 rfl) ?_
                refine q_imul hx hb dL_acts_197 ?_
                refine p_iald (k := 3) (r := 2) (n := 10) hx hb hK hP hI.a.2.2 rfl rfl (by decide) (by decide) (by omega) (by omega) dL_acts_198 ?_
                refine q_icmp_le (tgt := 215) hx hb ⟨by omega, by omega⟩ (rS _ _ _) dL_acts_199 (by decide) (fun c_42 => ?_) (fun c_42 => (by exfalso; omega))
                refine lv_aload_n hx hb dL_acts_215 rfl (lv_at hl 6 rfl) ?_
                refine lv_iconst (v := i32 (2)) hx hb dL_acts_216 rfl ?_
                refine lv_iload hx hb dL_acts_217 (lv_at hl 2 rfl) ?_
                refine q_imul hx hb dL_acts_219 ?_
                refine lv_iconst (v := i32 (1)) hx hb dL_acts_220 rfl ?_
                refine q_iadd hx hb dL_acts_221 ?_
                refine p_iald (k := 3) (r := 2) (n := 10) hx hb hK hP hI.a.2.2 rfl rfl (by decide) (by decide) (by omega) (by omega) dL_acts_222 ?_
                refine q_if_eq (tgt := 234) hx hb (rS _ _ _) dL_acts_223 (by decide) (fun c_43 => ?_) (fun c_43 => ?_)
                · -- (S 3 2 ((2 * y9) + 1)) = 0
                  refine lv_iload hx hb dL_acts_234 (lv_at hl 0 rfl) ?_
                  refine q_ldc (z := -1000003) hx hb hown hK t_250 rfl dL_acts_236 ?_
                  refine q_icmp_ne (tgt := 245) hx hb ⟨by decide, by decide⟩ ⟨by decide, by decide⟩ dL_acts_238 (by decide) (fun c_44 => (by exfalso; omega)) (fun c_44 => ?_)
                  refine lv_iconst (v := i32 (1)) hx hb dL_acts_241 rfl ?_
                  refine lv_goto (tgt := 246) hx hb dL_acts_242 (by decide) ?_
                  subst hQm
                  exact q_zret hx hb hr hlocks hP hS (v := 1) (by decide) (by exact ⟨⟨rfl, ek_ad41⟩, hI, hV⟩) (by show 9 ≤ 2970; omega) (by show 793 ≤ 18559; omega) dL_acts_246
                · -- (S 3 2 ((2 * y9) + 1)) ≠ 0
                  refine lv_aload_n hx hb dL_acts_226 rfl (lv_at hl 5 rfl) ?_
                  refine lv_iconst (v := i32 (2)) hx hb dL_acts_227 rfl ?_
                  refine p_iald (k := 3) (r := 1) (n := 4) hx hb hK hP hI.a.2.2 rfl rfl (by decide) (by decide) (by omega) (by omega) dL_acts_228 ?_
                  refine lv_bipush (v := i32 (20)) hx hb dL_acts_229 (by decide) ?_
                  refine q_icmp_ne (tgt := 247) hx hb (rS _ _ _) ⟨by decide, by decide⟩ dL_acts_231 (by decide) (fun c_45 => (by exfalso; exact h_C ⟨by omega, by omega⟩)) (fun c_45 => ?_)
                  refine lv_iload hx hb dL_acts_234 (lv_at hl 0 rfl) ?_
                  refine q_ldc (z := -1000003) hx hb hown hK t_250 rfl dL_acts_236 ?_
                  refine q_icmp_ne (tgt := 245) hx hb ⟨by decide, by decide⟩ ⟨by decide, by decide⟩ dL_acts_238 (by decide) (fun c_46 => (by exfalso; omega)) (fun c_46 => ?_)
                  refine lv_iconst (v := i32 (1)) hx hb dL_acts_241 rfl ?_
                  refine lv_goto (tgt := 246) hx hb dL_acts_242 (by decide) ?_
                  subst hQm
                  exact q_zret hx hb hr hlocks hP hS (v := 1) (by decide) (by exact ⟨⟨rfl, ek_ad41⟩, hI, hV⟩) (by show 9 ≤ 2970; omega) (by show 793 ≤ 18559; omega) dL_acts_246
          · skip
            obtain ⟨hd1, hd2, hd3⟩ := vd y9 (by omega) (by omega)
            obtain ⟨⟨-, hcw1, hcw2⟩, -⟩ := hI.k.2.2 y9 (by omega) (by omega)
            refine lv_aload_n hx hb dL_acts_165 rfl (lv_at hl 3 rfl) ?_
            refine lv_iload hx hb dL_acts_166 (lv_at hl 1 rfl) ?_
            refine lv_iload hx hb dL_acts_168 (lv_at hl 0 rfl) ?_
            refine lv_iload hx hb dL_acts_170 (lv_at hl 9 rfl) ?_
            refine lv_iconst (v := i32 (2)) hx hb dL_acts_172 rfl ?_
            refine lv_ishr hx hb dL_acts_173 ?_
            obtain ⟨z47, rz47, hz47⟩ := i32_of (i32 (y) >>> (i32 (2) &&& 31))
            rw [hz47]
            refine lv_iconst (v := i32 (2)) hx hb dL_acts_174 rfl ?_
            refine q_callS2 (As := [.int (i32 (z47)), .int (i32 (2))]) (rest := [.int (i32 (1 + y10)), .int (i32 (y9)), .ref (ad 1 0)]) hx hb hml hl.1 hown hK hZ hP hS (c_L_low l g base ad S z47 ((2 : Int)) rz47 (by omega)) t_122 (q_callB hK 121 14 123 t_121 t_14 t_123 f_yL_low ⟨Nat.le_of_ble_eq_true rfl, Nat.le_of_ble_eq_true rfl⟩) rfl rfl (Nat.le_of_ble_eq_true rfl) dL_acts_175 (c2 := 0) (s2 := 0) ⟨by first | rfl | (dsimp only; omega), by first | rfl | (dsimp only; omega)⟩ ⟨by show 0 ≤ 2970; omega, by show 0 ≤ 18559; omega⟩ (q_an (fun H locs hP hS => ?_))
            obtain ⟨y48, hy48⟩ : ∃ y99 : Int, loF z47 ((2 : Int)) = y99 := ⟨_, rfl⟩
            have by48 := lo_b z47 (show 1 ≤ ((2 : Int)) by omega)
            rw [hy48] at by48
            refine q_nm hy48 ?_
            refine q_if_ne (tgt := 185) hx hb ⟨by omega, by omega⟩ dL_acts_178 (by decide) (fun c_49 => ?_) (fun c_49 => ?_)
            · -- y48 ≠ 0
              refine lv_iconst (v := i32 (0)) hx hb dL_acts_185 rfl ?_
              refine W.eq (g2 := F0 m 186 ls (Value.int (i32 (b2 (False))) :: Value.int (i32 (1 + y10)) :: Value.int (i32 (y9)) :: Value.ref (ad 1 0) :: [])) (by simp only [b2_t trivial, b2_f not_false] <;> rfl) ?_
              refine q_callH2 (As := [.ref (ad 1 0), .int (i32 (y9)), .int (i32 (1 + y10)), .int (i32 (b2 (False)))]) (rest := []) hx hb hml hl.1 hown hK hZ hP hS (c_L_loom l g base ad S y9 (1 + y10) False hfl hI.wc ⟨by omega, by omega⟩ ⟨by omega, by omega⟩ hI.hcf hI.hpf) t_442 t_14 t_444 t_443 f_yL_loom ⟨Nat.le_of_ble_eq_true rfl, Nat.le_of_ble_eq_true rfl⟩ rfl rfl (Nat.le_of_ble_eq_true rfl) dL_acts_186 (c2 := 9) (s2 := 793) ⟨by first | rfl | (dsimp only; omega), by first | rfl | (dsimp only; omega)⟩ ⟨by show 9 ≤ 2970; omega, by show 793 ≤ 18559; omega⟩ (fun rr ad' S' H locs hQ hP hS => ?_)
              obtain ⟨⟨hr9, ek9⟩, hQ⟩ := hQ
              have hc9_1 : ceC S y9 := hI.ce.mpr (by omega)
              have hc9_2 : ¬ (1 ≤ (1 + y10) ∧ (1 + y10) ≤ 4 ∧ (1 + y10) ≤ S (4 + y9.toNat) 0 0) := h_B
              have hs9 := (hQ.resolve_right (fun y9 => hc9_2 y9.1.2.1)).2
              subst hr9
              rw [hs9] at hP
              obtain ⟨ad50, had50⟩ : ∃ a9 : Nat → Nat → Nat, a9 = ad' := ⟨_, rfl⟩
              rw [← had50] at ek9 hP
              have ek_ad50 : ∀ x q, x < 4 → ad50 x q = ad x q := fun x q h => (ek9 x q h)
              have el_ad50 : ∀ x q, x < 4 → ad50 x q = ad x q := ek9
              have hl : lv_has ls 13 [(9, .int (i32 (1 + y10))), (8, .int (i32 (y9))), (7, .int (i32 (y1))), (0, .ref (ad50 1 0)), (1, .ref (ad50 3 1)), (2, .ref (ad50 3 2)), (3, .ref (ad50 3 3)), (4, .ref (ad50 3 4)), (5, .int (i32 (x))), (6, .int (i32 (y)))] := by
                have t9 := hl
                rw [← el_ad50 1 0 (by decide), ← el_ad50 3 1 (by decide), ← el_ad50 3 2 (by decide), ← el_ad50 3 3 (by decide), ← el_ad50 3 4 (by decide)] at t9
                exact t9
              skip
              refine q_nm (lv_2 hc9_1 hc9_2) ?_
              refine lv_istore (lv' := [(10, .int (i32 (-1000002))), (9, .int (i32 (1 + y10))), (8, .int (i32 (y9))), (7, .int (i32 (y1))), (0, .ref (ad50 1 0)), (1, .ref (ad50 3 1)), (2, .ref (ad50 3 2)), (3, .ref (ad50 3 3)), (4, .ref (ad50 3 4)), (5, .int (i32 (x))), (6, .int (i32 (y)))]) hx hb dL_acts_189 hl (by decide) rfl (fun ls hl => ?_)
              refine lv_iload hx hb dL_acts_191 (lv_at hl 1 rfl) ?_
              refine lv_aload_n hx hb dL_acts_193 rfl (lv_at hl 6 rfl) ?_
              refine lv_iconst (v := i32 (2)) hx hb dL_acts_194 rfl ?_
              refine lv_iload hx hb dL_acts_195 (lv_at hl 2 rfl) ?_
              refine q_imul hx hb dL_acts_197 ?_
              refine p_iald (k := 3) (r := 2) (n := 10) hx hb hK hP hI.a.2.2 rfl rfl (by decide) (by decide) (by omega) (by omega) dL_acts_198 ?_
              refine q_icmp_le (tgt := 215) hx hb ⟨by omega, by omega⟩ (rS _ _ _) dL_acts_199 (by decide) (fun c_51 => (by exfalso; exact h_B ⟨by omega, by omega, by omega⟩)) (fun c_51 => ?_)
              refine lv_iload hx hb dL_acts_202 (lv_at hl 0 rfl) ?_
              refine q_ldc (z := -1000002) hx hb hown hK t_249 rfl dL_acts_204 ?_
              refine q_icmp_ne (tgt := 213) hx hb ⟨by decide, by decide⟩ ⟨by decide, by decide⟩ dL_acts_206 (by decide) (fun c_52 => (by exfalso; omega)) (fun c_52 => ?_)
              refine lv_iconst (v := i32 (1)) hx hb dL_acts_209 rfl ?_
              refine lv_goto (tgt := 214) hx hb dL_acts_210 (by decide) ?_
              subst hQm
              exact q_zret hx hb hr hlocks hP hS (v := 1) (by decide) (by exact ⟨⟨rfl, ek_ad50⟩, hI, hV⟩) (by show 9 ≤ 2970; omega) (by show 793 ≤ 18559; omega) dL_acts_214
            · -- y48 = 0
              refine lv_iconst (v := i32 (1)) hx hb dL_acts_181 rfl ?_
              refine lv_goto (tgt := 186) hx hb dL_acts_182 (by decide) ?_
              refine W.eq (g2 := F0 m 186 ls (Value.int (i32 (b2 (True))) :: Value.int (i32 (1 + y10)) :: Value.int (i32 (y9)) :: Value.ref (ad 1 0) :: [])) (by simp only [b2_t trivial, b2_f not_false] <;> rfl) ?_
              refine q_callH2 (As := [.ref (ad 1 0), .int (i32 (y9)), .int (i32 (1 + y10)), .int (i32 (b2 (True)))]) (rest := []) hx hb hml hl.1 hown hK hZ hP hS (c_L_loom l g base ad S y9 (1 + y10) True hfl hI.wc ⟨by omega, by omega⟩ ⟨by omega, by omega⟩ hI.hcf hI.hpf) t_442 t_14 t_444 t_443 f_yL_loom ⟨Nat.le_of_ble_eq_true rfl, Nat.le_of_ble_eq_true rfl⟩ rfl rfl (Nat.le_of_ble_eq_true rfl) dL_acts_186 (c2 := 9) (s2 := 793) ⟨by first | rfl | (dsimp only; omega), by first | rfl | (dsimp only; omega)⟩ ⟨by show 9 ≤ 2970; omega, by show 793 ≤ 18559; omega⟩ (fun rr ad' S' H locs hQ hP hS => ?_)
              obtain ⟨⟨hr9, ek9⟩, hQ⟩ := hQ
              have hc9_1 : ceC S y9 := hI.ce.mpr (by omega)
              have hc9_2 : ¬ (1 ≤ (1 + y10) ∧ (1 + y10) ≤ 4 ∧ (1 + y10) ≤ S (4 + y9.toNat) 0 0) := h_B
              have hs9 := (hQ.resolve_right (fun y9 => hc9_2 y9.1.2.1)).2
              subst hr9
              rw [hs9] at hP
              obtain ⟨ad53, had53⟩ : ∃ a9 : Nat → Nat → Nat, a9 = ad' := ⟨_, rfl⟩
              rw [← had53] at ek9 hP
              have ek_ad53 : ∀ x q, x < 4 → ad53 x q = ad x q := fun x q h => (ek9 x q h)
              have el_ad53 : ∀ x q, x < 4 → ad53 x q = ad x q := ek9
              have hl : lv_has ls 13 [(9, .int (i32 (1 + y10))), (8, .int (i32 (y9))), (7, .int (i32 (y1))), (0, .ref (ad53 1 0)), (1, .ref (ad53 3 1)), (2, .ref (ad53 3 2)), (3, .ref (ad53 3 3)), (4, .ref (ad53 3 4)), (5, .int (i32 (x))), (6, .int (i32 (y)))] := by
                have t9 := hl
                rw [← el_ad53 1 0 (by decide), ← el_ad53 3 1 (by decide), ← el_ad53 3 2 (by decide), ← el_ad53 3 3 (by decide), ← el_ad53 3 4 (by decide)] at t9
                exact t9
              skip
              refine q_nm (lv_2 hc9_1 hc9_2) ?_
              refine lv_istore (lv' := [(10, .int (i32 (-1000002))), (9, .int (i32 (1 + y10))), (8, .int (i32 (y9))), (7, .int (i32 (y1))), (0, .ref (ad53 1 0)), (1, .ref (ad53 3 1)), (2, .ref (ad53 3 2)), (3, .ref (ad53 3 3)), (4, .ref (ad53 3 4)), (5, .int (i32 (x))), (6, .int (i32 (y)))]) hx hb dL_acts_189 hl (by decide) rfl (fun ls hl => ?_)
              refine lv_iload hx hb dL_acts_191 (lv_at hl 1 rfl) ?_
              refine lv_aload_n hx hb dL_acts_193 rfl (lv_at hl 6 rfl) ?_
              refine lv_iconst (v := i32 (2)) hx hb dL_acts_194 rfl ?_
              refine lv_iload hx hb dL_acts_195 (lv_at hl 2 rfl) ?_
              refine q_imul hx hb dL_acts_197 ?_
              refine p_iald (k := 3) (r := 2) (n := 10) hx hb hK hP hI.a.2.2 rfl rfl (by decide) (by decide) (by omega) (by omega) dL_acts_198 ?_
              refine q_icmp_le (tgt := 215) hx hb ⟨by omega, by omega⟩ (rS _ _ _) dL_acts_199 (by decide) (fun c_54 => (by exfalso; exact h_B ⟨by omega, by omega, by omega⟩)) (fun c_54 => ?_)
              refine lv_iload hx hb dL_acts_202 (lv_at hl 0 rfl) ?_
              refine q_ldc (z := -1000002) hx hb hown hK t_249 rfl dL_acts_204 ?_
              refine q_icmp_ne (tgt := 213) hx hb ⟨by decide, by decide⟩ ⟨by decide, by decide⟩ dL_acts_206 (by decide) (fun c_55 => (by exfalso; omega)) (fun c_55 => ?_)
              refine lv_iconst (v := i32 (1)) hx hb dL_acts_209 rfl ?_
              refine lv_goto (tgt := 214) hx hb dL_acts_210 (by decide) ?_
              subst hQm
              exact q_zret hx hb hr hlocks hP hS (v := 1) (by decide) (by exact ⟨⟨rfl, ek_ad53⟩, hI, hV⟩) (by show 9 ≤ 2970; omega) (by show 793 ≤ 18559; omega) dL_acts_214
        · -- y1 ≠ 4
          refine lv_aload_n hx hb dL_acts_137 rfl (lv_at hl 2 rfl) ?_
          refine lv_iconst (v := i32 (2)) hx hb dL_acts_138 rfl ?_
          refine p_iald (k := 3) (r := 1) (n := 4) hx hb hK hP hI.a.2.2 rfl rfl (by decide) (by decide) (by omega) (by omega) dL_acts_139 ?_
          refine q_if_ne (tgt := 316) hx hb (rS _ _ _) dL_acts_140 (by decide) (fun c_56 => ?_) (fun c_56 => ?_)
          · -- (S 3 1 2) ≠ 0
            refine lv_iload hx hb dL_acts_316 (lv_at hl 0 rfl) ?_
            refine lv_bipush (v := i32 (11)) hx hb dL_acts_318 (by decide) ?_
            refine q_icmp_ge (tgt := 370) hx hb ⟨by omega, by omega⟩ ⟨by decide, by decide⟩ dL_acts_320 (by decide) (fun c_57 => ?_) (fun c_57 => ?_)
            · -- 11 ≤ y1
              refine lv_iload hx hb dL_acts_370 (lv_at hl 6 rfl) ?_
              refine lv_iconst (v := i32 (4)) hx hb dL_acts_372 rfl ?_
              refine lv_ishr hx hb dL_acts_373 ?_
              obtain ⟨z58, rz58, hz58⟩ := i32_of (i32 (x) >>> (i32 (4) &&& 31))
              rw [hz58]
              refine lv_aload_n hx hb dL_acts_374 rfl (lv_at hl 2 rfl) ?_
              refine lv_iconst (v := i32 (2)) hx hb dL_acts_375 rfl ?_
              refine p_iald (k := 3) (r := 1) (n := 4) hx hb hK hP hI.a.2.2 rfl rfl (by decide) (by decide) (by omega) (by omega) dL_acts_376 ?_
              refine q_callS2 (As := [.int (i32 (z58)), .int (i32 (S 3 1 2))]) (rest := []) hx hb hml hl.1 hown hK hZ hP hS (c_L_low l g base ad S z58 (S 3 1 2) rz58 (by omega)) t_122 (q_callB hK 121 14 123 t_121 t_14 t_123 f_yL_low ⟨Nat.le_of_ble_eq_true rfl, Nat.le_of_ble_eq_true rfl⟩) rfl rfl (Nat.le_of_ble_eq_true rfl) dL_acts_377 (c2 := 0) (s2 := 0) ⟨by first | rfl | (dsimp only; omega), by first | rfl | (dsimp only; omega)⟩ ⟨by show 0 ≤ 2970; omega, by show 0 ≤ 18559; omega⟩ (q_an (fun H locs hP hS => ?_))
              obtain ⟨y59, hy59⟩ : ∃ y99 : Int, loF z58 (S 3 1 2) = y99 := ⟨_, rfl⟩
              have by59 := lo_b z58 (show 1 ≤ (S 3 1 2) by omega)
              rw [hy59] at by59
              refine q_nm hy59 ?_
              refine lv_istore (lv' := [(8, .int (i32 (y59))), (7, .int (i32 (y1))), (0, .ref (ad 1 0)), (1, .ref (ad 3 1)), (2, .ref (ad 3 2)), (3, .ref (ad 3 3)), (4, .ref (ad 3 4)), (5, .int (i32 (x))), (6, .int (i32 (y)))]) hx hb dL_acts_380 hl (by decide) rfl (fun ls hl => ?_)
              refine lv_iload hx hb dL_acts_382 (lv_at hl 1 rfl) ?_
              refine lv_bipush (v := i32 (11)) hx hb dL_acts_384 (by decide) ?_
              refine q_icmp_ne (tgt := 405) hx hb ⟨by omega, by omega⟩ ⟨by decide, by decide⟩ dL_acts_386 (by decide) (fun c_60 => ?_) (fun c_60 => ?_)
              · -- y1 ≠ 11
                refine lv_aload_n hx hb dL_acts_405 rfl (lv_at hl 2 rfl) ?_
                refine lv_iload hx hb dL_acts_406 (lv_at hl 0 rfl) ?_
                refine q_callS2 (As := [.ref (ad 1 0), .int (i32 (y59))]) (rest := []) hx hb hml hl.1 hown hK hZ hP hS (c_L_isThere l g base ad S y59 hfl hI ⟨by omega, by omega⟩) t_264 (q_callB hK 263 14 265 t_263 t_14 t_265 f_yL_isThere ⟨Nat.le_of_ble_eq_true rfl, Nat.le_of_ble_eq_true rfl⟩) rfl rfl (Nat.le_of_ble_eq_true rfl) dL_acts_408 (c2 := 2) (s2 := 12) ⟨by first | rfl | (dsimp only; omega), by first | rfl | (dsimp only; omega)⟩ ⟨by show 2 ≤ 2970; omega, by show 12 ≤ 18559; omega⟩ (q_an (fun H locs hP hS => ?_))
                refine q_if_neb (tgt := 454) hx hb dL_acts_411 (by decide) (fun c_61 => ?_) (fun c_61 => ?_)
                · -- peC S y59
                  refine lv_iload hx hb dL_acts_454 (lv_at hl 8 rfl) ?_
                  refine lv_iconst (v := i32 (3)) hx hb dL_acts_456 rfl ?_
                  refine lv_ishr hx hb dL_acts_457 ?_
                  obtain ⟨z62, rz62, hz62⟩ := i32_of (i32 (y) >>> (i32 (3) &&& 31))
                  rw [hz62]
                  refine lv_aload_n hx hb dL_acts_458 rfl (lv_at hl 3 rfl) ?_
                  refine lv_iconst (v := i32 (0)) hx hb dL_acts_459 rfl ?_
                  refine p_iald (k := 3) (r := 1) (n := 4) hx hb hK hP hI.a.2.2 rfl rfl (by decide) (by decide) (by omega) (by omega) dL_acts_460 ?_
                  refine q_callS2 (As := [.int (i32 (z62)), .int (i32 (S 3 1 0))]) (rest := []) hx hb hml hl.1 hown hK hZ hP hS (c_L_low l g base ad S z62 (S 3 1 0) rz62 (by omega)) t_122 (q_callB hK 121 14 123 t_121 t_14 t_123 f_yL_low ⟨Nat.le_of_ble_eq_true rfl, Nat.le_of_ble_eq_true rfl⟩) rfl rfl (Nat.le_of_ble_eq_true rfl) dL_acts_461 (c2 := 2) (s2 := 12) ⟨by first | rfl | (dsimp only; omega), by first | rfl | (dsimp only; omega)⟩ ⟨by show 2 ≤ 2970; omega, by show 12 ≤ 18559; omega⟩ (q_an (fun H locs hP hS => ?_))
                  obtain ⟨y63, hy63⟩ : ∃ y99 : Int, loF z62 (S 3 1 0) = y99 := ⟨_, rfl⟩
                  have by63 := lo_b z62 (show 1 ≤ (S 3 1 0) by omega)
                  rw [hy63] at by63
                  refine q_nm hy63 ?_
                  refine lv_istore (lv' := [(9, .int (i32 (y63))), (8, .int (i32 (y59))), (7, .int (i32 (y1))), (0, .ref (ad 1 0)), (1, .ref (ad 3 1)), (2, .ref (ad 3 2)), (3, .ref (ad 3 3)), (4, .ref (ad 3 4)), (5, .int (i32 (x))), (6, .int (i32 (y)))]) hx hb dL_acts_464 hl (by decide) rfl (fun ls hl => ?_)
                  by_cases h_F : S (10 + Int.toNat y59) 0 1 = S (4 + Int.toNat y63) 0 1 ∧ S (10 + Int.toNat y59) 0 0 = S (4 + Int.toNat y63) 0 0
                  · skip
                    obtain ⟨hd1, hd2, hd3⟩ := vd y63 (by omega) (by omega)
                    obtain ⟨⟨-, hcw1, hcw2⟩, -⟩ := hI.k.2.2 y63 (by omega) (by omega)
                    obtain ⟨-, pw8, ph8, -⟩ := (hI.pp c_61).1
                    have hm0 : 0 ≤ (S 3 2 (2 * y63)) * (S 3 2 ((2 * y63) + 1)) := Int.mul_nonneg (by omega) (by omega)
                    have hm1 : (S 3 2 (2 * y63)) * (S 3 2 ((2 * y63) + 1)) ≤ 240 := mul240 (by omega) (by omega) (by omega) (by omega)
                    refine lv_aload_n hx hb dL_acts_466 rfl (lv_at hl 3 rfl) ?_
                    refine lv_iload hx hb dL_acts_467 (lv_at hl 1 rfl) ?_
                    refine lv_iload hx hb dL_acts_469 (lv_at hl 0 rfl) ?_
                    have lnb := ln_b (S := S) (o := 10 + Int.toNat y59) (k := 4 + Int.toNat y63) (by omega) (by omega) h_F
                    obtain ⟨ln, hln⟩ : ∃ ln : Int, lnC S (10 + Int.toNat y59) (4 + Int.toNat y63) = ln := ⟨_, rfl⟩
                    rw [hln, ← hd1, ← hd3] at lnb
                    refine q_callH2 (As := [.ref (ad 1 0), .int (i32 (y59)), .int (i32 (y63))]) (rest := []) hx hb hml hl.1 hown hK hZ hP hS (c_L_likeness l g base ad S y59 y63 hfl hI.wc ⟨by omega, by omega⟩ ⟨by omega, by omega⟩) t_504 t_14 t_506 t_505 f_yL_likeness ⟨Nat.le_of_ble_eq_true rfl, Nat.le_of_ble_eq_true rfl⟩ rfl rfl (Nat.le_of_ble_eq_true rfl) dL_acts_471 (c2 := 4) (s2 := 24) ⟨by first | rfl | (dsimp only; omega), by first | rfl | (dsimp only; omega)⟩ ⟨by show 4 ≤ 2970; omega, by show 24 ≤ 18559; omega⟩ (q_an (fun H locs hP hS => ?_))
                    refine q_nm (b := ln) ((lv_0 ⟨c_61, hI.ce.mpr (by omega)⟩ trivial trivial).trans hln) ?_
                    refine lv_istore (lv' := [(10, .int (i32 (ln))), (9, .int (i32 (y63))), (8, .int (i32 (y59))), (7, .int (i32 (y1))), (0, .ref (ad 1 0)), (1, .ref (ad 3 1)), (2, .ref (ad 3 2)), (3, .ref (ad 3 3)), (4, .ref (ad 3 4)), (5, .int (i32 (x))), (6, .int (i32 (y)))]) hx hb dL_acts_474 hl (by decide) rfl (fun ls hl => ?_)
                    refine lv_aload_n hx hb dL_acts_476 rfl (lv_at hl 4 rfl) ?_
                    refine lv_iload hx hb dL_acts_477 (lv_at hl 2 rfl) ?_
                    refine lv_iconst (v := i32 (0)) hx hb dL_acts_479 rfl ?_
                    refine q_callH2 (As := [.ref (ad 1 0), .int (i32 (y59)), .int (i32 (0))]) (rest := []) hx hb hml hl.1 hown hK hZ hP hS (c_L_pieceIs l g base ad S y59 ((0 : Int)) hfl hI.wc ⟨by omega, by omega⟩ ⟨by decide, by decide⟩) t_266 t_14 t_268 t_267 f_yL_pieceIs ⟨Nat.le_of_ble_eq_true rfl, Nat.le_of_ble_eq_true rfl⟩ rfl rfl (Nat.le_of_ble_eq_true rfl) dL_acts_480 (c2 := 6) (s2 := 36) ⟨by first | rfl | (dsimp only; omega), by first | rfl | (dsimp only; omega)⟩ ⟨by show 6 ≤ 2970; omega, by show 36 ≤ 18559; omega⟩ (q_an (fun H locs hP hS => ?_))
                    refine q_nm (b := S (10 + Int.toNat y59) 0 0) (((lv_0 c_61 (by decide) trivial).trans (pcC_0 rfl))) ?_
                    refine lv_aload_n hx hb dL_acts_483 rfl (lv_at hl 6 rfl) ?_
                    refine lv_iconst (v := i32 (2)) hx hb dL_acts_484 rfl ?_
                    refine lv_iload hx hb dL_acts_485 (lv_at hl 1 rfl) ?_
                    refine q_imul hx hb dL_acts_487 ?_
                    refine p_iald (k := 3) (r := 2) (n := 10) hx hb hK hP hI.a.2.2 rfl rfl (by decide) (by decide) (by omega) (by omega) dL_acts_488 ?_
                    refine q_icmp_ne (tgt := 514) hx hb (rS _ _ _) (rS _ _ _) dL_acts_489 (by decide) (fun c_64 => (by exfalso; omega)) (fun c_64 => ?_)
                    refine lv_aload_n hx hb dL_acts_492 rfl (lv_at hl 4 rfl) ?_
                    refine lv_iload hx hb dL_acts_493 (lv_at hl 2 rfl) ?_
                    refine lv_iconst (v := i32 (1)) hx hb dL_acts_495 rfl ?_
                    refine q_callH2 (As := [.ref (ad 1 0), .int (i32 (y59)), .int (i32 (1))]) (rest := []) hx hb hml hl.1 hown hK hZ hP hS (c_L_pieceIs l g base ad S y59 ((1 : Int)) hfl hI.wc ⟨by omega, by omega⟩ ⟨by decide, by decide⟩) t_266 t_14 t_268 t_267 f_yL_pieceIs ⟨Nat.le_of_ble_eq_true rfl, Nat.le_of_ble_eq_true rfl⟩ rfl rfl (Nat.le_of_ble_eq_true rfl) dL_acts_496 (c2 := 8) (s2 := 48) ⟨by first | rfl | (dsimp only; omega), by first | rfl | (dsimp only; omega)⟩ ⟨by show 8 ≤ 2970; omega, by show 48 ≤ 18559; omega⟩ (q_an (fun H locs hP hS => ?_))
                    refine q_nm (b := S (10 + Int.toNat y59) 0 1) (((lv_0 c_61 (by decide) trivial).trans (pcC_1 rfl))) ?_
                    refine lv_aload_n hx hb dL_acts_499 rfl (lv_at hl 6 rfl) ?_
                    refine lv_iconst (v := i32 (2)) hx hb dL_acts_500 rfl ?_
                    refine lv_iload hx hb dL_acts_501 (lv_at hl 1 rfl) ?_
                    refine q_imul hx hb dL_acts_503 ?_
                    refine lv_iconst (v := i32 (1)) hx hb dL_acts_504 rfl ?_
                    refine q_iadd hx hb dL_acts_505 ?_
                    refine p_iald (k := 3) (r := 2) (n := 10) hx hb hK hP hI.a.2.2 rfl rfl (by decide) (by decide) (by omega) (by omega) dL_acts_506 ?_
                    refine q_icmp_ne (tgt := 514) hx hb (rS _ _ _) (rS _ _ _) dL_acts_507 (by decide) (fun c_65 => (by exfalso; omega)) (fun c_65 => ?_)
                    refine lv_iconst (v := i32 (1)) hx hb dL_acts_510 rfl ?_
                    refine lv_goto (tgt := 515) hx hb dL_acts_511 (by decide) ?_
                    refine lv_istore (lv' := [(11, .int (i32 (1))), (10, .int (i32 (ln))), (9, .int (i32 (y63))), (8, .int (i32 (y59))), (7, .int (i32 (y1))), (0, .ref (ad 1 0)), (1, .ref (ad 3 1)), (2, .ref (ad 3 2)), (3, .ref (ad 3 3)), (4, .ref (ad 3 4)), (5, .int (i32 (x))), (6, .int (i32 (y)))]) hx hb dL_acts_515 hl (by decide) rfl (fun ls hl => ?_)
                    refine lv_iload hx hb dL_acts_517 (lv_at hl 0 rfl) ?_
                    refine q_if_eq (tgt := 555) hx hb ⟨by decide, by decide⟩ dL_acts_519 (by decide) (fun h => by omega) (fun _ => ?_)
                    refine lv_iload hx hb dL_acts_522 (lv_at hl 1 rfl) ?_
                    refine q_if_lt (tgt := 551) hx hb ⟨by omega, by omega⟩ dL_acts_524 (by decide) (fun c_66 => (by exfalso; omega)) (fun c_66 => ?_)
                    refine lv_iload hx hb dL_acts_527 (lv_at hl 1 rfl) ?_
                    refine lv_aload_n hx hb dL_acts_529 rfl (lv_at hl 7 rfl) ?_
                    refine lv_iconst (v := i32 (2)) hx hb dL_acts_530 rfl ?_
                    refine lv_iload hx hb dL_acts_531 (lv_at hl 2 rfl) ?_
                    refine q_imul hx hb dL_acts_533 ?_
                    refine p_iald (k := 3) (r := 2) (n := 10) hx hb hK hP hI.a.2.2 rfl rfl (by decide) (by decide) (by omega) (by omega) dL_acts_534 ?_
                    refine lv_aload_n hx hb dL_acts_535 rfl (lv_at hl 7 rfl) ?_
                    refine lv_iconst (v := i32 (2)) hx hb dL_acts_536 rfl ?_
                    refine lv_iload hx hb dL_acts_537 (lv_at hl 2 rfl) ?_
                    refine q_imul hx hb dL_acts_539 ?_
                    refine lv_iconst (v := i32 (1)) hx hb dL_acts_540 rfl ?_
                    refine q_iadd hx hb dL_acts_541 ?_
                    refine p_iald (k := 3) (r := 2) (n := 10) hx hb hK hP hI.a.2.2 rfl rfl (by decide) (by decide) (by omega) (by omega) dL_acts_542 ?_
                    refine q_imul hx hb dL_acts_543 ?_
                    refine q_icmp_gt (tgt := 551) hx hb ⟨by omega, by omega⟩ ⟨by omega, by omega⟩ dL_acts_544 (by decide) (fun c_67 => (by exfalso; omega)) (fun c_67 => ?_)
                    refine lv_iconst (v := i32 (1)) hx hb dL_acts_547 rfl ?_
                    refine lv_goto (tgt := 566) hx hb dL_acts_548 (by decide) ?_
                    refine lv_istore (lv' := [(12, .int (i32 (1))), (11, .int (i32 (1))), (10, .int (i32 (ln))), (9, .int (i32 (y63))), (8, .int (i32 (y59))), (7, .int (i32 (y1))), (0, .ref (ad 1 0)), (1, .ref (ad 3 1)), (2, .ref (ad 3 2)), (3, .ref (ad 3 3)), (4, .ref (ad 3 4)), (5, .int (i32 (x))), (6, .int (i32 (y)))]) hx hb dL_acts_566 hl (by decide) rfl (fun ls hl => ?_)
                    refine lv_iload hx hb dL_acts_568 (lv_at hl 0 rfl) ?_
                    refine q_if_eq (tgt := 673) hx hb ⟨by decide, by decide⟩ dL_acts_570 (by decide) (fun h => by omega) (fun _ => ?_)
                    refine lv_iload hx hb dL_acts_573 (lv_at hl 5 rfl) ?_
                    refine lv_bipush (v := i32 (12)) hx hb dL_acts_575 (by decide) ?_
                    refine q_icmp_ne (tgt := 596) hx hb ⟨by omega, by omega⟩ ⟨by decide, by decide⟩ dL_acts_577 (by decide) (fun c_68 => ?_) (fun c_68 => ?_)
                    · -- y1 ≠ 12
                      refine lv_iload hx hb dL_acts_596 (lv_at hl 5 rfl) ?_
                      refine lv_bipush (v := i32 (13)) hx hb dL_acts_598 (by decide) ?_
                      refine q_icmp_ne (tgt := 617) hx hb ⟨by omega, by omega⟩ ⟨by decide, by decide⟩ dL_acts_600 (by decide) (fun c_69 => ?_) (fun c_69 => ?_)
                      · -- y1 ≠ 13
                        refine lv_iload hx hb dL_acts_617 (lv_at hl 5 rfl) ?_
                        refine lv_bipush (v := i32 (14)) hx hb dL_acts_619 (by decide) ?_
                        refine q_icmp_ne (tgt := 645) hx hb ⟨by omega, by omega⟩ ⟨by decide, by decide⟩ dL_acts_621 (by decide) (fun c_70 => ?_) (fun c_70 => ?_)
                        · -- y1 ≠ 14
                          refine lv_aload_n hx hb dL_acts_645 rfl (lv_at hl 6 rfl) ?_
                          refine lv_aload_n hx hb dL_acts_646 rfl (lv_at hl 9 rfl) ?_
                          refine lv_iload hx hb dL_acts_647 (lv_at hl 4 rfl) ?_
                          refine q_callS2 (As := [.ref (ad 1 0), .ref (ad 3 3), .int (i32 (y59))]) (rest := []) hx hb hml hl.1 hown hK hZ hP hS (c_L_isPiece l g base ad S y59 hfl hI c_61 hV.2.2.2 ⟨by omega, by omega⟩) t_329 (q_callB hK 328 14 330 t_328 t_14 t_330 f_yL_isPiece ⟨Nat.le_of_ble_eq_true rfl, Nat.le_of_ble_eq_true rfl⟩) rfl rfl (Nat.le_of_ble_eq_true rfl) dL_acts_649 (c2 := 1468) (s2 := 8808) ⟨by first | rfl | (dsimp only; omega), by first | rfl | (dsimp only; omega)⟩ ⟨by show 1468 ≤ 2970; omega, by show 8808 ≤ 18559; omega⟩ (q_an (fun H locs hP hS => ?_))
                          refine q_if_eq (tgt := 673) hx hb ⟨by decide, by decide⟩ dL_acts_652 (by decide) (fun h => by omega) (fun _ => ?_)
                          refine lv_aload_n hx hb dL_acts_655 rfl (lv_at hl 6 rfl) ?_
                          refine q_callV2 (k := 1) (As := []) (rest := []) hx hb hml hl.1 hown hK hZ hP hS hI.a.1 rfl rfl rfl (c_X3_balances l g base ad S  hI.wc) t_91 t_92 (q_callB hK 90 15 93 t_90 t_15 t_93 f_yX3_balances ⟨Nat.le_of_ble_eq_true rfl, Nat.le_of_ble_eq_true rfl⟩) rfl rfl (Nat.le_of_ble_eq_true rfl) dL_acts_656 (c2 := 1468) (s2 := 8808) ⟨by first | rfl | (dsimp only; omega), by first | rfl | (dsimp only; omega)⟩ ⟨by show 1468 ≤ 2970; omega, by show 8808 ≤ 18559; omega⟩ (q_an (fun H locs hP hS => ?_))
                          generalize eS71 : blS S 20 = S71 at hP
                          have rS71 : ∀ (a1 b1 : Nat) (i1 : Int), rng (S71 a1 b1 i1) := fun a1 b1 i1 => hP.rg a1 b1 i1
                          have ivS71 : IV S71 := by rw [← eS71]; exact IV_bl hI
                          have h3S71 : ∀ (b1 : Nat) (i1 : Int), S71 3 b1 i1 = S 3 b1 i1 := by rw [← eS71]; exact fun b i => blS_o (by omega)
                          have lv9 : LV S71 := by rw [← eS71]; exact LV_k hV hI.k.1.2 (fun b i => blS_o (by omega)) (blS_o (by omega)) (blS_o (by omega)) (blS_o (by omega)) (fun j => blS_o (by omega)) (fun a h1 h2 => ⟨blS_o (by omega), blS_o (by omega)⟩)
                          refine q_if_eqb (tgt := 673) hx hb dL_acts_659 (by decide) (fun c_72 => (by exfalso; exact c_72 hI.b)) (fun c_72 => ?_)
                          refine lv_aload_n hx hb dL_acts_662 rfl (lv_at hl 6 rfl) ?_
                          have gdb := gd_b ivS71
                          refine q_callV2 (k := 1) (As := []) (rest := []) hx hb hml hl.1 hown hK hZ hP hS ivS71.a.1 rfl rfl rfl (c_X3_gold l g base ad S71  ivS71.wc) t_707 t_708 (q_callB hK 706 15 709 t_706 t_15 t_709 f_yX3_gold ⟨Nat.le_of_ble_eq_true rfl, Nat.le_of_ble_eq_true rfl⟩) rfl rfl (Nat.le_of_ble_eq_true rfl) dL_acts_663 (c2 := 1468) (s2 := 8808) ⟨by first | rfl | (dsimp only; omega), by first | rfl | (dsimp only; omega)⟩ ⟨by show 1468 ≤ 2970; omega, by show 8808 ≤ 18559; omega⟩ (q_an (fun H locs hP hS => ?_))
                          refine q_if_lt (tgt := 673) hx hb ⟨by omega, by omega⟩ dL_acts_666 (by decide) (fun c_73 => (by exfalso; omega)) (fun c_73 => ?_)
                          refine lv_iconst (v := i32 (1)) hx hb dL_acts_669 rfl ?_
                          refine lv_goto (tgt := 674) hx hb dL_acts_670 (by decide) ?_
                          subst hQm
                          exact q_zret hx hb hr hlocks hP hS (v := 1) (by decide) (by exact ⟨⟨rfl, (fun _ _ _ => rfl)⟩, ivS71, lv9⟩) (by show 1468 ≤ 2970; omega) (by show 8808 ≤ 18559; omega) dL_acts_674
                        · -- y1 = 14
                          refine lv_aload_n hx hb dL_acts_624 rfl (lv_at hl 6 rfl) ?_
                          refine lv_aload hx hb dL_acts_625 (lv_at hl 10 rfl) ?_
                          refine lv_iload hx hb dL_acts_627 (lv_at hl 4 rfl) ?_
                          refine lv_iload hx hb dL_acts_629 (lv_at hl 11 rfl) ?_
                          refine lv_bipush (v := i32 (9)) hx hb dL_acts_631 (by decide) ?_
                          refine lv_ishr hx hb dL_acts_633 ?_
                          obtain ⟨z74, rz74, hz74⟩ := i32_of (i32 (x) >>> (i32 (9) &&& 31))
                          rw [hz74]
                          refine lv_iload hx hb dL_acts_634 (lv_at hl 12 rfl) ?_
                          refine q_callS2 (As := [.ref (ad 1 0), .ref (ad 3 4), .int (i32 (y59)), .int (i32 (z74)), .int (i32 (y))]) (rest := []) hx hb hml hl.1 hown hK hZ hP hS (c_L_wears l g base ad S y59 z74 y hfl hI hV c_61 ⟨by omega, by omega⟩ rz74 hrn2) t_688 (q_callB hK 687 14 689 t_687 t_14 t_689 f_yL_wears ⟨Nat.le_of_ble_eq_true rfl, Nat.le_of_ble_eq_true rfl⟩) rfl rfl (Nat.le_of_ble_eq_true rfl) dL_acts_636 (c2 := 16) (s2 := 96) ⟨by first | rfl | (dsimp only; omega), by first | rfl | (dsimp only; omega)⟩ ⟨by show 16 ≤ 2970; omega, by show 96 ≤ 18559; omega⟩ (fun rr ad' S' H locs hQ hP hS => ?_)
                          obtain ⟨⟨hr9, ek9⟩, hI9, hV9⟩ := hQ
                          subst hr9
                          obtain ⟨S75, hS75⟩ : ∃ s9 : St, s9 = S' := ⟨_, rfl⟩
                          rw [← hS75] at hI9 hV9 hP
                          obtain ⟨ad75, had75⟩ : ∃ a9 : Nat → Nat → Nat, a9 = ad' := ⟨_, rfl⟩
                          rw [← had75] at ek9 hP
                          have ek_ad75 : ∀ x q, x < 4 → ad75 x q = ad x q := fun x q h => (ek9 x q h)
                          have el_ad75 : ∀ x q, x < 4 → ad75 x q = ad x q := ek9
                          have hl : lv_has ls 13 [(12, .int (i32 (1))), (11, .int (i32 (1))), (10, .int (i32 (ln))), (9, .int (i32 (y63))), (8, .int (i32 (y59))), (7, .int (i32 (y1))), (0, .ref (ad75 1 0)), (1, .ref (ad75 3 1)), (2, .ref (ad75 3 2)), (3, .ref (ad75 3 3)), (4, .ref (ad75 3 4)), (5, .int (i32 (x))), (6, .int (i32 (y)))] := by
                            have t9 := hl
                            rw [← el_ad75 1 0 (by decide), ← el_ad75 3 1 (by decide), ← el_ad75 3 2 (by decide), ← el_ad75 3 3 (by decide), ← el_ad75 3 4 (by decide)] at t9
                            exact t9
                          skip
                          have ivS75 : IV S75 := hI9
                          have lvS75 : LV S75 := hV9
                          have rS75 : ∀ (a1 b1 : Nat) (i1 : Int), rng (S75 a1 b1 i1) := fun a1 b1 i1 => hP.rg a1 b1 i1
                          refine q_if_eq (tgt := 673) hx hb ⟨by decide, by decide⟩ dL_acts_639 (by decide) (fun h => by omega) (fun _ => ?_)
                          refine lv_goto (tgt := 669) hx hb dL_acts_642 (by decide) ?_
                          refine lv_iconst (v := i32 (1)) hx hb dL_acts_669 rfl ?_
                          refine lv_goto (tgt := 674) hx hb dL_acts_670 (by decide) ?_
                          subst hQm
                          exact q_zret hx hb hr hlocks hP hS (v := 1) (by decide) (by exact ⟨⟨rfl, ek_ad75⟩, ivS75, lvS75⟩) (by show 16 ≤ 2970; omega) (by show 96 ≤ 18559; omega) dL_acts_674
                      · -- y1 = 13
                        refine lv_aload_n hx hb dL_acts_603 rfl (lv_at hl 6 rfl) ?_
                        refine lv_iload hx hb dL_acts_604 (lv_at hl 4 rfl) ?_
                        refine lv_iload hx hb dL_acts_606 (lv_at hl 12 rfl) ?_
                        refine q_callS2 (As := [.ref (ad 1 0), .int (i32 (y59)), .int (i32 (y))]) (rest := []) hx hb hml hl.1 hown hK hZ hP hS (c_L_sews l g base ad S y59 y hfl hI hV c_61 ⟨by omega, by omega⟩ hrn2) t_673 (q_callB hK 672 14 674 t_672 t_14 t_674 f_yL_sews ⟨Nat.le_of_ble_eq_true rfl, Nat.le_of_ble_eq_true rfl⟩) rfl rfl (Nat.le_of_ble_eq_true rfl) dL_acts_608 (c2 := 22) (s2 := 132) ⟨by first | rfl | (dsimp only; omega), by first | rfl | (dsimp only; omega)⟩ ⟨by show 22 ≤ 2970; omega, by show 132 ≤ 18559; omega⟩ (fun rr ad' S' H locs hQ hP hS => ?_)
                        obtain ⟨⟨hr9, ek9⟩, hI9, hV9⟩ := hQ
                        subst hr9
                        obtain ⟨S76, hS76⟩ : ∃ s9 : St, s9 = S' := ⟨_, rfl⟩
                        rw [← hS76] at hI9 hV9 hP
                        obtain ⟨ad76, had76⟩ : ∃ a9 : Nat → Nat → Nat, a9 = ad' := ⟨_, rfl⟩
                        rw [← had76] at ek9 hP
                        have ek_ad76 : ∀ x q, x < 4 → ad76 x q = ad x q := fun x q h => (ek9 x q h)
                        have el_ad76 : ∀ x q, x < 4 → ad76 x q = ad x q := ek9
                        have hl : lv_has ls 13 [(12, .int (i32 (1))), (11, .int (i32 (1))), (10, .int (i32 (ln))), (9, .int (i32 (y63))), (8, .int (i32 (y59))), (7, .int (i32 (y1))), (0, .ref (ad76 1 0)), (1, .ref (ad76 3 1)), (2, .ref (ad76 3 2)), (3, .ref (ad76 3 3)), (4, .ref (ad76 3 4)), (5, .int (i32 (x))), (6, .int (i32 (y)))] := by
                          have t9 := hl
                          rw [← el_ad76 1 0 (by decide), ← el_ad76 3 1 (by decide), ← el_ad76 3 2 (by decide), ← el_ad76 3 3 (by decide), ← el_ad76 3 4 (by decide)] at t9
                          exact t9
                        skip
                        have ivS76 : IV S76 := hI9
                        have lvS76 : LV S76 := hV9
                        have rS76 : ∀ (a1 b1 : Nat) (i1 : Int), rng (S76 a1 b1 i1) := fun a1 b1 i1 => hP.rg a1 b1 i1
                        refine q_if_eq (tgt := 673) hx hb ⟨by decide, by decide⟩ dL_acts_611 (by decide) (fun h => by omega) (fun _ => ?_)
                        refine lv_goto (tgt := 669) hx hb dL_acts_614 (by decide) ?_
                        refine lv_iconst (v := i32 (1)) hx hb dL_acts_669 rfl ?_
                        refine lv_goto (tgt := 674) hx hb dL_acts_670 (by decide) ?_
                        subst hQm
                        exact q_zret hx hb hr hlocks hP hS (v := 1) (by decide) (by exact ⟨⟨rfl, ek_ad76⟩, ivS76, lvS76⟩) (by show 22 ≤ 2970; omega) (by show 132 ≤ 18559; omega) dL_acts_674
                    · -- y1 = 12
                      refine lv_aload_n hx hb dL_acts_580 rfl (lv_at hl 6 rfl) ?_
                      refine lv_aload_n hx hb dL_acts_581 rfl (lv_at hl 7 rfl) ?_
                      refine lv_aload_n hx hb dL_acts_582 rfl (lv_at hl 9 rfl) ?_
                      refine lv_iload hx hb dL_acts_583 (lv_at hl 4 rfl) ?_
                      refine lv_iload hx hb dL_acts_585 (lv_at hl 12 rfl) ?_
                      refine q_callS2 (As := [.ref (ad 1 0), .ref (ad 3 1), .ref (ad 3 3), .int (i32 (y59)), .int (i32 (y))]) (rest := []) hx hb hml hl.1 hown hK hZ hP hS (c_L_cuts l g base ad S y59 y hfl hI hV c_61 ⟨by omega, by omega⟩ hrn2) t_655 (q_callB hK 654 14 656 t_654 t_14 t_656 f_yL_cuts ⟨Nat.le_of_ble_eq_true rfl, Nat.le_of_ble_eq_true rfl⟩) rfl rfl (Nat.le_of_ble_eq_true rfl) dL_acts_587 (c2 := 2970) (s2 := 18559) ⟨by first | rfl | (dsimp only; omega), by first | rfl | (dsimp only; omega)⟩ ⟨by show 2970 ≤ 2970; omega, by show 18559 ≤ 18559; omega⟩ (fun rr ad' S' H locs hQ hP hS => ?_)
                      obtain ⟨⟨hr9, ek9⟩, hI9, hV9⟩ := hQ
                      subst hr9
                      obtain ⟨S77, hS77⟩ : ∃ s9 : St, s9 = S' := ⟨_, rfl⟩
                      rw [← hS77] at hI9 hV9 hP
                      obtain ⟨ad77, had77⟩ : ∃ a9 : Nat → Nat → Nat, a9 = ad' := ⟨_, rfl⟩
                      rw [← had77] at ek9 hP
                      have ek_ad77 : ∀ x q, x < 4 → ad77 x q = ad x q := fun x q h => (ek9 x q h)
                      have el_ad77 : ∀ x q, x < 4 → ad77 x q = ad x q := ek9
                      have hl : lv_has ls 13 [(12, .int (i32 (1))), (11, .int (i32 (1))), (10, .int (i32 (ln))), (9, .int (i32 (y63))), (8, .int (i32 (y59))), (7, .int (i32 (y1))), (0, .ref (ad77 1 0)), (1, .ref (ad77 3 1)), (2, .ref (ad77 3 2)), (3, .ref (ad77 3 3)), (4, .ref (ad77 3 4)), (5, .int (i32 (x))), (6, .int (i32 (y)))] := by
                        have t9 := hl
                        rw [← el_ad77 1 0 (by decide), ← el_ad77 3 1 (by decide), ← el_ad77 3 2 (by decide), ← el_ad77 3 3 (by decide), ← el_ad77 3 4 (by decide)] at t9
                        exact t9
                      skip
                      have ivS77 : IV S77 := hI9
                      have lvS77 : LV S77 := hV9
                      have rS77 : ∀ (a1 b1 : Nat) (i1 : Int), rng (S77 a1 b1 i1) := fun a1 b1 i1 => hP.rg a1 b1 i1
                      refine q_if_eq (tgt := 673) hx hb ⟨by decide, by decide⟩ dL_acts_590 (by decide) (fun h => by omega) (fun _ => ?_)
                      refine lv_goto (tgt := 669) hx hb dL_acts_593 (by decide) ?_
                      refine lv_iconst (v := i32 (1)) hx hb dL_acts_669 rfl ?_
                      refine lv_goto (tgt := 674) hx hb dL_acts_670 (by decide) ?_
                      subst hQm
                      exact q_zret hx hb hr hlocks hP hS (v := 1) (by decide) (by exact ⟨⟨rfl, ek_ad77⟩, ivS77, lvS77⟩) (by show 2970 ≤ 2970; omega) (by show 18559 ≤ 18559; omega) dL_acts_674
                  · skip
                    obtain ⟨hd1, hd2, hd3⟩ := vd y63 (by omega) (by omega)
                    obtain ⟨⟨-, hcw1, hcw2⟩, -⟩ := hI.k.2.2 y63 (by omega) (by omega)
                    obtain ⟨-, pw8, ph8, -⟩ := (hI.pp c_61).1
                    have hm0 : 0 ≤ (S 3 2 (2 * y63)) * (S 3 2 ((2 * y63) + 1)) := Int.mul_nonneg (by omega) (by omega)
                    have hm1 : (S 3 2 (2 * y63)) * (S 3 2 ((2 * y63) + 1)) ≤ 240 := mul240 (by omega) (by omega) (by omega) (by omega)
                    refine lv_aload_n hx hb dL_acts_466 rfl (lv_at hl 3 rfl) ?_
                    refine lv_iload hx hb dL_acts_467 (lv_at hl 1 rfl) ?_
                    refine lv_iload hx hb dL_acts_469 (lv_at hl 0 rfl) ?_
                    refine q_callH2 (As := [.ref (ad 1 0), .int (i32 (y59)), .int (i32 (y63))]) (rest := []) hx hb hml hl.1 hown hK hZ hP hS (c_L_likeness l g base ad S y59 y63 hfl hI.wc ⟨by omega, by omega⟩ ⟨by omega, by omega⟩) t_504 t_14 t_506 t_505 f_yL_likeness ⟨Nat.le_of_ble_eq_true rfl, Nat.le_of_ble_eq_true rfl⟩ rfl rfl (Nat.le_of_ble_eq_true rfl) dL_acts_471 (c2 := 4) (s2 := 24) ⟨by first | rfl | (dsimp only; omega), by first | rfl | (dsimp only; omega)⟩ ⟨by show 4 ≤ 2970; omega, by show 24 ≤ 18559; omega⟩ (q_an (fun H locs hP hS => ?_))
                    refine q_nm (b := -1) ((lv_0 ⟨c_61, hI.ce.mpr (by omega)⟩ trivial trivial).trans (cif_f h_F)) ?_
                    refine lv_istore (lv' := [(10, .int (i32 (-1))), (9, .int (i32 (y63))), (8, .int (i32 (y59))), (7, .int (i32 (y1))), (0, .ref (ad 1 0)), (1, .ref (ad 3 1)), (2, .ref (ad 3 2)), (3, .ref (ad 3 3)), (4, .ref (ad 3 4)), (5, .int (i32 (x))), (6, .int (i32 (y)))]) hx hb dL_acts_474 hl (by decide) rfl (fun ls hl => ?_)
                    refine lv_aload_n hx hb dL_acts_476 rfl (lv_at hl 4 rfl) ?_
                    refine lv_iload hx hb dL_acts_477 (lv_at hl 2 rfl) ?_
                    refine lv_iconst (v := i32 (0)) hx hb dL_acts_479 rfl ?_
                    refine q_callH2 (As := [.ref (ad 1 0), .int (i32 (y59)), .int (i32 (0))]) (rest := []) hx hb hml hl.1 hown hK hZ hP hS (c_L_pieceIs l g base ad S y59 ((0 : Int)) hfl hI.wc ⟨by omega, by omega⟩ ⟨by decide, by decide⟩) t_266 t_14 t_268 t_267 f_yL_pieceIs ⟨Nat.le_of_ble_eq_true rfl, Nat.le_of_ble_eq_true rfl⟩ rfl rfl (Nat.le_of_ble_eq_true rfl) dL_acts_480 (c2 := 6) (s2 := 36) ⟨by first | rfl | (dsimp only; omega), by first | rfl | (dsimp only; omega)⟩ ⟨by show 6 ≤ 2970; omega, by show 36 ≤ 18559; omega⟩ (q_an (fun H locs hP hS => ?_))
                    refine q_nm (b := S (10 + Int.toNat y59) 0 0) (((lv_0 c_61 (by decide) trivial).trans (pcC_0 rfl))) ?_
                    refine lv_aload_n hx hb dL_acts_483 rfl (lv_at hl 6 rfl) ?_
                    refine lv_iconst (v := i32 (2)) hx hb dL_acts_484 rfl ?_
                    refine lv_iload hx hb dL_acts_485 (lv_at hl 1 rfl) ?_
                    refine q_imul hx hb dL_acts_487 ?_
                    refine p_iald (k := 3) (r := 2) (n := 10) hx hb hK hP hI.a.2.2 rfl rfl (by decide) (by decide) (by omega) (by omega) dL_acts_488 ?_
                    refine q_icmp_ne (tgt := 514) hx hb (rS _ _ _) (rS _ _ _) dL_acts_489 (by decide) (fun c_78 => ?_) (fun c_78 => ?_)
                    · -- (S (10 + Int.toNat y59) 0 0) ≠ (S 3 2 (2 * y63))
                      refine lv_iconst (v := i32 (0)) hx hb dL_acts_514 rfl ?_
                      refine lv_istore (lv' := [(11, .int (i32 (0))), (10, .int (i32 (-1))), (9, .int (i32 (y63))), (8, .int (i32 (y59))), (7, .int (i32 (y1))), (0, .ref (ad 1 0)), (1, .ref (ad 3 1)), (2, .ref (ad 3 2)), (3, .ref (ad 3 3)), (4, .ref (ad 3 4)), (5, .int (i32 (x))), (6, .int (i32 (y)))]) hx hb dL_acts_515 hl (by decide) rfl (fun ls hl => ?_)
                      refine lv_iload hx hb dL_acts_517 (lv_at hl 0 rfl) ?_
                      refine q_if_eq (tgt := 555) hx hb ⟨by decide, by decide⟩ dL_acts_519 (by decide) (fun _ => ?_) (fun h => by omega)
                      refine lv_iload hx hb dL_acts_555 (lv_at hl 1 rfl) ?_
                      refine lv_iconst (v := i32 (-1)) hx hb dL_acts_557 rfl ?_
                      refine q_icmp_ne (tgt := 565) hx hb ⟨by decide, by decide⟩ ⟨by decide, by decide⟩ dL_acts_558 (by decide) (fun c_79 => (by exfalso; omega)) (fun c_79 => ?_)
                      refine lv_iconst (v := i32 (1)) hx hb dL_acts_561 rfl ?_
                      refine lv_goto (tgt := 566) hx hb dL_acts_562 (by decide) ?_
                      refine lv_istore (lv' := [(12, .int (i32 (1))), (11, .int (i32 (0))), (10, .int (i32 (-1))), (9, .int (i32 (y63))), (8, .int (i32 (y59))), (7, .int (i32 (y1))), (0, .ref (ad 1 0)), (1, .ref (ad 3 1)), (2, .ref (ad 3 2)), (3, .ref (ad 3 3)), (4, .ref (ad 3 4)), (5, .int (i32 (x))), (6, .int (i32 (y)))]) hx hb dL_acts_566 hl (by decide) rfl (fun ls hl => ?_)
                      refine lv_iload hx hb dL_acts_568 (lv_at hl 0 rfl) ?_
                      refine q_if_eq (tgt := 673) hx hb ⟨by decide, by decide⟩ dL_acts_570 (by decide) (fun h => by omega) (fun _ => ?_)
                      refine lv_iload hx hb dL_acts_573 (lv_at hl 5 rfl) ?_
                      refine lv_bipush (v := i32 (12)) hx hb dL_acts_575 (by decide) ?_
                      refine q_icmp_ne (tgt := 596) hx hb ⟨by omega, by omega⟩ ⟨by decide, by decide⟩ dL_acts_577 (by decide) (fun c_80 => ?_) (fun c_80 => ?_)
                      · -- y1 ≠ 12
                        refine lv_iload hx hb dL_acts_596 (lv_at hl 5 rfl) ?_
                        refine lv_bipush (v := i32 (13)) hx hb dL_acts_598 (by decide) ?_
                        refine q_icmp_ne (tgt := 617) hx hb ⟨by omega, by omega⟩ ⟨by decide, by decide⟩ dL_acts_600 (by decide) (fun c_81 => ?_) (fun c_81 => ?_)
                        · -- y1 ≠ 13
                          refine lv_iload hx hb dL_acts_617 (lv_at hl 5 rfl) ?_
                          refine lv_bipush (v := i32 (14)) hx hb dL_acts_619 (by decide) ?_
                          refine q_icmp_ne (tgt := 645) hx hb ⟨by omega, by omega⟩ ⟨by decide, by decide⟩ dL_acts_621 (by decide) (fun c_82 => ?_) (fun c_82 => ?_)
                          · -- y1 ≠ 14
                            refine lv_aload_n hx hb dL_acts_645 rfl (lv_at hl 6 rfl) ?_
                            refine lv_aload_n hx hb dL_acts_646 rfl (lv_at hl 9 rfl) ?_
                            refine lv_iload hx hb dL_acts_647 (lv_at hl 4 rfl) ?_
                            refine q_callS2 (As := [.ref (ad 1 0), .ref (ad 3 3), .int (i32 (y59))]) (rest := []) hx hb hml hl.1 hown hK hZ hP hS (c_L_isPiece l g base ad S y59 hfl hI c_61 hV.2.2.2 ⟨by omega, by omega⟩) t_329 (q_callB hK 328 14 330 t_328 t_14 t_330 f_yL_isPiece ⟨Nat.le_of_ble_eq_true rfl, Nat.le_of_ble_eq_true rfl⟩) rfl rfl (Nat.le_of_ble_eq_true rfl) dL_acts_649 (c2 := 1466) (s2 := 8796) ⟨by first | rfl | (dsimp only; omega), by first | rfl | (dsimp only; omega)⟩ ⟨by show 1466 ≤ 2970; omega, by show 8796 ≤ 18559; omega⟩ (q_an (fun H locs hP hS => ?_))
                            refine q_if_eq (tgt := 673) hx hb ⟨by decide, by decide⟩ dL_acts_652 (by decide) (fun h => by omega) (fun _ => ?_)
                            refine lv_aload_n hx hb dL_acts_655 rfl (lv_at hl 6 rfl) ?_
                            refine q_callV2 (k := 1) (As := []) (rest := []) hx hb hml hl.1 hown hK hZ hP hS hI.a.1 rfl rfl rfl (c_X3_balances l g base ad S  hI.wc) t_91 t_92 (q_callB hK 90 15 93 t_90 t_15 t_93 f_yX3_balances ⟨Nat.le_of_ble_eq_true rfl, Nat.le_of_ble_eq_true rfl⟩) rfl rfl (Nat.le_of_ble_eq_true rfl) dL_acts_656 (c2 := 1466) (s2 := 8796) ⟨by first | rfl | (dsimp only; omega), by first | rfl | (dsimp only; omega)⟩ ⟨by show 1466 ≤ 2970; omega, by show 8796 ≤ 18559; omega⟩ (q_an (fun H locs hP hS => ?_))
                            generalize eS83 : blS S 20 = S83 at hP
                            have rS83 : ∀ (a1 b1 : Nat) (i1 : Int), rng (S83 a1 b1 i1) := fun a1 b1 i1 => hP.rg a1 b1 i1
                            have ivS83 : IV S83 := by rw [← eS83]; exact IV_bl hI
                            have h3S83 : ∀ (b1 : Nat) (i1 : Int), S83 3 b1 i1 = S 3 b1 i1 := by rw [← eS83]; exact fun b i => blS_o (by omega)
                            have lv9 : LV S83 := by rw [← eS83]; exact LV_k hV hI.k.1.2 (fun b i => blS_o (by omega)) (blS_o (by omega)) (blS_o (by omega)) (blS_o (by omega)) (fun j => blS_o (by omega)) (fun a h1 h2 => ⟨blS_o (by omega), blS_o (by omega)⟩)
                            refine q_if_eqb (tgt := 673) hx hb dL_acts_659 (by decide) (fun c_84 => (by exfalso; exact c_84 hI.b)) (fun c_84 => ?_)
                            refine lv_aload_n hx hb dL_acts_662 rfl (lv_at hl 6 rfl) ?_
                            have gdb := gd_b ivS83
                            refine q_callV2 (k := 1) (As := []) (rest := []) hx hb hml hl.1 hown hK hZ hP hS ivS83.a.1 rfl rfl rfl (c_X3_gold l g base ad S83  ivS83.wc) t_707 t_708 (q_callB hK 706 15 709 t_706 t_15 t_709 f_yX3_gold ⟨Nat.le_of_ble_eq_true rfl, Nat.le_of_ble_eq_true rfl⟩) rfl rfl (Nat.le_of_ble_eq_true rfl) dL_acts_663 (c2 := 1466) (s2 := 8796) ⟨by first | rfl | (dsimp only; omega), by first | rfl | (dsimp only; omega)⟩ ⟨by show 1466 ≤ 2970; omega, by show 8796 ≤ 18559; omega⟩ (q_an (fun H locs hP hS => ?_))
                            refine q_if_lt (tgt := 673) hx hb ⟨by omega, by omega⟩ dL_acts_666 (by decide) (fun c_85 => (by exfalso; omega)) (fun c_85 => ?_)
                            refine lv_iconst (v := i32 (1)) hx hb dL_acts_669 rfl ?_
                            refine lv_goto (tgt := 674) hx hb dL_acts_670 (by decide) ?_
                            subst hQm
                            exact q_zret hx hb hr hlocks hP hS (v := 1) (by decide) (by exact ⟨⟨rfl, (fun _ _ _ => rfl)⟩, ivS83, lv9⟩) (by show 1466 ≤ 2970; omega) (by show 8796 ≤ 18559; omega) dL_acts_674
                          · -- y1 = 14
                            refine lv_aload_n hx hb dL_acts_624 rfl (lv_at hl 6 rfl) ?_
                            refine lv_aload hx hb dL_acts_625 (lv_at hl 10 rfl) ?_
                            refine lv_iload hx hb dL_acts_627 (lv_at hl 4 rfl) ?_
                            refine lv_iload hx hb dL_acts_629 (lv_at hl 11 rfl) ?_
                            refine lv_bipush (v := i32 (9)) hx hb dL_acts_631 (by decide) ?_
                            refine lv_ishr hx hb dL_acts_633 ?_
                            obtain ⟨z86, rz86, hz86⟩ := i32_of (i32 (x) >>> (i32 (9) &&& 31))
                            rw [hz86]
                            refine lv_iload hx hb dL_acts_634 (lv_at hl 12 rfl) ?_
                            refine q_callS2 (As := [.ref (ad 1 0), .ref (ad 3 4), .int (i32 (y59)), .int (i32 (z86)), .int (i32 (y))]) (rest := []) hx hb hml hl.1 hown hK hZ hP hS (c_L_wears l g base ad S y59 z86 y hfl hI hV c_61 ⟨by omega, by omega⟩ rz86 hrn2) t_688 (q_callB hK 687 14 689 t_687 t_14 t_689 f_yL_wears ⟨Nat.le_of_ble_eq_true rfl, Nat.le_of_ble_eq_true rfl⟩) rfl rfl (Nat.le_of_ble_eq_true rfl) dL_acts_636 (c2 := 14) (s2 := 84) ⟨by first | rfl | (dsimp only; omega), by first | rfl | (dsimp only; omega)⟩ ⟨by show 14 ≤ 2970; omega, by show 84 ≤ 18559; omega⟩ (fun rr ad' S' H locs hQ hP hS => ?_)
                            obtain ⟨⟨hr9, ek9⟩, hI9, hV9⟩ := hQ
                            subst hr9
                            obtain ⟨S87, hS87⟩ : ∃ s9 : St, s9 = S' := ⟨_, rfl⟩
                            rw [← hS87] at hI9 hV9 hP
                            obtain ⟨ad87, had87⟩ : ∃ a9 : Nat → Nat → Nat, a9 = ad' := ⟨_, rfl⟩
                            rw [← had87] at ek9 hP
                            have ek_ad87 : ∀ x q, x < 4 → ad87 x q = ad x q := fun x q h => (ek9 x q h)
                            have el_ad87 : ∀ x q, x < 4 → ad87 x q = ad x q := ek9
                            have hl : lv_has ls 13 [(12, .int (i32 (1))), (11, .int (i32 (0))), (10, .int (i32 (-1))), (9, .int (i32 (y63))), (8, .int (i32 (y59))), (7, .int (i32 (y1))), (0, .ref (ad87 1 0)), (1, .ref (ad87 3 1)), (2, .ref (ad87 3 2)), (3, .ref (ad87 3 3)), (4, .ref (ad87 3 4)), (5, .int (i32 (x))), (6, .int (i32 (y)))] := by
                              have t9 := hl
                              rw [← el_ad87 1 0 (by decide), ← el_ad87 3 1 (by decide), ← el_ad87 3 2 (by decide), ← el_ad87 3 3 (by decide), ← el_ad87 3 4 (by decide)] at t9
                              exact t9
                            skip
                            have ivS87 : IV S87 := hI9
                            have lvS87 : LV S87 := hV9
                            have rS87 : ∀ (a1 b1 : Nat) (i1 : Int), rng (S87 a1 b1 i1) := fun a1 b1 i1 => hP.rg a1 b1 i1
                            refine q_if_eq (tgt := 673) hx hb ⟨by decide, by decide⟩ dL_acts_639 (by decide) (fun h => by omega) (fun _ => ?_)
                            refine lv_goto (tgt := 669) hx hb dL_acts_642 (by decide) ?_
                            refine lv_iconst (v := i32 (1)) hx hb dL_acts_669 rfl ?_
                            refine lv_goto (tgt := 674) hx hb dL_acts_670 (by decide) ?_
                            subst hQm
                            exact q_zret hx hb hr hlocks hP hS (v := 1) (by decide) (by exact ⟨⟨rfl, ek_ad87⟩, ivS87, lvS87⟩) (by show 14 ≤ 2970; omega) (by show 84 ≤ 18559; omega) dL_acts_674
                        · -- y1 = 13
                          refine lv_aload_n hx hb dL_acts_603 rfl (lv_at hl 6 rfl) ?_
                          refine lv_iload hx hb dL_acts_604 (lv_at hl 4 rfl) ?_
                          refine lv_iload hx hb dL_acts_606 (lv_at hl 12 rfl) ?_
                          refine q_callS2 (As := [.ref (ad 1 0), .int (i32 (y59)), .int (i32 (y))]) (rest := []) hx hb hml hl.1 hown hK hZ hP hS (c_L_sews l g base ad S y59 y hfl hI hV c_61 ⟨by omega, by omega⟩ hrn2) t_673 (q_callB hK 672 14 674 t_672 t_14 t_674 f_yL_sews ⟨Nat.le_of_ble_eq_true rfl, Nat.le_of_ble_eq_true rfl⟩) rfl rfl (Nat.le_of_ble_eq_true rfl) dL_acts_608 (c2 := 20) (s2 := 120) ⟨by first | rfl | (dsimp only; omega), by first | rfl | (dsimp only; omega)⟩ ⟨by show 20 ≤ 2970; omega, by show 120 ≤ 18559; omega⟩ (fun rr ad' S' H locs hQ hP hS => ?_)
                          obtain ⟨⟨hr9, ek9⟩, hI9, hV9⟩ := hQ
                          subst hr9
                          obtain ⟨S88, hS88⟩ : ∃ s9 : St, s9 = S' := ⟨_, rfl⟩
                          rw [← hS88] at hI9 hV9 hP
                          obtain ⟨ad88, had88⟩ : ∃ a9 : Nat → Nat → Nat, a9 = ad' := ⟨_, rfl⟩
                          rw [← had88] at ek9 hP
                          have ek_ad88 : ∀ x q, x < 4 → ad88 x q = ad x q := fun x q h => (ek9 x q h)
                          have el_ad88 : ∀ x q, x < 4 → ad88 x q = ad x q := ek9
                          have hl : lv_has ls 13 [(12, .int (i32 (1))), (11, .int (i32 (0))), (10, .int (i32 (-1))), (9, .int (i32 (y63))), (8, .int (i32 (y59))), (7, .int (i32 (y1))), (0, .ref (ad88 1 0)), (1, .ref (ad88 3 1)), (2, .ref (ad88 3 2)), (3, .ref (ad88 3 3)), (4, .ref (ad88 3 4)), (5, .int (i32 (x))), (6, .int (i32 (y)))] := by
                            have t9 := hl
                            rw [← el_ad88 1 0 (by decide), ← el_ad88 3 1 (by decide), ← el_ad88 3 2 (by decide), ← el_ad88 3 3 (by decide), ← el_ad88 3 4 (by decide)] at t9
                            exact t9
                          skip
                          have ivS88 : IV S88 := hI9
                          have lvS88 : LV S88 := hV9
                          have rS88 : ∀ (a1 b1 : Nat) (i1 : Int), rng (S88 a1 b1 i1) := fun a1 b1 i1 => hP.rg a1 b1 i1
                          refine q_if_eq (tgt := 673) hx hb ⟨by decide, by decide⟩ dL_acts_611 (by decide) (fun h => by omega) (fun _ => ?_)
                          refine lv_goto (tgt := 669) hx hb dL_acts_614 (by decide) ?_
                          refine lv_iconst (v := i32 (1)) hx hb dL_acts_669 rfl ?_
                          refine lv_goto (tgt := 674) hx hb dL_acts_670 (by decide) ?_
                          subst hQm
                          exact q_zret hx hb hr hlocks hP hS (v := 1) (by decide) (by exact ⟨⟨rfl, ek_ad88⟩, ivS88, lvS88⟩) (by show 20 ≤ 2970; omega) (by show 120 ≤ 18559; omega) dL_acts_674
                      · -- y1 = 12
                        refine lv_aload_n hx hb dL_acts_580 rfl (lv_at hl 6 rfl) ?_
                        refine lv_aload_n hx hb dL_acts_581 rfl (lv_at hl 7 rfl) ?_
                        refine lv_aload_n hx hb dL_acts_582 rfl (lv_at hl 9 rfl) ?_
                        refine lv_iload hx hb dL_acts_583 (lv_at hl 4 rfl) ?_
                        refine lv_iload hx hb dL_acts_585 (lv_at hl 12 rfl) ?_
                        refine q_callS2 (As := [.ref (ad 1 0), .ref (ad 3 1), .ref (ad 3 3), .int (i32 (y59)), .int (i32 (y))]) (rest := []) hx hb hml hl.1 hown hK hZ hP hS (c_L_cuts l g base ad S y59 y hfl hI hV c_61 ⟨by omega, by omega⟩ hrn2) t_655 (q_callB hK 654 14 656 t_654 t_14 t_656 f_yL_cuts ⟨Nat.le_of_ble_eq_true rfl, Nat.le_of_ble_eq_true rfl⟩) rfl rfl (Nat.le_of_ble_eq_true rfl) dL_acts_587 (c2 := 2968) (s2 := 18547) ⟨by first | rfl | (dsimp only; omega), by first | rfl | (dsimp only; omega)⟩ ⟨by show 2968 ≤ 2970; omega, by show 18547 ≤ 18559; omega⟩ (fun rr ad' S' H locs hQ hP hS => ?_)
                        obtain ⟨⟨hr9, ek9⟩, hI9, hV9⟩ := hQ
                        subst hr9
                        obtain ⟨S89, hS89⟩ : ∃ s9 : St, s9 = S' := ⟨_, rfl⟩
                        rw [← hS89] at hI9 hV9 hP
                        obtain ⟨ad89, had89⟩ : ∃ a9 : Nat → Nat → Nat, a9 = ad' := ⟨_, rfl⟩
                        rw [← had89] at ek9 hP
                        have ek_ad89 : ∀ x q, x < 4 → ad89 x q = ad x q := fun x q h => (ek9 x q h)
                        have el_ad89 : ∀ x q, x < 4 → ad89 x q = ad x q := ek9
                        have hl : lv_has ls 13 [(12, .int (i32 (1))), (11, .int (i32 (0))), (10, .int (i32 (-1))), (9, .int (i32 (y63))), (8, .int (i32 (y59))), (7, .int (i32 (y1))), (0, .ref (ad89 1 0)), (1, .ref (ad89 3 1)), (2, .ref (ad89 3 2)), (3, .ref (ad89 3 3)), (4, .ref (ad89 3 4)), (5, .int (i32 (x))), (6, .int (i32 (y)))] := by
                          have t9 := hl
                          rw [← el_ad89 1 0 (by decide), ← el_ad89 3 1 (by decide), ← el_ad89 3 2 (by decide), ← el_ad89 3 3 (by decide), ← el_ad89 3 4 (by decide)] at t9
                          exact t9
                        skip
                        have ivS89 : IV S89 := hI9
                        have lvS89 : LV S89 := hV9
                        have rS89 : ∀ (a1 b1 : Nat) (i1 : Int), rng (S89 a1 b1 i1) := fun a1 b1 i1 => hP.rg a1 b1 i1
                        refine q_if_eq (tgt := 673) hx hb ⟨by decide, by decide⟩ dL_acts_590 (by decide) (fun h => by omega) (fun _ => ?_)
                        refine lv_goto (tgt := 669) hx hb dL_acts_593 (by decide) ?_
                        refine lv_iconst (v := i32 (1)) hx hb dL_acts_669 rfl ?_
                        refine lv_goto (tgt := 674) hx hb dL_acts_670 (by decide) ?_
                        subst hQm
                        exact q_zret hx hb hr hlocks hP hS (v := 1) (by decide) (by exact ⟨⟨rfl, ek_ad89⟩, ivS89, lvS89⟩) (by show 2968 ≤ 2970; omega) (by show 18547 ≤ 18559; omega) dL_acts_674
                    · -- (S (10 + Int.toNat y59) 0 0) = (S 3 2 (2 * y63))
                      refine lv_aload_n hx hb dL_acts_492 rfl (lv_at hl 4 rfl) ?_
                      refine lv_iload hx hb dL_acts_493 (lv_at hl 2 rfl) ?_
                      refine lv_iconst (v := i32 (1)) hx hb dL_acts_495 rfl ?_
                      refine q_callH2 (As := [.ref (ad 1 0), .int (i32 (y59)), .int (i32 (1))]) (rest := []) hx hb hml hl.1 hown hK hZ hP hS (c_L_pieceIs l g base ad S y59 ((1 : Int)) hfl hI.wc ⟨by omega, by omega⟩ ⟨by decide, by decide⟩) t_266 t_14 t_268 t_267 f_yL_pieceIs ⟨Nat.le_of_ble_eq_true rfl, Nat.le_of_ble_eq_true rfl⟩ rfl rfl (Nat.le_of_ble_eq_true rfl) dL_acts_496 (c2 := 8) (s2 := 48) ⟨by first | rfl | (dsimp only; omega), by first | rfl | (dsimp only; omega)⟩ ⟨by show 8 ≤ 2970; omega, by show 48 ≤ 18559; omega⟩ (q_an (fun H locs hP hS => ?_))
                      refine q_nm (b := S (10 + Int.toNat y59) 0 1) (((lv_0 c_61 (by decide) trivial).trans (pcC_1 rfl))) ?_
                      refine lv_aload_n hx hb dL_acts_499 rfl (lv_at hl 6 rfl) ?_
                      refine lv_iconst (v := i32 (2)) hx hb dL_acts_500 rfl ?_
                      refine lv_iload hx hb dL_acts_501 (lv_at hl 1 rfl) ?_
                      refine q_imul hx hb dL_acts_503 ?_
                      refine lv_iconst (v := i32 (1)) hx hb dL_acts_504 rfl ?_
                      refine q_iadd hx hb dL_acts_505 ?_
                      refine p_iald (k := 3) (r := 2) (n := 10) hx hb hK hP hI.a.2.2 rfl rfl (by decide) (by decide) (by omega) (by omega) dL_acts_506 ?_
                      refine q_icmp_ne (tgt := 514) hx hb (rS _ _ _) (rS _ _ _) dL_acts_507 (by decide) (fun c_90 => ?_) (fun c_90 => (by exfalso; exact h_F ⟨by omega, by omega⟩))
                      refine lv_iconst (v := i32 (0)) hx hb dL_acts_514 rfl ?_
                      refine lv_istore (lv' := [(11, .int (i32 (0))), (10, .int (i32 (-1))), (9, .int (i32 (y63))), (8, .int (i32 (y59))), (7, .int (i32 (y1))), (0, .ref (ad 1 0)), (1, .ref (ad 3 1)), (2, .ref (ad 3 2)), (3, .ref (ad 3 3)), (4, .ref (ad 3 4)), (5, .int (i32 (x))), (6, .int (i32 (y)))]) hx hb dL_acts_515 hl (by decide) rfl (fun ls hl => ?_)
                      refine lv_iload hx hb dL_acts_517 (lv_at hl 0 rfl) ?_
                      refine q_if_eq (tgt := 555) hx hb ⟨by decide, by decide⟩ dL_acts_519 (by decide) (fun _ => ?_) (fun h => by omega)
                      refine lv_iload hx hb dL_acts_555 (lv_at hl 1 rfl) ?_
                      refine lv_iconst (v := i32 (-1)) hx hb dL_acts_557 rfl ?_
                      refine q_icmp_ne (tgt := 565) hx hb ⟨by decide, by decide⟩ ⟨by decide, by decide⟩ dL_acts_558 (by decide) (fun c_91 => (by exfalso; omega)) (fun c_91 => ?_)
                      refine lv_iconst (v := i32 (1)) hx hb dL_acts_561 rfl ?_
                      refine lv_goto (tgt := 566) hx hb dL_acts_562 (by decide) ?_
                      refine lv_istore (lv' := [(12, .int (i32 (1))), (11, .int (i32 (0))), (10, .int (i32 (-1))), (9, .int (i32 (y63))), (8, .int (i32 (y59))), (7, .int (i32 (y1))), (0, .ref (ad 1 0)), (1, .ref (ad 3 1)), (2, .ref (ad 3 2)), (3, .ref (ad 3 3)), (4, .ref (ad 3 4)), (5, .int (i32 (x))), (6, .int (i32 (y)))]) hx hb dL_acts_566 hl (by decide) rfl (fun ls hl => ?_)
                      refine lv_iload hx hb dL_acts_568 (lv_at hl 0 rfl) ?_
                      refine q_if_eq (tgt := 673) hx hb ⟨by decide, by decide⟩ dL_acts_570 (by decide) (fun h => by omega) (fun _ => ?_)
                      refine lv_iload hx hb dL_acts_573 (lv_at hl 5 rfl) ?_
                      refine lv_bipush (v := i32 (12)) hx hb dL_acts_575 (by decide) ?_
                      refine q_icmp_ne (tgt := 596) hx hb ⟨by omega, by omega⟩ ⟨by decide, by decide⟩ dL_acts_577 (by decide) (fun c_92 => ?_) (fun c_92 => ?_)
                      · -- y1 ≠ 12
                        refine lv_iload hx hb dL_acts_596 (lv_at hl 5 rfl) ?_
                        refine lv_bipush (v := i32 (13)) hx hb dL_acts_598 (by decide) ?_
                        refine q_icmp_ne (tgt := 617) hx hb ⟨by omega, by omega⟩ ⟨by decide, by decide⟩ dL_acts_600 (by decide) (fun c_93 => ?_) (fun c_93 => ?_)
                        · -- y1 ≠ 13
                          refine lv_iload hx hb dL_acts_617 (lv_at hl 5 rfl) ?_
                          refine lv_bipush (v := i32 (14)) hx hb dL_acts_619 (by decide) ?_
                          refine q_icmp_ne (tgt := 645) hx hb ⟨by omega, by omega⟩ ⟨by decide, by decide⟩ dL_acts_621 (by decide) (fun c_94 => ?_) (fun c_94 => ?_)
                          · -- y1 ≠ 14
                            refine lv_aload_n hx hb dL_acts_645 rfl (lv_at hl 6 rfl) ?_
                            refine lv_aload_n hx hb dL_acts_646 rfl (lv_at hl 9 rfl) ?_
                            refine lv_iload hx hb dL_acts_647 (lv_at hl 4 rfl) ?_
                            refine q_callS2 (As := [.ref (ad 1 0), .ref (ad 3 3), .int (i32 (y59))]) (rest := []) hx hb hml hl.1 hown hK hZ hP hS (c_L_isPiece l g base ad S y59 hfl hI c_61 hV.2.2.2 ⟨by omega, by omega⟩) t_329 (q_callB hK 328 14 330 t_328 t_14 t_330 f_yL_isPiece ⟨Nat.le_of_ble_eq_true rfl, Nat.le_of_ble_eq_true rfl⟩) rfl rfl (Nat.le_of_ble_eq_true rfl) dL_acts_649 (c2 := 1468) (s2 := 8808) ⟨by first | rfl | (dsimp only; omega), by first | rfl | (dsimp only; omega)⟩ ⟨by show 1468 ≤ 2970; omega, by show 8808 ≤ 18559; omega⟩ (q_an (fun H locs hP hS => ?_))
                            refine q_if_eq (tgt := 673) hx hb ⟨by decide, by decide⟩ dL_acts_652 (by decide) (fun h => by omega) (fun _ => ?_)
                            refine lv_aload_n hx hb dL_acts_655 rfl (lv_at hl 6 rfl) ?_
                            refine q_callV2 (k := 1) (As := []) (rest := []) hx hb hml hl.1 hown hK hZ hP hS hI.a.1 rfl rfl rfl (c_X3_balances l g base ad S  hI.wc) t_91 t_92 (q_callB hK 90 15 93 t_90 t_15 t_93 f_yX3_balances ⟨Nat.le_of_ble_eq_true rfl, Nat.le_of_ble_eq_true rfl⟩) rfl rfl (Nat.le_of_ble_eq_true rfl) dL_acts_656 (c2 := 1468) (s2 := 8808) ⟨by first | rfl | (dsimp only; omega), by first | rfl | (dsimp only; omega)⟩ ⟨by show 1468 ≤ 2970; omega, by show 8808 ≤ 18559; omega⟩ (q_an (fun H locs hP hS => ?_))
                            generalize eS95 : blS S 20 = S95 at hP
                            have rS95 : ∀ (a1 b1 : Nat) (i1 : Int), rng (S95 a1 b1 i1) := fun a1 b1 i1 => hP.rg a1 b1 i1
                            have ivS95 : IV S95 := by rw [← eS95]; exact IV_bl hI
                            have h3S95 : ∀ (b1 : Nat) (i1 : Int), S95 3 b1 i1 = S 3 b1 i1 := by rw [← eS95]; exact fun b i => blS_o (by omega)
                            have lv9 : LV S95 := by rw [← eS95]; exact LV_k hV hI.k.1.2 (fun b i => blS_o (by omega)) (blS_o (by omega)) (blS_o (by omega)) (blS_o (by omega)) (fun j => blS_o (by omega)) (fun a h1 h2 => ⟨blS_o (by omega), blS_o (by omega)⟩)
                            refine q_if_eqb (tgt := 673) hx hb dL_acts_659 (by decide) (fun c_96 => (by exfalso; exact c_96 hI.b)) (fun c_96 => ?_)
                            refine lv_aload_n hx hb dL_acts_662 rfl (lv_at hl 6 rfl) ?_
                            have gdb := gd_b ivS95
                            refine q_callV2 (k := 1) (As := []) (rest := []) hx hb hml hl.1 hown hK hZ hP hS ivS95.a.1 rfl rfl rfl (c_X3_gold l g base ad S95  ivS95.wc) t_707 t_708 (q_callB hK 706 15 709 t_706 t_15 t_709 f_yX3_gold ⟨Nat.le_of_ble_eq_true rfl, Nat.le_of_ble_eq_true rfl⟩) rfl rfl (Nat.le_of_ble_eq_true rfl) dL_acts_663 (c2 := 1468) (s2 := 8808) ⟨by first | rfl | (dsimp only; omega), by first | rfl | (dsimp only; omega)⟩ ⟨by show 1468 ≤ 2970; omega, by show 8808 ≤ 18559; omega⟩ (q_an (fun H locs hP hS => ?_))
                            refine q_if_lt (tgt := 673) hx hb ⟨by omega, by omega⟩ dL_acts_666 (by decide) (fun c_97 => (by exfalso; omega)) (fun c_97 => ?_)
                            refine lv_iconst (v := i32 (1)) hx hb dL_acts_669 rfl ?_
                            refine lv_goto (tgt := 674) hx hb dL_acts_670 (by decide) ?_
                            subst hQm
                            exact q_zret hx hb hr hlocks hP hS (v := 1) (by decide) (by exact ⟨⟨rfl, (fun _ _ _ => rfl)⟩, ivS95, lv9⟩) (by show 1468 ≤ 2970; omega) (by show 8808 ≤ 18559; omega) dL_acts_674
                          · -- y1 = 14
                            refine lv_aload_n hx hb dL_acts_624 rfl (lv_at hl 6 rfl) ?_
                            refine lv_aload hx hb dL_acts_625 (lv_at hl 10 rfl) ?_
                            refine lv_iload hx hb dL_acts_627 (lv_at hl 4 rfl) ?_
                            refine lv_iload hx hb dL_acts_629 (lv_at hl 11 rfl) ?_
                            refine lv_bipush (v := i32 (9)) hx hb dL_acts_631 (by decide) ?_
                            refine lv_ishr hx hb dL_acts_633 ?_
                            obtain ⟨z98, rz98, hz98⟩ := i32_of (i32 (x) >>> (i32 (9) &&& 31))
                            rw [hz98]
                            refine lv_iload hx hb dL_acts_634 (lv_at hl 12 rfl) ?_
                            refine q_callS2 (As := [.ref (ad 1 0), .ref (ad 3 4), .int (i32 (y59)), .int (i32 (z98)), .int (i32 (y))]) (rest := []) hx hb hml hl.1 hown hK hZ hP hS (c_L_wears l g base ad S y59 z98 y hfl hI hV c_61 ⟨by omega, by omega⟩ rz98 hrn2) t_688 (q_callB hK 687 14 689 t_687 t_14 t_689 f_yL_wears ⟨Nat.le_of_ble_eq_true rfl, Nat.le_of_ble_eq_true rfl⟩) rfl rfl (Nat.le_of_ble_eq_true rfl) dL_acts_636 (c2 := 16) (s2 := 96) ⟨by first | rfl | (dsimp only; omega), by first | rfl | (dsimp only; omega)⟩ ⟨by show 16 ≤ 2970; omega, by show 96 ≤ 18559; omega⟩ (fun rr ad' S' H locs hQ hP hS => ?_)
                            obtain ⟨⟨hr9, ek9⟩, hI9, hV9⟩ := hQ
                            subst hr9
                            obtain ⟨S99, hS99⟩ : ∃ s9 : St, s9 = S' := ⟨_, rfl⟩
                            rw [← hS99] at hI9 hV9 hP
                            obtain ⟨ad99, had99⟩ : ∃ a9 : Nat → Nat → Nat, a9 = ad' := ⟨_, rfl⟩
                            rw [← had99] at ek9 hP
                            have ek_ad99 : ∀ x q, x < 4 → ad99 x q = ad x q := fun x q h => (ek9 x q h)
                            have el_ad99 : ∀ x q, x < 4 → ad99 x q = ad x q := ek9
                            have hl : lv_has ls 13 [(12, .int (i32 (1))), (11, .int (i32 (0))), (10, .int (i32 (-1))), (9, .int (i32 (y63))), (8, .int (i32 (y59))), (7, .int (i32 (y1))), (0, .ref (ad99 1 0)), (1, .ref (ad99 3 1)), (2, .ref (ad99 3 2)), (3, .ref (ad99 3 3)), (4, .ref (ad99 3 4)), (5, .int (i32 (x))), (6, .int (i32 (y)))] := by
                              have t9 := hl
                              rw [← el_ad99 1 0 (by decide), ← el_ad99 3 1 (by decide), ← el_ad99 3 2 (by decide), ← el_ad99 3 3 (by decide), ← el_ad99 3 4 (by decide)] at t9
                              exact t9
                            skip
                            have ivS99 : IV S99 := hI9
                            have lvS99 : LV S99 := hV9
                            have rS99 : ∀ (a1 b1 : Nat) (i1 : Int), rng (S99 a1 b1 i1) := fun a1 b1 i1 => hP.rg a1 b1 i1
                            refine q_if_eq (tgt := 673) hx hb ⟨by decide, by decide⟩ dL_acts_639 (by decide) (fun h => by omega) (fun _ => ?_)
                            refine lv_goto (tgt := 669) hx hb dL_acts_642 (by decide) ?_
                            refine lv_iconst (v := i32 (1)) hx hb dL_acts_669 rfl ?_
                            refine lv_goto (tgt := 674) hx hb dL_acts_670 (by decide) ?_
                            subst hQm
                            exact q_zret hx hb hr hlocks hP hS (v := 1) (by decide) (by exact ⟨⟨rfl, ek_ad99⟩, ivS99, lvS99⟩) (by show 16 ≤ 2970; omega) (by show 96 ≤ 18559; omega) dL_acts_674
                        · -- y1 = 13
                          refine lv_aload_n hx hb dL_acts_603 rfl (lv_at hl 6 rfl) ?_
                          refine lv_iload hx hb dL_acts_604 (lv_at hl 4 rfl) ?_
                          refine lv_iload hx hb dL_acts_606 (lv_at hl 12 rfl) ?_
                          refine q_callS2 (As := [.ref (ad 1 0), .int (i32 (y59)), .int (i32 (y))]) (rest := []) hx hb hml hl.1 hown hK hZ hP hS (c_L_sews l g base ad S y59 y hfl hI hV c_61 ⟨by omega, by omega⟩ hrn2) t_673 (q_callB hK 672 14 674 t_672 t_14 t_674 f_yL_sews ⟨Nat.le_of_ble_eq_true rfl, Nat.le_of_ble_eq_true rfl⟩) rfl rfl (Nat.le_of_ble_eq_true rfl) dL_acts_608 (c2 := 22) (s2 := 132) ⟨by first | rfl | (dsimp only; omega), by first | rfl | (dsimp only; omega)⟩ ⟨by show 22 ≤ 2970; omega, by show 132 ≤ 18559; omega⟩ (fun rr ad' S' H locs hQ hP hS => ?_)
                          obtain ⟨⟨hr9, ek9⟩, hI9, hV9⟩ := hQ
                          subst hr9
                          obtain ⟨S100, hS100⟩ : ∃ s9 : St, s9 = S' := ⟨_, rfl⟩
                          rw [← hS100] at hI9 hV9 hP
                          obtain ⟨ad100, had100⟩ : ∃ a9 : Nat → Nat → Nat, a9 = ad' := ⟨_, rfl⟩
                          rw [← had100] at ek9 hP
                          have ek_ad100 : ∀ x q, x < 4 → ad100 x q = ad x q := fun x q h => (ek9 x q h)
                          have el_ad100 : ∀ x q, x < 4 → ad100 x q = ad x q := ek9
                          have hl : lv_has ls 13 [(12, .int (i32 (1))), (11, .int (i32 (0))), (10, .int (i32 (-1))), (9, .int (i32 (y63))), (8, .int (i32 (y59))), (7, .int (i32 (y1))), (0, .ref (ad100 1 0)), (1, .ref (ad100 3 1)), (2, .ref (ad100 3 2)), (3, .ref (ad100 3 3)), (4, .ref (ad100 3 4)), (5, .int (i32 (x))), (6, .int (i32 (y)))] := by
                            have t9 := hl
                            rw [← el_ad100 1 0 (by decide), ← el_ad100 3 1 (by decide), ← el_ad100 3 2 (by decide), ← el_ad100 3 3 (by decide), ← el_ad100 3 4 (by decide)] at t9
                            exact t9
                          skip
                          have ivS100 : IV S100 := hI9
                          have lvS100 : LV S100 := hV9
                          have rS100 : ∀ (a1 b1 : Nat) (i1 : Int), rng (S100 a1 b1 i1) := fun a1 b1 i1 => hP.rg a1 b1 i1
                          refine q_if_eq (tgt := 673) hx hb ⟨by decide, by decide⟩ dL_acts_611 (by decide) (fun h => by omega) (fun _ => ?_)
                          refine lv_goto (tgt := 669) hx hb dL_acts_614 (by decide) ?_
                          refine lv_iconst (v := i32 (1)) hx hb dL_acts_669 rfl ?_
                          refine lv_goto (tgt := 674) hx hb dL_acts_670 (by decide) ?_
                          subst hQm
                          exact q_zret hx hb hr hlocks hP hS (v := 1) (by decide) (by exact ⟨⟨rfl, ek_ad100⟩, ivS100, lvS100⟩) (by show 22 ≤ 2970; omega) (by show 132 ≤ 18559; omega) dL_acts_674
                      · -- y1 = 12
                        refine lv_aload_n hx hb dL_acts_580 rfl (lv_at hl 6 rfl) ?_
                        refine lv_aload_n hx hb dL_acts_581 rfl (lv_at hl 7 rfl) ?_
                        refine lv_aload_n hx hb dL_acts_582 rfl (lv_at hl 9 rfl) ?_
                        refine lv_iload hx hb dL_acts_583 (lv_at hl 4 rfl) ?_
                        refine lv_iload hx hb dL_acts_585 (lv_at hl 12 rfl) ?_
                        refine q_callS2 (As := [.ref (ad 1 0), .ref (ad 3 1), .ref (ad 3 3), .int (i32 (y59)), .int (i32 (y))]) (rest := []) hx hb hml hl.1 hown hK hZ hP hS (c_L_cuts l g base ad S y59 y hfl hI hV c_61 ⟨by omega, by omega⟩ hrn2) t_655 (q_callB hK 654 14 656 t_654 t_14 t_656 f_yL_cuts ⟨Nat.le_of_ble_eq_true rfl, Nat.le_of_ble_eq_true rfl⟩) rfl rfl (Nat.le_of_ble_eq_true rfl) dL_acts_587 (c2 := 2970) (s2 := 18559) ⟨by first | rfl | (dsimp only; omega), by first | rfl | (dsimp only; omega)⟩ ⟨by show 2970 ≤ 2970; omega, by show 18559 ≤ 18559; omega⟩ (fun rr ad' S' H locs hQ hP hS => ?_)
                        obtain ⟨⟨hr9, ek9⟩, hI9, hV9⟩ := hQ
                        subst hr9
                        obtain ⟨S101, hS101⟩ : ∃ s9 : St, s9 = S' := ⟨_, rfl⟩
                        rw [← hS101] at hI9 hV9 hP
                        obtain ⟨ad101, had101⟩ : ∃ a9 : Nat → Nat → Nat, a9 = ad' := ⟨_, rfl⟩
                        rw [← had101] at ek9 hP
                        have ek_ad101 : ∀ x q, x < 4 → ad101 x q = ad x q := fun x q h => (ek9 x q h)
                        have el_ad101 : ∀ x q, x < 4 → ad101 x q = ad x q := ek9
                        have hl : lv_has ls 13 [(12, .int (i32 (1))), (11, .int (i32 (0))), (10, .int (i32 (-1))), (9, .int (i32 (y63))), (8, .int (i32 (y59))), (7, .int (i32 (y1))), (0, .ref (ad101 1 0)), (1, .ref (ad101 3 1)), (2, .ref (ad101 3 2)), (3, .ref (ad101 3 3)), (4, .ref (ad101 3 4)), (5, .int (i32 (x))), (6, .int (i32 (y)))] := by
                          have t9 := hl
                          rw [← el_ad101 1 0 (by decide), ← el_ad101 3 1 (by decide), ← el_ad101 3 2 (by decide), ← el_ad101 3 3 (by decide), ← el_ad101 3 4 (by decide)] at t9
                          exact t9
                        skip
                        have ivS101 : IV S101 := hI9
                        have lvS101 : LV S101 := hV9
                        have rS101 : ∀ (a1 b1 : Nat) (i1 : Int), rng (S101 a1 b1 i1) := fun a1 b1 i1 => hP.rg a1 b1 i1
                        refine q_if_eq (tgt := 673) hx hb ⟨by decide, by decide⟩ dL_acts_590 (by decide) (fun h => by omega) (fun _ => ?_)
                        refine lv_goto (tgt := 669) hx hb dL_acts_593 (by decide) ?_
                        refine lv_iconst (v := i32 (1)) hx hb dL_acts_669 rfl ?_
                        refine lv_goto (tgt := 674) hx hb dL_acts_670 (by decide) ?_
                        subst hQm
                        exact q_zret hx hb hr hlocks hP hS (v := 1) (by decide) (by exact ⟨⟨rfl, ek_ad101⟩, ivS101, lvS101⟩) (by show 2970 ≤ 2970; omega) (by show 18559 ≤ 18559; omega) dL_acts_674
                · -- ¬ (peC S y59)
                  refine lv_aload_n hx hb dL_acts_414 rfl (lv_at hl 2 rfl) ?_
                  refine lv_iload hx hb dL_acts_415 (lv_at hl 0 rfl) ?_
                  refine lv_iconst (v := i32 (0)) hx hb dL_acts_417 rfl ?_
                  refine q_callH2 (As := [.ref (ad 1 0), .int (i32 (y59)), .int (i32 (0))]) (rest := []) hx hb hml hl.1 hown hK hZ hP hS (c_L_pieceIs l g base ad S y59 ((0 : Int)) hfl hI.wc ⟨by omega, by omega⟩ ⟨by decide, by decide⟩) t_266 t_14 t_268 t_267 f_yL_pieceIs ⟨Nat.le_of_ble_eq_true rfl, Nat.le_of_ble_eq_true rfl⟩ rfl rfl (Nat.le_of_ble_eq_true rfl) dL_acts_418 (c2 := 4) (s2 := 24) ⟨by first | rfl | (dsimp only; omega), by first | rfl | (dsimp only; omega)⟩ ⟨by show 4 ≤ 2970; omega, by show 24 ≤ 18559; omega⟩ (q_an (fun H locs hP hS => ?_))
                  refine q_nm (b := -1000001) (lv_1 c_61) ?_
                  refine q_ldc (z := -1000001) hx hb hown hK t_248 rfl dL_acts_421 ?_
                  refine q_icmp_ne (tgt := 452) hx hb ⟨by decide, by decide⟩ ⟨by decide, by decide⟩ dL_acts_423 (by decide) (fun c_102 => (by exfalso; omega)) (fun c_102 => ?_)
                  refine lv_aload_n hx hb dL_acts_426 rfl (lv_at hl 2 rfl) ?_
                  refine lv_iload hx hb dL_acts_427 (lv_at hl 0 rfl) ?_
                  refine q_callH2 (As := [.ref (ad 1 0), .int (i32 (y59))]) (rest := []) hx hb hml hl.1 hown hK hZ hP hS (c_L_wash l g base ad S y59 hfl hI.wc ⟨by omega, by omega⟩) t_630 t_14 t_632 t_631 f_yL_wash ⟨Nat.le_of_ble_eq_true rfl, Nat.le_of_ble_eq_true rfl⟩ rfl rfl (Nat.le_of_ble_eq_true rfl) dL_acts_429 (c2 := 6) (s2 := 36) ⟨by first | rfl | (dsimp only; omega), by first | rfl | (dsimp only; omega)⟩ ⟨by show 6 ≤ 2970; omega, by show 36 ≤ 18559; omega⟩ (fun rr ad' S' H locs hQ hP hS => ?_)
                  obtain ⟨⟨hr9, ek9⟩, hQ⟩ := hQ
                  have hc9_1 : ¬ (peC S y59) := c_61
                  have hs9 := (hQ.resolve_right (fun y9 => hc9_1 y9.1.1)).2
                  subst hr9
                  rw [ek9] at hP
                  rw [hs9] at hP
                  refine q_nm (lv_1 hc9_1) ?_
                  refine q_ldc (z := -1000001) hx hb hown hK t_248 rfl dL_acts_432 ?_
                  refine q_icmp_ne (tgt := 452) hx hb ⟨by decide, by decide⟩ ⟨by decide, by decide⟩ dL_acts_434 (by decide) (fun h => by first | exact absurd c_102 h | exact absurd h c_102 | omega) (fun _ => ?_)
                  refine lv_aload_n hx hb dL_acts_437 rfl (lv_at hl 2 rfl) ?_
                  refine lv_iload hx hb dL_acts_438 (lv_at hl 0 rfl) ?_
                  refine q_callH2 (As := [.ref (ad 1 0), .int (i32 (y59))]) (rest := []) hx hb hml hl.1 hown hK hZ hP hS (c_L_isTrue l g base ad S y59 hfl hI.wc ⟨by omega, by omega⟩) t_516 t_14 t_518 t_517 f_yL_isTrue ⟨Nat.le_of_ble_eq_true rfl, Nat.le_of_ble_eq_true rfl⟩ rfl rfl (Nat.le_of_ble_eq_true rfl) dL_acts_440 (c2 := 7) (s2 := 42) ⟨by first | rfl | (dsimp only; omega), by first | rfl | (dsimp only; omega)⟩ ⟨by show 7 ≤ 2970; omega, by show 42 ≤ 18559; omega⟩ (q_an (fun H locs hP hS => ?_))
                  refine q_nm (b := -1000001) (lv_1 c_61) ?_
                  refine q_ldc (z := -1000001) hx hb hown hK t_248 rfl dL_acts_443 ?_
                  refine q_icmp_ne (tgt := 452) hx hb ⟨by decide, by decide⟩ ⟨by decide, by decide⟩ dL_acts_445 (by decide) (fun h => by first | exact absurd c_102 h | exact absurd h c_102 | omega) (fun _ => ?_)
                  refine lv_iconst (v := i32 (1)) hx hb dL_acts_448 rfl ?_
                  refine lv_goto (tgt := 453) hx hb dL_acts_449 (by decide) ?_
                  subst hQm
                  exact q_zret hx hb hr hlocks hP hS (v := 1) (by decide) (by exact ⟨⟨rfl, (fun _ _ _ => rfl)⟩, hI, hV⟩) (by show 7 ≤ 2970; omega) (by show 42 ≤ 18559; omega) dL_acts_453
              · -- y1 = 11
                refine lv_aload_n hx hb dL_acts_389 rfl (lv_at hl 2 rfl) ?_
                refine lv_aload_n hx hb dL_acts_390 rfl (lv_at hl 5 rfl) ?_
                refine lv_iload hx hb dL_acts_391 (lv_at hl 0 rfl) ?_
                refine lv_iload hx hb dL_acts_393 (lv_at hl 8 rfl) ?_
                refine lv_aload_n hx hb dL_acts_395 rfl (lv_at hl 3 rfl) ?_
                refine lv_iconst (v := i32 (2)) hx hb dL_acts_396 rfl ?_
                refine p_iald (k := 3) (r := 1) (n := 4) hx hb hK hP hI.a.2.2 rfl rfl (by decide) (by decide) (by omega) (by omega) dL_acts_397 ?_
                refine q_callS2 (As := [.int (i32 (y)), .int (i32 (S 3 1 2))]) (rest := [.int (i32 (y59)), .ref (ad 3 3), .ref (ad 1 0)]) hx hb hml hl.1 hown hK hZ hP hS (c_L_low l g base ad S y (S 3 1 2) hrn2 (by omega)) t_122 (q_callB hK 121 14 123 t_121 t_14 t_123 f_yL_low ⟨Nat.le_of_ble_eq_true rfl, Nat.le_of_ble_eq_true rfl⟩) rfl rfl (Nat.le_of_ble_eq_true rfl) dL_acts_398 (c2 := 0) (s2 := 0) ⟨by first | rfl | (dsimp only; omega), by first | rfl | (dsimp only; omega)⟩ ⟨by show 0 ≤ 2970; omega, by show 0 ≤ 18559; omega⟩ (q_an (fun H locs hP hS => ?_))
                obtain ⟨y103, hy103⟩ : ∃ y99 : Int, loF y (S 3 1 2) = y99 := ⟨_, rfl⟩
                have by103 := lo_b y (show 1 ≤ (S 3 1 2) by omega)
                rw [hy103] at by103
                refine q_nm hy103 ?_
                refine q_callS2 (As := [.ref (ad 1 0), .ref (ad 3 3), .int (i32 (y59)), .int (i32 (y103))]) (rest := []) hx hb hml hl.1 hown hK hZ hP hS (c_L_joins l g base ad S y59 y103 hfl hI hV ⟨by omega, by omega⟩ ⟨by omega, by omega⟩) t_583 (q_callB hK 582 14 584 t_582 t_14 t_584 f_yL_joins ⟨Nat.le_of_ble_eq_true rfl, Nat.le_of_ble_eq_true rfl⟩) rfl rfl (Nat.le_of_ble_eq_true rfl) dL_acts_401 (c2 := 1498) (s2 := 8988) ⟨by first | rfl | (dsimp only; omega), by first | rfl | (dsimp only; omega)⟩ ⟨by show 1498 ≤ 2970; omega, by show 8988 ≤ 18559; omega⟩ (fun rr ad' S' H locs hQ hP hS => ?_)
                obtain ⟨⟨hr9, ek9⟩, hI9, hV9⟩ := hQ
                subst hr9
                obtain ⟨S104, hS104⟩ : ∃ s9 : St, s9 = S' := ⟨_, rfl⟩
                rw [← hS104] at hI9 hV9 hP
                obtain ⟨ad104, had104⟩ : ∃ a9 : Nat → Nat → Nat, a9 = ad' := ⟨_, rfl⟩
                rw [← had104] at ek9 hP
                have ek_ad104 : ∀ x q, x < 4 → ad104 x q = ad x q := fun x q h => (ek9 x q h)
                have el_ad104 : ∀ x q, x < 4 → ad104 x q = ad x q := ek9
                have hl : lv_has ls 13 [(8, .int (i32 (y59))), (7, .int (i32 (y1))), (0, .ref (ad104 1 0)), (1, .ref (ad104 3 1)), (2, .ref (ad104 3 2)), (3, .ref (ad104 3 3)), (4, .ref (ad104 3 4)), (5, .int (i32 (x))), (6, .int (i32 (y)))] := by
                  have t9 := hl
                  rw [← el_ad104 1 0 (by decide), ← el_ad104 3 1 (by decide), ← el_ad104 3 2 (by decide), ← el_ad104 3 3 (by decide), ← el_ad104 3 4 (by decide)] at t9
                  exact t9
                skip
                have ivS104 : IV S104 := hI9
                have lvS104 : LV S104 := hV9
                have rS104 : ∀ (a1 b1 : Nat) (i1 : Int), rng (S104 a1 b1 i1) := fun a1 b1 i1 => hP.rg a1 b1 i1
                subst hQm
                exact q_zret hx hb hr hlocks hP hS (v := 1) (by decide) (by exact ⟨⟨rfl, ek_ad104⟩, ivS104, lvS104⟩) (by show 1498 ≤ 2970; omega) (by show 8988 ≤ 18559; omega) dL_acts_404
            · -- y1 < 11
              refine lv_aload_n hx hb dL_acts_323 rfl (lv_at hl 1 rfl) ?_
              refine lv_aload_n hx hb dL_acts_324 rfl (lv_at hl 2 rfl) ?_
              refine lv_iload hx hb dL_acts_325 (lv_at hl 6 rfl) ?_
              refine lv_iconst (v := i32 (4)) hx hb dL_acts_327 rfl ?_
              refine lv_ishr hx hb dL_acts_328 ?_
              obtain ⟨z105, rz105, hz105⟩ := i32_of (i32 (x) >>> (i32 (4) &&& 31))
              rw [hz105]
              refine lv_iload hx hb dL_acts_329 (lv_at hl 7 rfl) ?_
              refine q_callS2 (As := [.ref (ad 1 0), .ref (ad 3 1), .int (i32 (z105)), .int (i32 (y))]) (rest := []) hx hb hml hl.1 hown hK hZ hP hS (c_L_weaves l g base ad S z105 y hfl hI hV (by omega) rz105 hrn2) t_532 (q_callB hK 531 14 533 t_531 t_14 t_533 f_yL_weaves ⟨Nat.le_of_ble_eq_true rfl, Nat.le_of_ble_eq_true rfl⟩) rfl rfl (Nat.le_of_ble_eq_true rfl) dL_acts_331 (c2 := 8) (s2 := 48) ⟨by first | rfl | (dsimp only; omega), by first | rfl | (dsimp only; omega)⟩ ⟨by show 8 ≤ 2970; omega, by show 48 ≤ 18559; omega⟩ (fun rr ad' S' H locs hQ hP hS => ?_)
              obtain ⟨⟨⟨hr9, ek9⟩, hI9, hV9⟩, hW9⟩ := hQ
              subst hr9
              obtain ⟨S106, hS106⟩ : ∃ s9 : St, s9 = S' := ⟨_, rfl⟩
              rw [← hS106] at hI9 hV9 hP hW9
              obtain ⟨ad106, had106⟩ : ∃ a9 : Nat → Nat → Nat, a9 = ad' := ⟨_, rfl⟩
              rw [← had106] at ek9 hP
              have ek_ad106 : ∀ x q, x < 4 → ad106 x q = ad x q := fun x q h => (ek9 x q h)
              have el_ad106 : ∀ x q, x < 4 → ad106 x q = ad x q := ek9
              have hl : lv_has ls 13 [(7, .int (i32 (y1))), (0, .ref (ad106 1 0)), (1, .ref (ad106 3 1)), (2, .ref (ad106 3 2)), (3, .ref (ad106 3 3)), (4, .ref (ad106 3 4)), (5, .int (i32 (x))), (6, .int (i32 (y)))] := by
                have t9 := hl
                rw [← el_ad106 1 0 (by decide), ← el_ad106 3 1 (by decide), ← el_ad106 3 2 (by decide), ← el_ad106 3 3 (by decide), ← el_ad106 3 4 (by decide)] at t9
                exact t9
              skip
              have ivS106 : IV S106 := hI9
              have lvS106 : LV S106 := hV9
              have hwS106 := hW9
              have rS106 : ∀ (a1 b1 : Nat) (i1 : Int), rng (S106 a1 b1 i1) := fun a1 b1 i1 => hP.rg a1 b1 i1
              refine q_if_eq (tgt := 368) hx hb ⟨by decide, by decide⟩ dL_acts_334 (by decide) (fun h => by omega) (fun _ => ?_)
              refine lv_iload hx hb dL_acts_337 (lv_at hl 7 rfl) ?_
              refine lv_iconst (v := i32 (3)) hx hb dL_acts_339 rfl ?_
              refine lv_ishr hx hb dL_acts_340 ?_
              obtain ⟨z107, rz107, hz107⟩ := i32_of (i32 (y) >>> (i32 (3) &&& 31))
              rw [hz107]
              refine lv_iconst (v := i32 (3)) hx hb dL_acts_341 rfl ?_
              refine q_callS2 (As := [.int (i32 (z107)), .int (i32 (3))]) (rest := []) hx hb hml hl.1 hown hK hZ hP hS (c_L_low l g base ad106 S106 z107 ((3 : Int)) rz107 (by omega)) t_122 (q_callB hK 121 14 123 t_121 t_14 t_123 f_yL_low ⟨Nat.le_of_ble_eq_true rfl, Nat.le_of_ble_eq_true rfl⟩) rfl rfl (Nat.le_of_ble_eq_true rfl) dL_acts_342 (c2 := 8) (s2 := 48) ⟨by first | rfl | (dsimp only; omega), by first | rfl | (dsimp only; omega)⟩ ⟨by show 8 ≤ 2970; omega, by show 48 ≤ 18559; omega⟩ (q_an (fun H locs hP hS => ?_))
              obtain ⟨y108, hy108⟩ : ∃ y99 : Int, loF z107 ((3 : Int)) = y99 := ⟨_, rfl⟩
              have by108 := lo_b z107 (show 1 ≤ ((3 : Int)) by omega)
              rw [hy108] at by108
              refine q_nm hy108 ?_
              refine q_if_gt (tgt := 364) hx hb ⟨by omega, by omega⟩ dL_acts_345 (by decide) (fun c_109 => ?_) (fun c_109 => ?_)
              · -- 0 < y108
                refine lv_iconst (v := i32 (1)) hx hb dL_acts_364 rfl ?_
                refine lv_goto (tgt := 369) hx hb dL_acts_365 (by decide) ?_
                subst hQm
                exact q_zret hx hb hr hlocks hP hS (v := 1) (by decide) (by exact ⟨⟨rfl, ek_ad106⟩, ivS106, lvS106⟩) (by show 8 ≤ 2970; omega) (by show 48 ≤ 18559; omega) dL_acts_369
              · -- y108 ≤ 0
                refine lv_aload_n hx hb dL_acts_348 rfl (lv_at hl 1 rfl) ?_
                refine lv_aload_n hx hb dL_acts_349 rfl (lv_at hl 2 rfl) ?_
                refine lv_iload hx hb dL_acts_350 (lv_at hl 6 rfl) ?_
                refine lv_iconst (v := i32 (4)) hx hb dL_acts_352 rfl ?_
                refine lv_ishr hx hb dL_acts_353 ?_
                obtain ⟨z110, rz110, hz110⟩ := i32_of (i32 (x) >>> (i32 (4) &&& 31))
                rw [hz110]
                refine lv_iload hx hb dL_acts_354 (lv_at hl 7 rfl) ?_
                refine lv_iconst (v := i32 (1)) hx hb dL_acts_356 rfl ?_
                refine q_iadd hx hb dL_acts_357 ?_
                obtain ⟨yw, ryw, hyw⟩ := i32_any (y + 1)
                rw [hyw]
                refine q_callS2 (As := [.ref (ad106 1 0), .ref (ad106 3 1), .int (i32 (z110)), .int (i32 (yw))]) (rest := []) hx hb hml hl.1 hown hK hZ hP hS (c_L_weaves l g base ad106 S106 z110 yw hfl ivS106 lvS106 (by rw [hwS106]; omega) rz110 ryw) t_532 (q_callB hK 531 14 533 t_531 t_14 t_533 f_yL_weaves ⟨Nat.le_of_ble_eq_true rfl, Nat.le_of_ble_eq_true rfl⟩) rfl rfl (Nat.le_of_ble_eq_true rfl) dL_acts_358 (c2 := 16) (s2 := 96) ⟨by first | rfl | (dsimp only; omega), by first | rfl | (dsimp only; omega)⟩ ⟨by show 16 ≤ 2970; omega, by show 96 ≤ 18559; omega⟩ (fun rr ad' S' H locs hQ hP hS => ?_)
                obtain ⟨⟨⟨hr9, ek9⟩, hI9, hV9⟩, hW9⟩ := hQ
                subst hr9
                obtain ⟨S111, hS111⟩ : ∃ s9 : St, s9 = S' := ⟨_, rfl⟩
                rw [← hS111] at hI9 hV9 hP hW9
                obtain ⟨ad111, had111⟩ : ∃ a9 : Nat → Nat → Nat, a9 = ad' := ⟨_, rfl⟩
                rw [← had111] at ek9 hP
                have ek_ad111 : ∀ x q, x < 4 → ad111 x q = ad x q := fun x q h => (ek9 x q h).trans (ek_ad106 x q h)
                have el_ad111 : ∀ x q, x < 4 → ad111 x q = ad106 x q := ek9
                have hl : lv_has ls 13 [(7, .int (i32 (y1))), (0, .ref (ad111 1 0)), (1, .ref (ad111 3 1)), (2, .ref (ad111 3 2)), (3, .ref (ad111 3 3)), (4, .ref (ad111 3 4)), (5, .int (i32 (x))), (6, .int (i32 (y)))] := by
                  have t9 := hl
                  rw [← el_ad111 1 0 (by decide), ← el_ad111 3 1 (by decide), ← el_ad111 3 2 (by decide), ← el_ad111 3 3 (by decide), ← el_ad111 3 4 (by decide)] at t9
                  exact t9
                skip
                have ivS111 : IV S111 := hI9
                have lvS111 : LV S111 := hV9
                have hwS111 := hW9
                have rS111 : ∀ (a1 b1 : Nat) (i1 : Int), rng (S111 a1 b1 i1) := fun a1 b1 i1 => hP.rg a1 b1 i1
                refine q_if_eq (tgt := 368) hx hb ⟨by decide, by decide⟩ dL_acts_361 (by decide) (fun h => by omega) (fun _ => ?_)
                refine lv_iconst (v := i32 (1)) hx hb dL_acts_364 rfl ?_
                refine lv_goto (tgt := 369) hx hb dL_acts_365 (by decide) ?_
                subst hQm
                exact q_zret hx hb hr hlocks hP hS (v := 1) (by decide) (by exact ⟨⟨rfl, ek_ad111⟩, ivS111, lvS111⟩) (by show 16 ≤ 2970; omega) (by show 96 ≤ 18559; omega) dL_acts_369
          · -- (S 3 1 2) = 0
            refine lv_iload hx hb dL_acts_143 (lv_at hl 6 rfl) ?_
            refine lv_iconst (v := i32 (4)) hx hb dL_acts_145 rfl ?_
            refine lv_ishr hx hb dL_acts_146 ?_
            obtain ⟨z112, rz112, hz112⟩ := i32_of (i32 (x) >>> (i32 (4) &&& 31))
            rw [hz112]
            refine lv_aload_n hx hb dL_acts_147 rfl (lv_at hl 2 rfl) ?_
            refine lv_iconst (v := i32 (0)) hx hb dL_acts_148 rfl ?_
            refine p_iald (k := 3) (r := 1) (n := 4) hx hb hK hP hI.a.2.2 rfl rfl (by decide) (by decide) (by omega) (by omega) dL_acts_149 ?_
            refine q_callS2 (As := [.int (i32 (z112)), .int (i32 (S 3 1 0))]) (rest := []) hx hb hml hl.1 hown hK hZ hP hS (c_L_low l g base ad S z112 (S 3 1 0) rz112 (by omega)) t_122 (q_callB hK 121 14 123 t_121 t_14 t_123 f_yL_low ⟨Nat.le_of_ble_eq_true rfl, Nat.le_of_ble_eq_true rfl⟩) rfl rfl (Nat.le_of_ble_eq_true rfl) dL_acts_150 (c2 := 0) (s2 := 0) ⟨by first | rfl | (dsimp only; omega), by first | rfl | (dsimp only; omega)⟩ ⟨by show 0 ≤ 2970; omega, by show 0 ≤ 18559; omega⟩ (q_an (fun H locs hP hS => ?_))
            obtain ⟨y113, hy113⟩ : ∃ y99 : Int, loF z112 (S 3 1 0) = y99 := ⟨_, rfl⟩
            have by113 := lo_b z112 (show 1 ≤ (S 3 1 0) by omega)
            rw [hy113] at by113
            refine q_nm hy113 ?_
            refine lv_istore (lv' := [(8, .int (i32 (y113))), (7, .int (i32 (y1))), (0, .ref (ad 1 0)), (1, .ref (ad 3 1)), (2, .ref (ad 3 2)), (3, .ref (ad 3 3)), (4, .ref (ad 3 4)), (5, .int (i32 (x))), (6, .int (i32 (y)))]) hx hb dL_acts_153 hl (by decide) rfl (fun ls hl => ?_)
            refine lv_iconst (v := i32 (1)) hx hb dL_acts_155 rfl ?_
            refine lv_iload hx hb dL_acts_156 (lv_at hl 8 rfl) ?_
            refine lv_iconst (v := i32 (4)) hx hb dL_acts_158 rfl ?_
            refine q_callS2 (As := [.int (i32 (y)), .int (i32 (4))]) (rest := [.int (i32 (1))]) hx hb hml hl.1 hown hK hZ hP hS (c_L_low l g base ad S y ((4 : Int)) hrn2 (by omega)) t_122 (q_callB hK 121 14 123 t_121 t_14 t_123 f_yL_low ⟨Nat.le_of_ble_eq_true rfl, Nat.le_of_ble_eq_true rfl⟩) rfl rfl (Nat.le_of_ble_eq_true rfl) dL_acts_159 (c2 := 0) (s2 := 0) ⟨by first | rfl | (dsimp only; omega), by first | rfl | (dsimp only; omega)⟩ ⟨by show 0 ≤ 2970; omega, by show 0 ≤ 18559; omega⟩ (q_an (fun H locs hP hS => ?_))
            obtain ⟨y114, hy114⟩ : ∃ y99 : Int, loF y ((4 : Int)) = y99 := ⟨_, rfl⟩
            have by114 := lo_b y (show 1 ≤ ((4 : Int)) by omega)
            rw [hy114] at by114
            refine q_nm hy114 ?_
            refine q_iadd hx hb dL_acts_162 ?_
            refine lv_istore (lv' := [(9, .int (i32 (1 + y114))), (8, .int (i32 (y113))), (7, .int (i32 (y1))), (0, .ref (ad 1 0)), (1, .ref (ad 3 1)), (2, .ref (ad 3 2)), (3, .ref (ad 3 3)), (4, .ref (ad 3 4)), (5, .int (i32 (x))), (6, .int (i32 (y)))]) hx hb dL_acts_163 hl (by decide) rfl (fun ls hl => ?_)
            by_cases h_B : 1 ≤ 1 + y114 ∧ 1 + y114 ≤ 4 ∧ 1 + y114 ≤ S (4 + Int.toNat y113) 0 0
            · skip
              by_cases h_C : 1 ≤ S (4 + Int.toNat y113) 0 1 ∧ S 1 0 6 < 20
              · skip
                obtain ⟨hd1, hd2, hd3⟩ := vd y113 (by omega) (by omega)
                obtain ⟨⟨-, hcw1, hcw2⟩, -⟩ := hI.k.2.2 y113 (by omega) (by omega)
                refine lv_aload_n hx hb dL_acts_165 rfl (lv_at hl 3 rfl) ?_
                refine lv_iload hx hb dL_acts_166 (lv_at hl 1 rfl) ?_
                refine lv_iload hx hb dL_acts_168 (lv_at hl 0 rfl) ?_
                refine lv_iload hx hb dL_acts_170 (lv_at hl 9 rfl) ?_
                refine lv_iconst (v := i32 (2)) hx hb dL_acts_172 rfl ?_
                refine lv_ishr hx hb dL_acts_173 ?_
                obtain ⟨z115, rz115, hz115⟩ := i32_of (i32 (y) >>> (i32 (2) &&& 31))
                rw [hz115]
                refine lv_iconst (v := i32 (2)) hx hb dL_acts_174 rfl ?_
                refine q_callS2 (As := [.int (i32 (z115)), .int (i32 (2))]) (rest := [.int (i32 (1 + y114)), .int (i32 (y113)), .ref (ad 1 0)]) hx hb hml hl.1 hown hK hZ hP hS (c_L_low l g base ad S z115 ((2 : Int)) rz115 (by omega)) t_122 (q_callB hK 121 14 123 t_121 t_14 t_123 f_yL_low ⟨Nat.le_of_ble_eq_true rfl, Nat.le_of_ble_eq_true rfl⟩) rfl rfl (Nat.le_of_ble_eq_true rfl) dL_acts_175 (c2 := 0) (s2 := 0) ⟨by first | rfl | (dsimp only; omega), by first | rfl | (dsimp only; omega)⟩ ⟨by show 0 ≤ 2970; omega, by show 0 ≤ 18559; omega⟩ (q_an (fun H locs hP hS => ?_))
                obtain ⟨y116, hy116⟩ : ∃ y99 : Int, loF z115 ((2 : Int)) = y99 := ⟨_, rfl⟩
                have by116 := lo_b z115 (show 1 ≤ ((2 : Int)) by omega)
                rw [hy116] at by116
                refine q_nm hy116 ?_
                refine q_if_ne (tgt := 185) hx hb ⟨by omega, by omega⟩ dL_acts_178 (by decide) (fun c_117 => ?_) (fun c_117 => ?_)
                · -- y116 ≠ 0
                  refine lv_iconst (v := i32 (0)) hx hb dL_acts_185 rfl ?_
                  have w9 := IV_loom (mir := False) hI (hI.ce.mpr (show 0 ≤ y113 ∧ y113 < S 1 0 3 by omega)) h_B h_C
                  refine W.eq (g2 := F0 m 186 ls (Value.int (i32 (b2 (False))) :: Value.int (i32 (1 + y114)) :: Value.int (i32 (y113)) :: Value.ref (ad 1 0) :: [])) (by simp only [b2_t trivial, b2_f not_false] <;> rfl) ?_
                  refine q_callH2 (As := [.ref (ad 1 0), .int (i32 (y113)), .int (i32 (1 + y114)), .int (i32 (b2 (False)))]) (rest := []) hx hb hml hl.1 hown hK hZ hP hS (c_L_loom l g base ad S y113 (1 + y114) False hfl hI.wc ⟨by omega, by omega⟩ ⟨by omega, by omega⟩ hI.hcf hI.hpf) t_442 t_14 t_444 t_443 f_yL_loom ⟨Nat.le_of_ble_eq_true rfl, Nat.le_of_ble_eq_true rfl⟩ rfl rfl (Nat.le_of_ble_eq_true rfl) dL_acts_186 (c2 := 9) (s2 := 793) ⟨by first | rfl | (dsimp only; omega), by first | rfl | (dsimp only; omega)⟩ ⟨by show 9 ≤ 2970; omega, by show 793 ≤ 18559; omega⟩ (fun rr ad' S' H locs hQ hP hS => ?_)
                  have hc9 : (ceC S y113) ∧ (1 ≤ (1 + y114) ∧ (1 + y114) ≤ 4 ∧ (1 + y114) ≤ S (4 + y113.toNat) 0 0) ∧ (1 ≤ S (4 + y113.toNat) 0 1 ∧ S 1 0 6 < 20) := ⟨hI.ce.mpr (by omega), h_B, h_C⟩
                  obtain ⟨⟨hr9, ek9⟩, hQ⟩ := hQ
                  have hs9 := (hQ.resolve_left (fun y9 => y9.1 hc9)).2
                  subst hr9
                  rw [hs9] at hP
                  refine q_nm (b := S 1 0 6) ((lv_0 hc9.1 hc9.2.1 hc9.2.2).trans (rfl)) ?_
                  obtain ⟨ad118, had118⟩ : ∃ a9 : Nat → Nat → Nat, a9 = ad' := ⟨_, rfl⟩
                  rw [← had118] at ek9 hP
                  have ek_ad118 : ∀ x q, x < 4 → ad118 x q = ad x q := fun x q h => (ek9 x q h)
                  have el_ad118 : ∀ x q, x < 4 → ad118 x q = ad x q := ek9
                  have hl : lv_has ls 13 [(9, .int (i32 (1 + y114))), (8, .int (i32 (y113))), (7, .int (i32 (y1))), (0, .ref (ad118 1 0)), (1, .ref (ad118 3 1)), (2, .ref (ad118 3 2)), (3, .ref (ad118 3 3)), (4, .ref (ad118 3 4)), (5, .int (i32 (x))), (6, .int (i32 (y)))] := by
                    have t9 := hl
                    rw [← el_ad118 1 0 (by decide), ← el_ad118 3 1 (by decide), ← el_ad118 3 2 (by decide), ← el_ad118 3 3 (by decide), ← el_ad118 3 4 (by decide)] at t9
                    exact t9
                  skip
                  generalize eS119 : lmS S y113 (1 + y114) False = S119 at hP
                  have rS119 : ∀ (a1 b1 : Nat) (i1 : Int), rng (S119 a1 b1 i1) := fun a1 b1 i1 => hP.rg a1 b1 i1
                  have ivS119 : IV S119 := by rw [← eS119]; exact w9.1
                  have h3S119 : ∀ (b1 : Nat) (i1 : Int), S119 3 b1 i1 = S 3 b1 i1 := by rw [← eS119]; exact fun b i => w9.2.1.2.2 3 b i (by omega) (by omega)
                  rw [eS119] at w9
                  obtain ⟨-, ⟨g6, g7, fr9⟩, gtr, gln⟩ := w9
                  refine lv_istore (lv' := [(10, .int (i32 (S 1 0 6))), (9, .int (i32 (1 + y114))), (8, .int (i32 (y113))), (7, .int (i32 (y1))), (0, .ref (ad118 1 0)), (1, .ref (ad118 3 1)), (2, .ref (ad118 3 2)), (3, .ref (ad118 3 3)), (4, .ref (ad118 3 4)), (5, .int (i32 (x))), (6, .int (i32 (y)))]) hx hb dL_acts_189 hl (by decide) rfl (fun ls hl => ?_)
                  refine lv_iload hx hb dL_acts_191 (lv_at hl 1 rfl) ?_
                  refine lv_aload_n hx hb dL_acts_193 rfl (lv_at hl 6 rfl) ?_
                  refine lv_iconst (v := i32 (2)) hx hb dL_acts_194 rfl ?_
                  refine lv_iload hx hb dL_acts_195 (lv_at hl 2 rfl) ?_
                  refine q_imul hx hb dL_acts_197 ?_
                  refine p_iald (k := 3) (r := 2) (n := 10) hx hb hK hP ivS119.a.2.2 rfl rfl (by decide) (by decide) (by omega) (by omega) dL_acts_198 ?_
                  refine q_nm (show S119 3 2 (2 * y113) = S 3 2 (2 * y113) from by rw [h3S119]) ?_
                  refine q_icmp_le (tgt := 215) hx hb ⟨by omega, by omega⟩ (rS _ _ _) dL_acts_199 (by decide) (fun c_120 => ?_) (fun c_120 => (by exfalso; omega))
                  refine lv_aload_n hx hb dL_acts_215 rfl (lv_at hl 6 rfl) ?_
                  refine lv_iconst (v := i32 (2)) hx hb dL_acts_216 rfl ?_
                  refine lv_iload hx hb dL_acts_217 (lv_at hl 2 rfl) ?_
                  refine q_imul hx hb dL_acts_219 ?_
                  refine lv_iconst (v := i32 (1)) hx hb dL_acts_220 rfl ?_
                  refine q_iadd hx hb dL_acts_221 ?_
                  refine p_iald (k := 3) (r := 2) (n := 10) hx hb hK hP ivS119.a.2.2 rfl rfl (by decide) (by decide) (by omega) (by omega) dL_acts_222 ?_
                  refine q_nm (show S119 3 2 ((2 * y113) + 1) = S 3 2 ((2 * y113) + 1) from by rw [h3S119]) ?_
                  refine q_if_eq (tgt := 234) hx hb (rS _ _ _) dL_acts_223 (by decide) (fun c_121 => (by exfalso; omega)) (fun c_121 => ?_)
                  refine lv_aload_n hx hb dL_acts_226 rfl (lv_at hl 5 rfl) ?_
                  refine lv_iconst (v := i32 (2)) hx hb dL_acts_227 rfl ?_
                  refine p_iald (k := 3) (r := 1) (n := 4) hx hb hK hP ivS119.a.2.2 rfl rfl (by decide) (by decide) (by omega) (by omega) dL_acts_228 ?_
                  refine q_nm (show S119 3 1 2 = S 3 1 2 from by rw [h3S119]) ?_
                  refine lv_bipush (v := i32 (20)) hx hb dL_acts_229 (by decide) ?_
                  refine q_icmp_ne (tgt := 247) hx hb (rS _ _ _) ⟨by decide, by decide⟩ dL_acts_231 (by decide) (fun c_122 => ?_) (fun c_122 => (by exfalso; omega))
                  refine lv_aload_n hx hb dL_acts_247 rfl (lv_at hl 5 rfl) ?_
                  refine lv_iconst (v := i32 (2)) hx hb dL_acts_248 rfl ?_
                  refine lv_dup2_11 hx hb dL_acts_249 rfl rfl ?_
                  refine p_iald (k := 3) (r := 1) (n := 4) hx hb hK hP ivS119.a.2.2 rfl rfl (by decide) (by decide) (by omega) (by omega) dL_acts_250 ?_
                  refine q_nm (show S119 3 1 2 = S 3 1 2 from by rw [h3S119]) ?_
                  refine lv_iconst (v := i32 (1)) hx hb dL_acts_251 rfl ?_
                  refine q_iadd hx hb dL_acts_252 ?_
                  refine p_iast (k := 3) (r := 1) (n := 4) hx hb hK hP hS ivS119.a.2.2 rfl rfl (by decide) (by decide) (by omega) (by omega) ⟨by omega, by omega⟩ dL_acts_253 (fun H locs hP hS => ?_)
                  generalize eS123 : st S119 3 1 2 ((S 3 1 2) + 1) = S123 at hP
                  have qS123 : ∀ (a1 b1 : Nat) (i1 : Int), S123 a1 b1 i1 = if a1 = 3 ∧ b1 = 1 ∧ i1 = 2 then (S 3 1 2) + 1 else S119 a1 b1 i1 := fun a1 b1 i1 => by rw [← eS123]; exact st_at _ _ _ _ _ _ _ _
                  have rS123 : ∀ (a1 b1 : Nat) (i1 : Int), rng (S123 a1 b1 i1) := fun a1 b1 i1 => hP.rg a1 b1 i1
                  have aS123_1 : S123 1 0 (-1) = 1 := by rw [qS123, if_neg (by omega)]; exact ivS119.a.1
                  have aS123_2 : S123 2 0 (-1) = 1 := by rw [qS123, if_neg (by omega)]; exact ivS119.a.2.1
                  have aS123_3 : S123 3 0 (-1) = 1 := by rw [qS123, if_neg (by omega)]; exact ivS119.a.2.2
                  have ivS123 : IV S123 := by rw [← eS123]; exact IV_3 ivS119 (by decide)
                  have en : ∀ a : Nat, a ≠ 3 → S123 a = S119 a := fun a h => fe (fun b i => by rw [qS123, if_neg (by omega)])
                  have kN2 : peC S123 (S 1 0 6) := ⟨hp20.1, by omega, by rw [en 1 (by decide)]; exact g7⟩
                  obtain ⟨na1, na2, na3⟩ := ob_k (en (10 + Int.toNat (S 1 0 6)) (by omega))
                  have lv9 : LV S123 := LV_n hV hI.k.1.2 (fun b i h => by rw [qS123, if_neg (by omega), fr9 _ _ _ (by omega) (by omega)]) (by rw [qS123, if_pos ⟨rfl, rfl, rfl⟩, en 1 (by decide), g6, v2]) (by rw [en 1 (by decide), fr9 _ _ _ (by omega) (by omega)]) (by rw [en 2 (by decide)]; exact fe (fun b i => fr9 _ _ _ (by omega) (by omega))) (fun a h1 h2 => by rw [en a (by omega)]; exact fe (fun b i => fr9 _ _ _ (by omega) (by omega)))
                  have hcc : ceC S123 y113 := ivS123.ce.mpr (by rw [en 1 (by decide), fr9 _ _ _ (by omega) (by omega)]; omega)
                  have hm0 : 0 ≤ (S 3 2 (2 * y113)) * (S 3 2 ((2 * y113) + 1)) := Int.mul_nonneg (by omega) (by omega)
                  have hm1 : (S 3 2 (2 * y113)) * (S 3 2 ((2 * y113) + 1)) ≤ 240 := mul240 (by omega) (by omega) (by omega) (by omega)
                  refine lv_iload hx hb dL_acts_254 (lv_at hl 0 rfl) ?_
                  refine lv_aload_n hx hb dL_acts_256 rfl (lv_at hl 5 rfl) ?_
                  refine lv_iconst (v := i32 (2)) hx hb dL_acts_257 rfl ?_
                  refine p_iald (k := 3) (r := 1) (n := 4) hx hb hK hP aS123_3 rfl rfl (by decide) (by decide) (by omega) (by omega) dL_acts_258 ?_
                  refine q_nm (show S123 3 1 2 = (S 3 1 2) + 1 from by rw [qS123, if_pos ⟨rfl, rfl, rfl⟩]) ?_
                  refine lv_iconst (v := i32 (1)) hx hb dL_acts_259 rfl ?_
                  refine q_isub hx hb dL_acts_260 ?_
                  refine q_icmp_ne (tgt := 314) hx hb (rS _ _ _) ⟨by omega, by omega⟩ dL_acts_261 (by decide) (fun c_124 => (by exfalso; omega)) (fun c_124 => ?_)
                  refine lv_aload_n hx hb dL_acts_264 rfl (lv_at hl 4 rfl) ?_
                  refine lv_iload hx hb dL_acts_265 (lv_at hl 0 rfl) ?_
                  refine lv_iload hx hb dL_acts_267 (lv_at hl 2 rfl) ?_
                  refine q_callH2 (As := [.ref (ad118 1 0), .int (i32 (S 1 0 6)), .int (i32 (y113))]) (rest := []) hx hb hml hl.1 hown hK hZ hP hS (c_L_likeness l g base ad118 S123 (S 1 0 6) y113 hfl ivS123.wc (rS _ _ _) ⟨by omega, by omega⟩) t_504 t_14 t_506 t_505 f_yL_likeness ⟨Nat.le_of_ble_eq_true rfl, Nat.le_of_ble_eq_true rfl⟩ rfl rfl (Nat.le_of_ble_eq_true rfl) dL_acts_269 (c2 := 11) (s2 := 805) ⟨by first | rfl | (dsimp only; omega), by first | rfl | (dsimp only; omega)⟩ ⟨by show 11 ≤ 2970; omega, by show 805 ≤ 18559; omega⟩ (q_an (fun H locs hP hS => ?_))
                  refine q_nm (b := S 3 2 (2 * y113) * S 3 2 ((2 * y113) + 1)) ((lv_0 ⟨kN2, hcc⟩ trivial trivial).trans (by rw [ln_k (en _ (by omega)) (en _ (by omega)), gln, ← hd1, ← hd3])) ?_
                  refine lv_aload_n hx hb dL_acts_272 rfl (lv_at hl 6 rfl) ?_
                  refine lv_iconst (v := i32 (2)) hx hb dL_acts_273 rfl ?_
                  refine lv_iload hx hb dL_acts_274 (lv_at hl 2 rfl) ?_
                  refine q_imul hx hb dL_acts_276 ?_
                  refine p_iald (k := 3) (r := 2) (n := 10) hx hb hK hP aS123_3 rfl rfl (by decide) (by decide) (by omega) (by omega) dL_acts_277 ?_
                  refine q_nm (show S123 3 2 (2 * y113) = S 3 2 (2 * y113) from by rw [qS123, if_neg (by omega), h3S119]) ?_
                  refine lv_aload_n hx hb dL_acts_278 rfl (lv_at hl 6 rfl) ?_
                  refine lv_iconst (v := i32 (2)) hx hb dL_acts_279 rfl ?_
                  refine lv_iload hx hb dL_acts_280 (lv_at hl 2 rfl) ?_
                  refine q_imul hx hb dL_acts_282 ?_
                  refine lv_iconst (v := i32 (1)) hx hb dL_acts_283 rfl ?_
                  refine q_iadd hx hb dL_acts_284 ?_
                  refine p_iald (k := 3) (r := 2) (n := 10) hx hb hK hP aS123_3 rfl rfl (by decide) (by decide) (by omega) (by omega) dL_acts_285 ?_
                  refine q_nm (show S123 3 2 ((2 * y113) + 1) = S 3 2 ((2 * y113) + 1) from by rw [qS123, if_neg (by omega), h3S119]) ?_
                  refine q_imul hx hb dL_acts_286 ?_
                  refine q_icmp_ne (tgt := 314) hx hb ⟨by omega, by omega⟩ ⟨by omega, by omega⟩ dL_acts_287 (by decide) (fun c_125 => (by exfalso; omega)) (fun c_125 => ?_)
                  refine lv_aload_n hx hb dL_acts_290 rfl (lv_at hl 4 rfl) ?_
                  refine lv_iload hx hb dL_acts_291 (lv_at hl 0 rfl) ?_
                  refine q_callH2 (As := [.ref (ad118 1 0), .int (i32 (S 1 0 6))]) (rest := []) hx hb hml hl.1 hown hK hZ hP hS (c_L_isTrue l g base ad118 S123 (S 1 0 6) hfl ivS123.wc (rS _ _ _)) t_516 t_14 t_518 t_517 f_yL_isTrue ⟨Nat.le_of_ble_eq_true rfl, Nat.le_of_ble_eq_true rfl⟩ rfl rfl (Nat.le_of_ble_eq_true rfl) dL_acts_293 (c2 := 12) (s2 := 811) ⟨by first | rfl | (dsimp only; omega), by first | rfl | (dsimp only; omega)⟩ ⟨by show 12 ≤ 2970; omega, by show 811 ≤ 18559; omega⟩ (q_an (fun H locs hP hS => ?_))
                  refine q_nm (b := 1) ((lv_0 kN2 trivial trivial).trans (b2_t (na3.mpr gtr))) ?_
                  refine lv_iconst (v := i32 (1)) hx hb dL_acts_296 rfl ?_
                  refine q_icmp_ne (tgt := 314) hx hb ⟨by decide, by decide⟩ ⟨by decide, by decide⟩ dL_acts_297 (by decide) (fun c_126 => (by exfalso; omega)) (fun c_126 => ?_)
                  refine lv_aload_n hx hb dL_acts_300 rfl (lv_at hl 4 rfl) ?_
                  refine lv_aload_n hx hb dL_acts_301 rfl (lv_at hl 7 rfl) ?_
                  refine lv_iload hx hb dL_acts_302 (lv_at hl 0 rfl) ?_
                  refine q_callS2 (As := [.ref (ad118 1 0), .ref (ad118 3 3), .int (i32 (S 1 0 6))]) (rest := []) hx hb hml hl.1 hown hK hZ hP hS (c_L_isPiece l g base ad118 S123 (S 1 0 6) hfl ivS123 kN2 lv9.2.2.2 (rS _ _ _)) t_329 (q_callB hK 328 14 330 t_328 t_14 t_330 f_yL_isPiece ⟨Nat.le_of_ble_eq_true rfl, Nat.le_of_ble_eq_true rfl⟩) rfl rfl (Nat.le_of_ble_eq_true rfl) dL_acts_304 (c2 := 1472) (s2 := 9571) ⟨by first | rfl | (dsimp only; omega), by first | rfl | (dsimp only; omega)⟩ ⟨by show 1472 ≤ 2970; omega, by show 9571 ≤ 18559; omega⟩ (q_an (fun H locs hP hS => ?_))
                  refine q_if_eq (tgt := 314) hx hb ⟨by decide, by decide⟩ dL_acts_307 (by decide) (fun h => by omega) (fun _ => ?_)
                  refine lv_iconst (v := i32 (1)) hx hb dL_acts_310 rfl ?_
                  refine lv_goto (tgt := 315) hx hb dL_acts_311 (by decide) ?_
                  subst hQm
                  exact q_zret hx hb hr hlocks hP hS (v := 1) (by decide) (by exact ⟨⟨rfl, ek_ad118⟩, ivS123, lv9⟩) (by show 1472 ≤ 2970; omega) (by show 9571 ≤ 18559; omega) dL_acts_315
                · -- y116 = 0
                  refine lv_iconst (v := i32 (1)) hx hb dL_acts_181 rfl ?_
                  refine lv_goto (tgt := 186) hx hb dL_acts_182 (by decide) ?_
                  have w9 := IV_loom (mir := True) hI (hI.ce.mpr (show 0 ≤ y113 ∧ y113 < S 1 0 3 by omega)) h_B h_C
                  refine W.eq (g2 := F0 m 186 ls (Value.int (i32 (b2 (True))) :: Value.int (i32 (1 + y114)) :: Value.int (i32 (y113)) :: Value.ref (ad 1 0) :: [])) (by simp only [b2_t trivial, b2_f not_false] <;> rfl) ?_
                  refine q_callH2 (As := [.ref (ad 1 0), .int (i32 (y113)), .int (i32 (1 + y114)), .int (i32 (b2 (True)))]) (rest := []) hx hb hml hl.1 hown hK hZ hP hS (c_L_loom l g base ad S y113 (1 + y114) True hfl hI.wc ⟨by omega, by omega⟩ ⟨by omega, by omega⟩ hI.hcf hI.hpf) t_442 t_14 t_444 t_443 f_yL_loom ⟨Nat.le_of_ble_eq_true rfl, Nat.le_of_ble_eq_true rfl⟩ rfl rfl (Nat.le_of_ble_eq_true rfl) dL_acts_186 (c2 := 9) (s2 := 793) ⟨by first | rfl | (dsimp only; omega), by first | rfl | (dsimp only; omega)⟩ ⟨by show 9 ≤ 2970; omega, by show 793 ≤ 18559; omega⟩ (fun rr ad' S' H locs hQ hP hS => ?_)
                  have hc9 : (ceC S y113) ∧ (1 ≤ (1 + y114) ∧ (1 + y114) ≤ 4 ∧ (1 + y114) ≤ S (4 + y113.toNat) 0 0) ∧ (1 ≤ S (4 + y113.toNat) 0 1 ∧ S 1 0 6 < 20) := ⟨hI.ce.mpr (by omega), h_B, h_C⟩
                  obtain ⟨⟨hr9, ek9⟩, hQ⟩ := hQ
                  have hs9 := (hQ.resolve_left (fun y9 => y9.1 hc9)).2
                  subst hr9
                  rw [hs9] at hP
                  refine q_nm (b := S 1 0 6) ((lv_0 hc9.1 hc9.2.1 hc9.2.2).trans (rfl)) ?_
                  obtain ⟨ad127, had127⟩ : ∃ a9 : Nat → Nat → Nat, a9 = ad' := ⟨_, rfl⟩
                  rw [← had127] at ek9 hP
                  have ek_ad127 : ∀ x q, x < 4 → ad127 x q = ad x q := fun x q h => (ek9 x q h)
                  have el_ad127 : ∀ x q, x < 4 → ad127 x q = ad x q := ek9
                  have hl : lv_has ls 13 [(9, .int (i32 (1 + y114))), (8, .int (i32 (y113))), (7, .int (i32 (y1))), (0, .ref (ad127 1 0)), (1, .ref (ad127 3 1)), (2, .ref (ad127 3 2)), (3, .ref (ad127 3 3)), (4, .ref (ad127 3 4)), (5, .int (i32 (x))), (6, .int (i32 (y)))] := by
                    have t9 := hl
                    rw [← el_ad127 1 0 (by decide), ← el_ad127 3 1 (by decide), ← el_ad127 3 2 (by decide), ← el_ad127 3 3 (by decide), ← el_ad127 3 4 (by decide)] at t9
                    exact t9
                  skip
                  generalize eS128 : lmS S y113 (1 + y114) True = S128 at hP
                  have rS128 : ∀ (a1 b1 : Nat) (i1 : Int), rng (S128 a1 b1 i1) := fun a1 b1 i1 => hP.rg a1 b1 i1
                  have ivS128 : IV S128 := by rw [← eS128]; exact w9.1
                  have h3S128 : ∀ (b1 : Nat) (i1 : Int), S128 3 b1 i1 = S 3 b1 i1 := by rw [← eS128]; exact fun b i => w9.2.1.2.2 3 b i (by omega) (by omega)
                  rw [eS128] at w9
                  obtain ⟨-, ⟨g6, g7, fr9⟩, gtr, gln⟩ := w9
                  refine lv_istore (lv' := [(10, .int (i32 (S 1 0 6))), (9, .int (i32 (1 + y114))), (8, .int (i32 (y113))), (7, .int (i32 (y1))), (0, .ref (ad127 1 0)), (1, .ref (ad127 3 1)), (2, .ref (ad127 3 2)), (3, .ref (ad127 3 3)), (4, .ref (ad127 3 4)), (5, .int (i32 (x))), (6, .int (i32 (y)))]) hx hb dL_acts_189 hl (by decide) rfl (fun ls hl => ?_)
                  refine lv_iload hx hb dL_acts_191 (lv_at hl 1 rfl) ?_
                  refine lv_aload_n hx hb dL_acts_193 rfl (lv_at hl 6 rfl) ?_
                  refine lv_iconst (v := i32 (2)) hx hb dL_acts_194 rfl ?_
                  refine lv_iload hx hb dL_acts_195 (lv_at hl 2 rfl) ?_
                  refine q_imul hx hb dL_acts_197 ?_
                  refine p_iald (k := 3) (r := 2) (n := 10) hx hb hK hP ivS128.a.2.2 rfl rfl (by decide) (by decide) (by omega) (by omega) dL_acts_198 ?_
                  refine q_nm (show S128 3 2 (2 * y113) = S 3 2 (2 * y113) from by rw [h3S128]) ?_
                  refine q_icmp_le (tgt := 215) hx hb ⟨by omega, by omega⟩ (rS _ _ _) dL_acts_199 (by decide) (fun c_129 => ?_) (fun c_129 => (by exfalso; omega))
                  refine lv_aload_n hx hb dL_acts_215 rfl (lv_at hl 6 rfl) ?_
                  refine lv_iconst (v := i32 (2)) hx hb dL_acts_216 rfl ?_
                  refine lv_iload hx hb dL_acts_217 (lv_at hl 2 rfl) ?_
                  refine q_imul hx hb dL_acts_219 ?_
                  refine lv_iconst (v := i32 (1)) hx hb dL_acts_220 rfl ?_
                  refine q_iadd hx hb dL_acts_221 ?_
                  refine p_iald (k := 3) (r := 2) (n := 10) hx hb hK hP ivS128.a.2.2 rfl rfl (by decide) (by decide) (by omega) (by omega) dL_acts_222 ?_
                  refine q_nm (show S128 3 2 ((2 * y113) + 1) = S 3 2 ((2 * y113) + 1) from by rw [h3S128]) ?_
                  refine q_if_eq (tgt := 234) hx hb (rS _ _ _) dL_acts_223 (by decide) (fun c_130 => (by exfalso; omega)) (fun c_130 => ?_)
                  refine lv_aload_n hx hb dL_acts_226 rfl (lv_at hl 5 rfl) ?_
                  refine lv_iconst (v := i32 (2)) hx hb dL_acts_227 rfl ?_
                  refine p_iald (k := 3) (r := 1) (n := 4) hx hb hK hP ivS128.a.2.2 rfl rfl (by decide) (by decide) (by omega) (by omega) dL_acts_228 ?_
                  refine q_nm (show S128 3 1 2 = S 3 1 2 from by rw [h3S128]) ?_
                  refine lv_bipush (v := i32 (20)) hx hb dL_acts_229 (by decide) ?_
                  refine q_icmp_ne (tgt := 247) hx hb (rS _ _ _) ⟨by decide, by decide⟩ dL_acts_231 (by decide) (fun c_131 => ?_) (fun c_131 => (by exfalso; omega))
                  refine lv_aload_n hx hb dL_acts_247 rfl (lv_at hl 5 rfl) ?_
                  refine lv_iconst (v := i32 (2)) hx hb dL_acts_248 rfl ?_
                  refine lv_dup2_11 hx hb dL_acts_249 rfl rfl ?_
                  refine p_iald (k := 3) (r := 1) (n := 4) hx hb hK hP ivS128.a.2.2 rfl rfl (by decide) (by decide) (by omega) (by omega) dL_acts_250 ?_
                  refine q_nm (show S128 3 1 2 = S 3 1 2 from by rw [h3S128]) ?_
                  refine lv_iconst (v := i32 (1)) hx hb dL_acts_251 rfl ?_
                  refine q_iadd hx hb dL_acts_252 ?_
                  refine p_iast (k := 3) (r := 1) (n := 4) hx hb hK hP hS ivS128.a.2.2 rfl rfl (by decide) (by decide) (by omega) (by omega) ⟨by omega, by omega⟩ dL_acts_253 (fun H locs hP hS => ?_)
                  generalize eS132 : st S128 3 1 2 ((S 3 1 2) + 1) = S132 at hP
                  have qS132 : ∀ (a1 b1 : Nat) (i1 : Int), S132 a1 b1 i1 = if a1 = 3 ∧ b1 = 1 ∧ i1 = 2 then (S 3 1 2) + 1 else S128 a1 b1 i1 := fun a1 b1 i1 => by rw [← eS132]; exact st_at _ _ _ _ _ _ _ _
                  have rS132 : ∀ (a1 b1 : Nat) (i1 : Int), rng (S132 a1 b1 i1) := fun a1 b1 i1 => hP.rg a1 b1 i1
                  have aS132_1 : S132 1 0 (-1) = 1 := by rw [qS132, if_neg (by omega)]; exact ivS128.a.1
                  have aS132_2 : S132 2 0 (-1) = 1 := by rw [qS132, if_neg (by omega)]; exact ivS128.a.2.1
                  have aS132_3 : S132 3 0 (-1) = 1 := by rw [qS132, if_neg (by omega)]; exact ivS128.a.2.2
                  have ivS132 : IV S132 := by rw [← eS132]; exact IV_3 ivS128 (by decide)
                  have en : ∀ a : Nat, a ≠ 3 → S132 a = S128 a := fun a h => fe (fun b i => by rw [qS132, if_neg (by omega)])
                  have kN2 : peC S132 (S 1 0 6) := ⟨hp20.1, by omega, by rw [en 1 (by decide)]; exact g7⟩
                  obtain ⟨na1, na2, na3⟩ := ob_k (en (10 + Int.toNat (S 1 0 6)) (by omega))
                  have lv9 : LV S132 := LV_n hV hI.k.1.2 (fun b i h => by rw [qS132, if_neg (by omega), fr9 _ _ _ (by omega) (by omega)]) (by rw [qS132, if_pos ⟨rfl, rfl, rfl⟩, en 1 (by decide), g6, v2]) (by rw [en 1 (by decide), fr9 _ _ _ (by omega) (by omega)]) (by rw [en 2 (by decide)]; exact fe (fun b i => fr9 _ _ _ (by omega) (by omega))) (fun a h1 h2 => by rw [en a (by omega)]; exact fe (fun b i => fr9 _ _ _ (by omega) (by omega)))
                  have hcc : ceC S132 y113 := ivS132.ce.mpr (by rw [en 1 (by decide), fr9 _ _ _ (by omega) (by omega)]; omega)
                  have hm0 : 0 ≤ (S 3 2 (2 * y113)) * (S 3 2 ((2 * y113) + 1)) := Int.mul_nonneg (by omega) (by omega)
                  have hm1 : (S 3 2 (2 * y113)) * (S 3 2 ((2 * y113) + 1)) ≤ 240 := mul240 (by omega) (by omega) (by omega) (by omega)
                  refine lv_iload hx hb dL_acts_254 (lv_at hl 0 rfl) ?_
                  refine lv_aload_n hx hb dL_acts_256 rfl (lv_at hl 5 rfl) ?_
                  refine lv_iconst (v := i32 (2)) hx hb dL_acts_257 rfl ?_
                  refine p_iald (k := 3) (r := 1) (n := 4) hx hb hK hP aS132_3 rfl rfl (by decide) (by decide) (by omega) (by omega) dL_acts_258 ?_
                  refine q_nm (show S132 3 1 2 = (S 3 1 2) + 1 from by rw [qS132, if_pos ⟨rfl, rfl, rfl⟩]) ?_
                  refine lv_iconst (v := i32 (1)) hx hb dL_acts_259 rfl ?_
                  refine q_isub hx hb dL_acts_260 ?_
                  refine q_icmp_ne (tgt := 314) hx hb (rS _ _ _) ⟨by omega, by omega⟩ dL_acts_261 (by decide) (fun c_133 => (by exfalso; omega)) (fun c_133 => ?_)
                  refine lv_aload_n hx hb dL_acts_264 rfl (lv_at hl 4 rfl) ?_
                  refine lv_iload hx hb dL_acts_265 (lv_at hl 0 rfl) ?_
                  refine lv_iload hx hb dL_acts_267 (lv_at hl 2 rfl) ?_
                  refine q_callH2 (As := [.ref (ad127 1 0), .int (i32 (S 1 0 6)), .int (i32 (y113))]) (rest := []) hx hb hml hl.1 hown hK hZ hP hS (c_L_likeness l g base ad127 S132 (S 1 0 6) y113 hfl ivS132.wc (rS _ _ _) ⟨by omega, by omega⟩) t_504 t_14 t_506 t_505 f_yL_likeness ⟨Nat.le_of_ble_eq_true rfl, Nat.le_of_ble_eq_true rfl⟩ rfl rfl (Nat.le_of_ble_eq_true rfl) dL_acts_269 (c2 := 11) (s2 := 805) ⟨by first | rfl | (dsimp only; omega), by first | rfl | (dsimp only; omega)⟩ ⟨by show 11 ≤ 2970; omega, by show 805 ≤ 18559; omega⟩ (q_an (fun H locs hP hS => ?_))
                  refine q_nm (b := S 3 2 (2 * y113) * S 3 2 ((2 * y113) + 1)) ((lv_0 ⟨kN2, hcc⟩ trivial trivial).trans (by rw [ln_k (en _ (by omega)) (en _ (by omega)), gln, ← hd1, ← hd3])) ?_
                  refine lv_aload_n hx hb dL_acts_272 rfl (lv_at hl 6 rfl) ?_
                  refine lv_iconst (v := i32 (2)) hx hb dL_acts_273 rfl ?_
                  refine lv_iload hx hb dL_acts_274 (lv_at hl 2 rfl) ?_
                  refine q_imul hx hb dL_acts_276 ?_
                  refine p_iald (k := 3) (r := 2) (n := 10) hx hb hK hP aS132_3 rfl rfl (by decide) (by decide) (by omega) (by omega) dL_acts_277 ?_
                  refine q_nm (show S132 3 2 (2 * y113) = S 3 2 (2 * y113) from by rw [qS132, if_neg (by omega), h3S128]) ?_
                  refine lv_aload_n hx hb dL_acts_278 rfl (lv_at hl 6 rfl) ?_
                  refine lv_iconst (v := i32 (2)) hx hb dL_acts_279 rfl ?_
                  refine lv_iload hx hb dL_acts_280 (lv_at hl 2 rfl) ?_
                  refine q_imul hx hb dL_acts_282 ?_
                  refine lv_iconst (v := i32 (1)) hx hb dL_acts_283 rfl ?_
                  refine q_iadd hx hb dL_acts_284 ?_
                  refine p_iald (k := 3) (r := 2) (n := 10) hx hb hK hP aS132_3 rfl rfl (by decide) (by decide) (by omega) (by omega) dL_acts_285 ?_
                  refine q_nm (show S132 3 2 ((2 * y113) + 1) = S 3 2 ((2 * y113) + 1) from by rw [qS132, if_neg (by omega), h3S128]) ?_
                  refine q_imul hx hb dL_acts_286 ?_
                  refine q_icmp_ne (tgt := 314) hx hb ⟨by omega, by omega⟩ ⟨by omega, by omega⟩ dL_acts_287 (by decide) (fun c_134 => (by exfalso; omega)) (fun c_134 => ?_)
                  refine lv_aload_n hx hb dL_acts_290 rfl (lv_at hl 4 rfl) ?_
                  refine lv_iload hx hb dL_acts_291 (lv_at hl 0 rfl) ?_
                  refine q_callH2 (As := [.ref (ad127 1 0), .int (i32 (S 1 0 6))]) (rest := []) hx hb hml hl.1 hown hK hZ hP hS (c_L_isTrue l g base ad127 S132 (S 1 0 6) hfl ivS132.wc (rS _ _ _)) t_516 t_14 t_518 t_517 f_yL_isTrue ⟨Nat.le_of_ble_eq_true rfl, Nat.le_of_ble_eq_true rfl⟩ rfl rfl (Nat.le_of_ble_eq_true rfl) dL_acts_293 (c2 := 12) (s2 := 811) ⟨by first | rfl | (dsimp only; omega), by first | rfl | (dsimp only; omega)⟩ ⟨by show 12 ≤ 2970; omega, by show 811 ≤ 18559; omega⟩ (q_an (fun H locs hP hS => ?_))
                  refine q_nm (b := 1) ((lv_0 kN2 trivial trivial).trans (b2_t (na3.mpr gtr))) ?_
                  refine lv_iconst (v := i32 (1)) hx hb dL_acts_296 rfl ?_
                  refine q_icmp_ne (tgt := 314) hx hb ⟨by decide, by decide⟩ ⟨by decide, by decide⟩ dL_acts_297 (by decide) (fun c_135 => (by exfalso; omega)) (fun c_135 => ?_)
                  refine lv_aload_n hx hb dL_acts_300 rfl (lv_at hl 4 rfl) ?_
                  refine lv_aload_n hx hb dL_acts_301 rfl (lv_at hl 7 rfl) ?_
                  refine lv_iload hx hb dL_acts_302 (lv_at hl 0 rfl) ?_
                  refine q_callS2 (As := [.ref (ad127 1 0), .ref (ad127 3 3), .int (i32 (S 1 0 6))]) (rest := []) hx hb hml hl.1 hown hK hZ hP hS (c_L_isPiece l g base ad127 S132 (S 1 0 6) hfl ivS132 kN2 lv9.2.2.2 (rS _ _ _)) t_329 (q_callB hK 328 14 330 t_328 t_14 t_330 f_yL_isPiece ⟨Nat.le_of_ble_eq_true rfl, Nat.le_of_ble_eq_true rfl⟩) rfl rfl (Nat.le_of_ble_eq_true rfl) dL_acts_304 (c2 := 1472) (s2 := 9571) ⟨by first | rfl | (dsimp only; omega), by first | rfl | (dsimp only; omega)⟩ ⟨by show 1472 ≤ 2970; omega, by show 9571 ≤ 18559; omega⟩ (q_an (fun H locs hP hS => ?_))
                  refine q_if_eq (tgt := 314) hx hb ⟨by decide, by decide⟩ dL_acts_307 (by decide) (fun h => by omega) (fun _ => ?_)
                  refine lv_iconst (v := i32 (1)) hx hb dL_acts_310 rfl ?_
                  refine lv_goto (tgt := 315) hx hb dL_acts_311 (by decide) ?_
                  subst hQm
                  exact q_zret hx hb hr hlocks hP hS (v := 1) (by decide) (by exact ⟨⟨rfl, ek_ad127⟩, ivS132, lv9⟩) (by show 1472 ≤ 2970; omega) (by show 9571 ≤ 18559; omega) dL_acts_315
              · skip
                obtain ⟨hd1, hd2, hd3⟩ := vd y113 (by omega) (by omega)
                obtain ⟨⟨-, hcw1, hcw2⟩, -⟩ := hI.k.2.2 y113 (by omega) (by omega)
                refine lv_aload_n hx hb dL_acts_165 rfl (lv_at hl 3 rfl) ?_
                refine lv_iload hx hb dL_acts_166 (lv_at hl 1 rfl) ?_
                refine lv_iload hx hb dL_acts_168 (lv_at hl 0 rfl) ?_
                refine lv_iload hx hb dL_acts_170 (lv_at hl 9 rfl) ?_
                refine lv_iconst (v := i32 (2)) hx hb dL_acts_172 rfl ?_
                refine lv_ishr hx hb dL_acts_173 ?_
                obtain ⟨z136, rz136, hz136⟩ := i32_of (i32 (y) >>> (i32 (2) &&& 31))
                rw [hz136]
                refine lv_iconst (v := i32 (2)) hx hb dL_acts_174 rfl ?_
                refine q_callS2 (As := [.int (i32 (z136)), .int (i32 (2))]) (rest := [.int (i32 (1 + y114)), .int (i32 (y113)), .ref (ad 1 0)]) hx hb hml hl.1 hown hK hZ hP hS (c_L_low l g base ad S z136 ((2 : Int)) rz136 (by omega)) t_122 (q_callB hK 121 14 123 t_121 t_14 t_123 f_yL_low ⟨Nat.le_of_ble_eq_true rfl, Nat.le_of_ble_eq_true rfl⟩) rfl rfl (Nat.le_of_ble_eq_true rfl) dL_acts_175 (c2 := 0) (s2 := 0) ⟨by first | rfl | (dsimp only; omega), by first | rfl | (dsimp only; omega)⟩ ⟨by show 0 ≤ 2970; omega, by show 0 ≤ 18559; omega⟩ (q_an (fun H locs hP hS => ?_))
                obtain ⟨y137, hy137⟩ : ∃ y99 : Int, loF z136 ((2 : Int)) = y99 := ⟨_, rfl⟩
                have by137 := lo_b z136 (show 1 ≤ ((2 : Int)) by omega)
                rw [hy137] at by137
                refine q_nm hy137 ?_
                refine q_if_ne (tgt := 185) hx hb ⟨by omega, by omega⟩ dL_acts_178 (by decide) (fun c_138 => ?_) (fun c_138 => ?_)
                · -- y137 ≠ 0
                  refine lv_iconst (v := i32 (0)) hx hb dL_acts_185 rfl ?_
                  refine W.eq (g2 := F0 m 186 ls (Value.int (i32 (b2 (False))) :: Value.int (i32 (1 + y114)) :: Value.int (i32 (y113)) :: Value.ref (ad 1 0) :: [])) (by simp only [b2_t trivial, b2_f not_false] <;> rfl) ?_
                  refine q_callH2 (As := [.ref (ad 1 0), .int (i32 (y113)), .int (i32 (1 + y114)), .int (i32 (b2 (False)))]) (rest := []) hx hb hml hl.1 hown hK hZ hP hS (c_L_loom l g base ad S y113 (1 + y114) False hfl hI.wc ⟨by omega, by omega⟩ ⟨by omega, by omega⟩ hI.hcf hI.hpf) t_442 t_14 t_444 t_443 f_yL_loom ⟨Nat.le_of_ble_eq_true rfl, Nat.le_of_ble_eq_true rfl⟩ rfl rfl (Nat.le_of_ble_eq_true rfl) dL_acts_186 (c2 := 9) (s2 := 793) ⟨by first | rfl | (dsimp only; omega), by first | rfl | (dsimp only; omega)⟩ ⟨by show 9 ≤ 2970; omega, by show 793 ≤ 18559; omega⟩ (fun rr ad' S' H locs hQ hP hS => ?_)
                  obtain ⟨⟨hr9, ek9⟩, hQ⟩ := hQ
                  have hc9_1 : ceC S y113 := hI.ce.mpr (by omega)
                  have hc9_2 : 1 ≤ (1 + y114) ∧ (1 + y114) ≤ 4 ∧ (1 + y114) ≤ S (4 + y113.toNat) 0 0 := h_B
                  have hc9_3 : ¬ (1 ≤ S (4 + y113.toNat) 0 1 ∧ S 1 0 6 < 20) := h_C
                  have hs9 := (hQ.resolve_right (fun y9 => hc9_3 y9.1.2.2)).2
                  subst hr9
                  rw [hs9] at hP
                  obtain ⟨ad139, had139⟩ : ∃ a9 : Nat → Nat → Nat, a9 = ad' := ⟨_, rfl⟩
                  rw [← had139] at ek9 hP
                  have ek_ad139 : ∀ x q, x < 4 → ad139 x q = ad x q := fun x q h => (ek9 x q h)
                  have el_ad139 : ∀ x q, x < 4 → ad139 x q = ad x q := ek9
                  have hl : lv_has ls 13 [(9, .int (i32 (1 + y114))), (8, .int (i32 (y113))), (7, .int (i32 (y1))), (0, .ref (ad139 1 0)), (1, .ref (ad139 3 1)), (2, .ref (ad139 3 2)), (3, .ref (ad139 3 3)), (4, .ref (ad139 3 4)), (5, .int (i32 (x))), (6, .int (i32 (y)))] := by
                    have t9 := hl
                    rw [← el_ad139 1 0 (by decide), ← el_ad139 3 1 (by decide), ← el_ad139 3 2 (by decide), ← el_ad139 3 3 (by decide), ← el_ad139 3 4 (by decide)] at t9
                    exact t9
                  skip
                  refine q_nm (lv_3 hc9_1 hc9_2 hc9_3) ?_
                  refine lv_istore (lv' := [(10, .int (i32 (-1000003))), (9, .int (i32 (1 + y114))), (8, .int (i32 (y113))), (7, .int (i32 (y1))), (0, .ref (ad139 1 0)), (1, .ref (ad139 3 1)), (2, .ref (ad139 3 2)), (3, .ref (ad139 3 3)), (4, .ref (ad139 3 4)), (5, .int (i32 (x))), (6, .int (i32 (y)))]) hx hb dL_acts_189 hl (by decide) rfl (fun ls hl => ?_)
                  refine lv_iload hx hb dL_acts_191 (lv_at hl 1 rfl) ?_
                  refine lv_aload_n hx hb dL_acts_193 rfl (lv_at hl 6 rfl) ?_
                  refine lv_iconst (v := i32 (2)) hx hb dL_acts_194 rfl ?_
                  refine lv_iload hx hb dL_acts_195 (lv_at hl 2 rfl) ?_
                  refine q_imul hx hb dL_acts_197 ?_
                  refine p_iald (k := 3) (r := 2) (n := 10) hx hb hK hP hI.a.2.2 rfl rfl (by decide) (by decide) (by omega) (by omega) dL_acts_198 ?_
                  refine q_icmp_le (tgt := 215) hx hb ⟨by omega, by omega⟩ (rS _ _ _) dL_acts_199 (by decide) (fun c_140 => ?_) (fun c_140 => (by exfalso; omega))
                  refine lv_aload_n hx hb dL_acts_215 rfl (lv_at hl 6 rfl) ?_
                  refine lv_iconst (v := i32 (2)) hx hb dL_acts_216 rfl ?_
                  refine lv_iload hx hb dL_acts_217 (lv_at hl 2 rfl) ?_
                  refine q_imul hx hb dL_acts_219 ?_
                  refine lv_iconst (v := i32 (1)) hx hb dL_acts_220 rfl ?_
                  refine q_iadd hx hb dL_acts_221 ?_
                  refine p_iald (k := 3) (r := 2) (n := 10) hx hb hK hP hI.a.2.2 rfl rfl (by decide) (by decide) (by omega) (by omega) dL_acts_222 ?_
                  refine q_if_eq (tgt := 234) hx hb (rS _ _ _) dL_acts_223 (by decide) (fun c_141 => ?_) (fun c_141 => ?_)
                  · -- (S 3 2 ((2 * y113) + 1)) = 0
                    refine lv_iload hx hb dL_acts_234 (lv_at hl 0 rfl) ?_
                    refine q_ldc (z := -1000003) hx hb hown hK t_250 rfl dL_acts_236 ?_
                    refine q_icmp_ne (tgt := 245) hx hb ⟨by decide, by decide⟩ ⟨by decide, by decide⟩ dL_acts_238 (by decide) (fun c_142 => (by exfalso; omega)) (fun c_142 => ?_)
                    refine lv_iconst (v := i32 (1)) hx hb dL_acts_241 rfl ?_
                    refine lv_goto (tgt := 246) hx hb dL_acts_242 (by decide) ?_
                    subst hQm
                    exact q_zret hx hb hr hlocks hP hS (v := 1) (by decide) (by exact ⟨⟨rfl, ek_ad139⟩, hI, hV⟩) (by show 9 ≤ 2970; omega) (by show 793 ≤ 18559; omega) dL_acts_246
                  · -- (S 3 2 ((2 * y113) + 1)) ≠ 0
                    refine lv_aload_n hx hb dL_acts_226 rfl (lv_at hl 5 rfl) ?_
                    refine lv_iconst (v := i32 (2)) hx hb dL_acts_227 rfl ?_
                    refine p_iald (k := 3) (r := 1) (n := 4) hx hb hK hP hI.a.2.2 rfl rfl (by decide) (by decide) (by omega) (by omega) dL_acts_228 ?_
                    refine lv_bipush (v := i32 (20)) hx hb dL_acts_229 (by decide) ?_
                    refine q_icmp_ne (tgt := 247) hx hb (rS _ _ _) ⟨by decide, by decide⟩ dL_acts_231 (by decide) (fun c_143 => (by exfalso; exact h_C ⟨by omega, by omega⟩)) (fun c_143 => ?_)
                    refine lv_iload hx hb dL_acts_234 (lv_at hl 0 rfl) ?_
                    refine q_ldc (z := -1000003) hx hb hown hK t_250 rfl dL_acts_236 ?_
                    refine q_icmp_ne (tgt := 245) hx hb ⟨by decide, by decide⟩ ⟨by decide, by decide⟩ dL_acts_238 (by decide) (fun c_144 => (by exfalso; omega)) (fun c_144 => ?_)
                    refine lv_iconst (v := i32 (1)) hx hb dL_acts_241 rfl ?_
                    refine lv_goto (tgt := 246) hx hb dL_acts_242 (by decide) ?_
                    subst hQm
                    exact q_zret hx hb hr hlocks hP hS (v := 1) (by decide) (by exact ⟨⟨rfl, ek_ad139⟩, hI, hV⟩) (by show 9 ≤ 2970; omega) (by show 793 ≤ 18559; omega) dL_acts_246
                · -- y137 = 0
                  refine lv_iconst (v := i32 (1)) hx hb dL_acts_181 rfl ?_
                  refine lv_goto (tgt := 186) hx hb dL_acts_182 (by decide) ?_
                  refine W.eq (g2 := F0 m 186 ls (Value.int (i32 (b2 (True))) :: Value.int (i32 (1 + y114)) :: Value.int (i32 (y113)) :: Value.ref (ad 1 0) :: [])) (by simp only [b2_t trivial, b2_f not_false] <;> rfl) ?_
                  refine q_callH2 (As := [.ref (ad 1 0), .int (i32 (y113)), .int (i32 (1 + y114)), .int (i32 (b2 (True)))]) (rest := []) hx hb hml hl.1 hown hK hZ hP hS (c_L_loom l g base ad S y113 (1 + y114) True hfl hI.wc ⟨by omega, by omega⟩ ⟨by omega, by omega⟩ hI.hcf hI.hpf) t_442 t_14 t_444 t_443 f_yL_loom ⟨Nat.le_of_ble_eq_true rfl, Nat.le_of_ble_eq_true rfl⟩ rfl rfl (Nat.le_of_ble_eq_true rfl) dL_acts_186 (c2 := 9) (s2 := 793) ⟨by first | rfl | (dsimp only; omega), by first | rfl | (dsimp only; omega)⟩ ⟨by show 9 ≤ 2970; omega, by show 793 ≤ 18559; omega⟩ (fun rr ad' S' H locs hQ hP hS => ?_)
                  obtain ⟨⟨hr9, ek9⟩, hQ⟩ := hQ
                  have hc9_1 : ceC S y113 := hI.ce.mpr (by omega)
                  have hc9_2 : 1 ≤ (1 + y114) ∧ (1 + y114) ≤ 4 ∧ (1 + y114) ≤ S (4 + y113.toNat) 0 0 := h_B
                  have hc9_3 : ¬ (1 ≤ S (4 + y113.toNat) 0 1 ∧ S 1 0 6 < 20) := h_C
                  have hs9 := (hQ.resolve_right (fun y9 => hc9_3 y9.1.2.2)).2
                  subst hr9
                  rw [hs9] at hP
                  obtain ⟨ad145, had145⟩ : ∃ a9 : Nat → Nat → Nat, a9 = ad' := ⟨_, rfl⟩
                  rw [← had145] at ek9 hP
                  have ek_ad145 : ∀ x q, x < 4 → ad145 x q = ad x q := fun x q h => (ek9 x q h)
                  have el_ad145 : ∀ x q, x < 4 → ad145 x q = ad x q := ek9
                  have hl : lv_has ls 13 [(9, .int (i32 (1 + y114))), (8, .int (i32 (y113))), (7, .int (i32 (y1))), (0, .ref (ad145 1 0)), (1, .ref (ad145 3 1)), (2, .ref (ad145 3 2)), (3, .ref (ad145 3 3)), (4, .ref (ad145 3 4)), (5, .int (i32 (x))), (6, .int (i32 (y)))] := by
                    have t9 := hl
                    rw [← el_ad145 1 0 (by decide), ← el_ad145 3 1 (by decide), ← el_ad145 3 2 (by decide), ← el_ad145 3 3 (by decide), ← el_ad145 3 4 (by decide)] at t9
                    exact t9
                  skip
                  refine q_nm (lv_3 hc9_1 hc9_2 hc9_3) ?_
                  refine lv_istore (lv' := [(10, .int (i32 (-1000003))), (9, .int (i32 (1 + y114))), (8, .int (i32 (y113))), (7, .int (i32 (y1))), (0, .ref (ad145 1 0)), (1, .ref (ad145 3 1)), (2, .ref (ad145 3 2)), (3, .ref (ad145 3 3)), (4, .ref (ad145 3 4)), (5, .int (i32 (x))), (6, .int (i32 (y)))]) hx hb dL_acts_189 hl (by decide) rfl (fun ls hl => ?_)
                  refine lv_iload hx hb dL_acts_191 (lv_at hl 1 rfl) ?_
                  refine lv_aload_n hx hb dL_acts_193 rfl (lv_at hl 6 rfl) ?_
                  refine lv_iconst (v := i32 (2)) hx hb dL_acts_194 rfl ?_
                  refine lv_iload hx hb dL_acts_195 (lv_at hl 2 rfl) ?_
                  refine q_imul hx hb dL_acts_197 ?_
                  refine p_iald (k := 3) (r := 2) (n := 10) hx hb hK hP hI.a.2.2 rfl rfl (by decide) (by decide) (by omega) (by omega) dL_acts_198 ?_
                  refine q_icmp_le (tgt := 215) hx hb ⟨by omega, by omega⟩ (rS _ _ _) dL_acts_199 (by decide) (fun c_146 => ?_) (fun c_146 => (by exfalso; omega))
                  refine lv_aload_n hx hb dL_acts_215 rfl (lv_at hl 6 rfl) ?_
                  refine lv_iconst (v := i32 (2)) hx hb dL_acts_216 rfl ?_
                  refine lv_iload hx hb dL_acts_217 (lv_at hl 2 rfl) ?_
                  refine q_imul hx hb dL_acts_219 ?_
                  refine lv_iconst (v := i32 (1)) hx hb dL_acts_220 rfl ?_
                  refine q_iadd hx hb dL_acts_221 ?_
                  refine p_iald (k := 3) (r := 2) (n := 10) hx hb hK hP hI.a.2.2 rfl rfl (by decide) (by decide) (by omega) (by omega) dL_acts_222 ?_
                  refine q_if_eq (tgt := 234) hx hb (rS _ _ _) dL_acts_223 (by decide) (fun c_147 => ?_) (fun c_147 => ?_)
                  · -- (S 3 2 ((2 * y113) + 1)) = 0
                    refine lv_iload hx hb dL_acts_234 (lv_at hl 0 rfl) ?_
                    refine q_ldc (z := -1000003) hx hb hown hK t_250 rfl dL_acts_236 ?_
                    refine q_icmp_ne (tgt := 245) hx hb ⟨by decide, by decide⟩ ⟨by decide, by decide⟩ dL_acts_238 (by decide) (fun c_148 => (by exfalso; omega)) (fun c_148 => ?_)
                    refine lv_iconst (v := i32 (1)) hx hb dL_acts_241 rfl ?_
                    refine lv_goto (tgt := 246) hx hb dL_acts_242 (by decide) ?_
                    subst hQm
                    exact q_zret hx hb hr hlocks hP hS (v := 1) (by decide) (by exact ⟨⟨rfl, ek_ad145⟩, hI, hV⟩) (by show 9 ≤ 2970; omega) (by show 793 ≤ 18559; omega) dL_acts_246
                  · -- (S 3 2 ((2 * y113) + 1)) ≠ 0
                    refine lv_aload_n hx hb dL_acts_226 rfl (lv_at hl 5 rfl) ?_
                    refine lv_iconst (v := i32 (2)) hx hb dL_acts_227 rfl ?_
                    refine p_iald (k := 3) (r := 1) (n := 4) hx hb hK hP hI.a.2.2 rfl rfl (by decide) (by decide) (by omega) (by omega) dL_acts_228 ?_
                    refine lv_bipush (v := i32 (20)) hx hb dL_acts_229 (by decide) ?_
                    refine q_icmp_ne (tgt := 247) hx hb (rS _ _ _) ⟨by decide, by decide⟩ dL_acts_231 (by decide) (fun c_149 => (by exfalso; exact h_C ⟨by omega, by omega⟩)) (fun c_149 => ?_)
                    refine lv_iload hx hb dL_acts_234 (lv_at hl 0 rfl) ?_
                    refine q_ldc (z := -1000003) hx hb hown hK t_250 rfl dL_acts_236 ?_
                    refine q_icmp_ne (tgt := 245) hx hb ⟨by decide, by decide⟩ ⟨by decide, by decide⟩ dL_acts_238 (by decide) (fun c_150 => (by exfalso; omega)) (fun c_150 => ?_)
                    refine lv_iconst (v := i32 (1)) hx hb dL_acts_241 rfl ?_
                    refine lv_goto (tgt := 246) hx hb dL_acts_242 (by decide) ?_
                    subst hQm
                    exact q_zret hx hb hr hlocks hP hS (v := 1) (by decide) (by exact ⟨⟨rfl, ek_ad145⟩, hI, hV⟩) (by show 9 ≤ 2970; omega) (by show 793 ≤ 18559; omega) dL_acts_246
            · skip
              obtain ⟨hd1, hd2, hd3⟩ := vd y113 (by omega) (by omega)
              obtain ⟨⟨-, hcw1, hcw2⟩, -⟩ := hI.k.2.2 y113 (by omega) (by omega)
              refine lv_aload_n hx hb dL_acts_165 rfl (lv_at hl 3 rfl) ?_
              refine lv_iload hx hb dL_acts_166 (lv_at hl 1 rfl) ?_
              refine lv_iload hx hb dL_acts_168 (lv_at hl 0 rfl) ?_
              refine lv_iload hx hb dL_acts_170 (lv_at hl 9 rfl) ?_
              refine lv_iconst (v := i32 (2)) hx hb dL_acts_172 rfl ?_
              refine lv_ishr hx hb dL_acts_173 ?_
              obtain ⟨z151, rz151, hz151⟩ := i32_of (i32 (y) >>> (i32 (2) &&& 31))
              rw [hz151]
              refine lv_iconst (v := i32 (2)) hx hb dL_acts_174 rfl ?_
              refine q_callS2 (As := [.int (i32 (z151)), .int (i32 (2))]) (rest := [.int (i32 (1 + y114)), .int (i32 (y113)), .ref (ad 1 0)]) hx hb hml hl.1 hown hK hZ hP hS (c_L_low l g base ad S z151 ((2 : Int)) rz151 (by omega)) t_122 (q_callB hK 121 14 123 t_121 t_14 t_123 f_yL_low ⟨Nat.le_of_ble_eq_true rfl, Nat.le_of_ble_eq_true rfl⟩) rfl rfl (Nat.le_of_ble_eq_true rfl) dL_acts_175 (c2 := 0) (s2 := 0) ⟨by first | rfl | (dsimp only; omega), by first | rfl | (dsimp only; omega)⟩ ⟨by show 0 ≤ 2970; omega, by show 0 ≤ 18559; omega⟩ (q_an (fun H locs hP hS => ?_))
              obtain ⟨y152, hy152⟩ : ∃ y99 : Int, loF z151 ((2 : Int)) = y99 := ⟨_, rfl⟩
              have by152 := lo_b z151 (show 1 ≤ ((2 : Int)) by omega)
              rw [hy152] at by152
              refine q_nm hy152 ?_
              refine q_if_ne (tgt := 185) hx hb ⟨by omega, by omega⟩ dL_acts_178 (by decide) (fun c_153 => ?_) (fun c_153 => ?_)
              · -- y152 ≠ 0
                refine lv_iconst (v := i32 (0)) hx hb dL_acts_185 rfl ?_
                refine W.eq (g2 := F0 m 186 ls (Value.int (i32 (b2 (False))) :: Value.int (i32 (1 + y114)) :: Value.int (i32 (y113)) :: Value.ref (ad 1 0) :: [])) (by simp only [b2_t trivial, b2_f not_false] <;> rfl) ?_
                refine q_callH2 (As := [.ref (ad 1 0), .int (i32 (y113)), .int (i32 (1 + y114)), .int (i32 (b2 (False)))]) (rest := []) hx hb hml hl.1 hown hK hZ hP hS (c_L_loom l g base ad S y113 (1 + y114) False hfl hI.wc ⟨by omega, by omega⟩ ⟨by omega, by omega⟩ hI.hcf hI.hpf) t_442 t_14 t_444 t_443 f_yL_loom ⟨Nat.le_of_ble_eq_true rfl, Nat.le_of_ble_eq_true rfl⟩ rfl rfl (Nat.le_of_ble_eq_true rfl) dL_acts_186 (c2 := 9) (s2 := 793) ⟨by first | rfl | (dsimp only; omega), by first | rfl | (dsimp only; omega)⟩ ⟨by show 9 ≤ 2970; omega, by show 793 ≤ 18559; omega⟩ (fun rr ad' S' H locs hQ hP hS => ?_)
                obtain ⟨⟨hr9, ek9⟩, hQ⟩ := hQ
                have hc9_1 : ceC S y113 := hI.ce.mpr (by omega)
                have hc9_2 : ¬ (1 ≤ (1 + y114) ∧ (1 + y114) ≤ 4 ∧ (1 + y114) ≤ S (4 + y113.toNat) 0 0) := h_B
                have hs9 := (hQ.resolve_right (fun y9 => hc9_2 y9.1.2.1)).2
                subst hr9
                rw [hs9] at hP
                obtain ⟨ad154, had154⟩ : ∃ a9 : Nat → Nat → Nat, a9 = ad' := ⟨_, rfl⟩
                rw [← had154] at ek9 hP
                have ek_ad154 : ∀ x q, x < 4 → ad154 x q = ad x q := fun x q h => (ek9 x q h)
                have el_ad154 : ∀ x q, x < 4 → ad154 x q = ad x q := ek9
                have hl : lv_has ls 13 [(9, .int (i32 (1 + y114))), (8, .int (i32 (y113))), (7, .int (i32 (y1))), (0, .ref (ad154 1 0)), (1, .ref (ad154 3 1)), (2, .ref (ad154 3 2)), (3, .ref (ad154 3 3)), (4, .ref (ad154 3 4)), (5, .int (i32 (x))), (6, .int (i32 (y)))] := by
                  have t9 := hl
                  rw [← el_ad154 1 0 (by decide), ← el_ad154 3 1 (by decide), ← el_ad154 3 2 (by decide), ← el_ad154 3 3 (by decide), ← el_ad154 3 4 (by decide)] at t9
                  exact t9
                skip
                refine q_nm (lv_2 hc9_1 hc9_2) ?_
                refine lv_istore (lv' := [(10, .int (i32 (-1000002))), (9, .int (i32 (1 + y114))), (8, .int (i32 (y113))), (7, .int (i32 (y1))), (0, .ref (ad154 1 0)), (1, .ref (ad154 3 1)), (2, .ref (ad154 3 2)), (3, .ref (ad154 3 3)), (4, .ref (ad154 3 4)), (5, .int (i32 (x))), (6, .int (i32 (y)))]) hx hb dL_acts_189 hl (by decide) rfl (fun ls hl => ?_)
                refine lv_iload hx hb dL_acts_191 (lv_at hl 1 rfl) ?_
                refine lv_aload_n hx hb dL_acts_193 rfl (lv_at hl 6 rfl) ?_
                refine lv_iconst (v := i32 (2)) hx hb dL_acts_194 rfl ?_
                refine lv_iload hx hb dL_acts_195 (lv_at hl 2 rfl) ?_
                refine q_imul hx hb dL_acts_197 ?_
                refine p_iald (k := 3) (r := 2) (n := 10) hx hb hK hP hI.a.2.2 rfl rfl (by decide) (by decide) (by omega) (by omega) dL_acts_198 ?_
                refine q_icmp_le (tgt := 215) hx hb ⟨by omega, by omega⟩ (rS _ _ _) dL_acts_199 (by decide) (fun c_155 => (by exfalso; exact h_B ⟨by omega, by omega, by omega⟩)) (fun c_155 => ?_)
                refine lv_iload hx hb dL_acts_202 (lv_at hl 0 rfl) ?_
                refine q_ldc (z := -1000002) hx hb hown hK t_249 rfl dL_acts_204 ?_
                refine q_icmp_ne (tgt := 213) hx hb ⟨by decide, by decide⟩ ⟨by decide, by decide⟩ dL_acts_206 (by decide) (fun c_156 => (by exfalso; omega)) (fun c_156 => ?_)
                refine lv_iconst (v := i32 (1)) hx hb dL_acts_209 rfl ?_
                refine lv_goto (tgt := 214) hx hb dL_acts_210 (by decide) ?_
                subst hQm
                exact q_zret hx hb hr hlocks hP hS (v := 1) (by decide) (by exact ⟨⟨rfl, ek_ad154⟩, hI, hV⟩) (by show 9 ≤ 2970; omega) (by show 793 ≤ 18559; omega) dL_acts_214
              · -- y152 = 0
                refine lv_iconst (v := i32 (1)) hx hb dL_acts_181 rfl ?_
                refine lv_goto (tgt := 186) hx hb dL_acts_182 (by decide) ?_
                refine W.eq (g2 := F0 m 186 ls (Value.int (i32 (b2 (True))) :: Value.int (i32 (1 + y114)) :: Value.int (i32 (y113)) :: Value.ref (ad 1 0) :: [])) (by simp only [b2_t trivial, b2_f not_false] <;> rfl) ?_
                refine q_callH2 (As := [.ref (ad 1 0), .int (i32 (y113)), .int (i32 (1 + y114)), .int (i32 (b2 (True)))]) (rest := []) hx hb hml hl.1 hown hK hZ hP hS (c_L_loom l g base ad S y113 (1 + y114) True hfl hI.wc ⟨by omega, by omega⟩ ⟨by omega, by omega⟩ hI.hcf hI.hpf) t_442 t_14 t_444 t_443 f_yL_loom ⟨Nat.le_of_ble_eq_true rfl, Nat.le_of_ble_eq_true rfl⟩ rfl rfl (Nat.le_of_ble_eq_true rfl) dL_acts_186 (c2 := 9) (s2 := 793) ⟨by first | rfl | (dsimp only; omega), by first | rfl | (dsimp only; omega)⟩ ⟨by show 9 ≤ 2970; omega, by show 793 ≤ 18559; omega⟩ (fun rr ad' S' H locs hQ hP hS => ?_)
                obtain ⟨⟨hr9, ek9⟩, hQ⟩ := hQ
                have hc9_1 : ceC S y113 := hI.ce.mpr (by omega)
                have hc9_2 : ¬ (1 ≤ (1 + y114) ∧ (1 + y114) ≤ 4 ∧ (1 + y114) ≤ S (4 + y113.toNat) 0 0) := h_B
                have hs9 := (hQ.resolve_right (fun y9 => hc9_2 y9.1.2.1)).2
                subst hr9
                rw [hs9] at hP
                obtain ⟨ad157, had157⟩ : ∃ a9 : Nat → Nat → Nat, a9 = ad' := ⟨_, rfl⟩
                rw [← had157] at ek9 hP
                have ek_ad157 : ∀ x q, x < 4 → ad157 x q = ad x q := fun x q h => (ek9 x q h)
                have el_ad157 : ∀ x q, x < 4 → ad157 x q = ad x q := ek9
                have hl : lv_has ls 13 [(9, .int (i32 (1 + y114))), (8, .int (i32 (y113))), (7, .int (i32 (y1))), (0, .ref (ad157 1 0)), (1, .ref (ad157 3 1)), (2, .ref (ad157 3 2)), (3, .ref (ad157 3 3)), (4, .ref (ad157 3 4)), (5, .int (i32 (x))), (6, .int (i32 (y)))] := by
                  have t9 := hl
                  rw [← el_ad157 1 0 (by decide), ← el_ad157 3 1 (by decide), ← el_ad157 3 2 (by decide), ← el_ad157 3 3 (by decide), ← el_ad157 3 4 (by decide)] at t9
                  exact t9
                skip
                refine q_nm (lv_2 hc9_1 hc9_2) ?_
                refine lv_istore (lv' := [(10, .int (i32 (-1000002))), (9, .int (i32 (1 + y114))), (8, .int (i32 (y113))), (7, .int (i32 (y1))), (0, .ref (ad157 1 0)), (1, .ref (ad157 3 1)), (2, .ref (ad157 3 2)), (3, .ref (ad157 3 3)), (4, .ref (ad157 3 4)), (5, .int (i32 (x))), (6, .int (i32 (y)))]) hx hb dL_acts_189 hl (by decide) rfl (fun ls hl => ?_)
                refine lv_iload hx hb dL_acts_191 (lv_at hl 1 rfl) ?_
                refine lv_aload_n hx hb dL_acts_193 rfl (lv_at hl 6 rfl) ?_
                refine lv_iconst (v := i32 (2)) hx hb dL_acts_194 rfl ?_
                refine lv_iload hx hb dL_acts_195 (lv_at hl 2 rfl) ?_
                refine q_imul hx hb dL_acts_197 ?_
                refine p_iald (k := 3) (r := 2) (n := 10) hx hb hK hP hI.a.2.2 rfl rfl (by decide) (by decide) (by omega) (by omega) dL_acts_198 ?_
                refine q_icmp_le (tgt := 215) hx hb ⟨by omega, by omega⟩ (rS _ _ _) dL_acts_199 (by decide) (fun c_158 => (by exfalso; exact h_B ⟨by omega, by omega, by omega⟩)) (fun c_158 => ?_)
                refine lv_iload hx hb dL_acts_202 (lv_at hl 0 rfl) ?_
                refine q_ldc (z := -1000002) hx hb hown hK t_249 rfl dL_acts_204 ?_
                refine q_icmp_ne (tgt := 213) hx hb ⟨by decide, by decide⟩ ⟨by decide, by decide⟩ dL_acts_206 (by decide) (fun c_159 => (by exfalso; omega)) (fun c_159 => ?_)
                refine lv_iconst (v := i32 (1)) hx hb dL_acts_209 rfl ?_
                refine lv_goto (tgt := 214) hx hb dL_acts_210 (by decide) ?_
                subst hQm
                exact q_zret hx hb hr hlocks hP hS (v := 1) (by decide) (by exact ⟨⟨rfl, ek_ad157⟩, hI, hV⟩) (by show 9 ≤ 2970; omega) (by show 793 ≤ 18559; omega) dL_acts_214
      · -- y1 = 3
        refine lv_aload_n hx hb dL_acts_40 rfl (lv_at hl 2 rfl) ?_
        refine lv_iconst (v := i32 (1)) hx hb dL_acts_41 rfl ?_
        refine p_iald (k := 3) (r := 1) (n := 4) hx hb hK hP hI.a.2.2 rfl rfl (by decide) (by decide) (by omega) (by omega) dL_acts_42 ?_
        refine lv_bipush (v := i32 (20)) hx hb dL_acts_43 (by decide) ?_
        refine q_icmp_ge (tgt := 131) hx hb (rS _ _ _) ⟨by decide, by decide⟩ dL_acts_45 (by decide) (fun c_160 => ?_) (fun c_160 => ?_)
        · -- 20 ≤ (S 3 1 1)
          refine lv_iload hx hb dL_acts_131 (lv_at hl 0 rfl) ?_
          refine lv_iconst (v := i32 (4)) hx hb dL_acts_133 rfl ?_
          refine q_icmp_eq (tgt := 143) hx hb ⟨by omega, by omega⟩ ⟨by decide, by decide⟩ dL_acts_134 (by decide) (fun c_161 => ?_) (fun c_161 => ?_)
          · -- y1 = 4
            refine lv_iload hx hb dL_acts_143 (lv_at hl 6 rfl) ?_
            refine lv_iconst (v := i32 (4)) hx hb dL_acts_145 rfl ?_
            refine lv_ishr hx hb dL_acts_146 ?_
            obtain ⟨z162, rz162, hz162⟩ := i32_of (i32 (x) >>> (i32 (4) &&& 31))
            rw [hz162]
            refine lv_aload_n hx hb dL_acts_147 rfl (lv_at hl 2 rfl) ?_
            refine lv_iconst (v := i32 (0)) hx hb dL_acts_148 rfl ?_
            refine p_iald (k := 3) (r := 1) (n := 4) hx hb hK hP hI.a.2.2 rfl rfl (by decide) (by decide) (by omega) (by omega) dL_acts_149 ?_
            refine q_callS2 (As := [.int (i32 (z162)), .int (i32 (S 3 1 0))]) (rest := []) hx hb hml hl.1 hown hK hZ hP hS (c_L_low l g base ad S z162 (S 3 1 0) rz162 (by omega)) t_122 (q_callB hK 121 14 123 t_121 t_14 t_123 f_yL_low ⟨Nat.le_of_ble_eq_true rfl, Nat.le_of_ble_eq_true rfl⟩) rfl rfl (Nat.le_of_ble_eq_true rfl) dL_acts_150 (c2 := 0) (s2 := 0) ⟨by first | rfl | (dsimp only; omega), by first | rfl | (dsimp only; omega)⟩ ⟨by show 0 ≤ 2970; omega, by show 0 ≤ 18559; omega⟩ (q_an (fun H locs hP hS => ?_))
            obtain ⟨y163, hy163⟩ : ∃ y99 : Int, loF z162 (S 3 1 0) = y99 := ⟨_, rfl⟩
            have by163 := lo_b z162 (show 1 ≤ (S 3 1 0) by omega)
            rw [hy163] at by163
            refine q_nm hy163 ?_
            refine lv_istore (lv' := [(8, .int (i32 (y163))), (7, .int (i32 (y1))), (0, .ref (ad 1 0)), (1, .ref (ad 3 1)), (2, .ref (ad 3 2)), (3, .ref (ad 3 3)), (4, .ref (ad 3 4)), (5, .int (i32 (x))), (6, .int (i32 (y)))]) hx hb dL_acts_153 hl (by decide) rfl (fun ls hl => ?_)
            refine lv_iconst (v := i32 (1)) hx hb dL_acts_155 rfl ?_
            refine lv_iload hx hb dL_acts_156 (lv_at hl 8 rfl) ?_
            refine lv_iconst (v := i32 (4)) hx hb dL_acts_158 rfl ?_
            refine q_callS2 (As := [.int (i32 (y)), .int (i32 (4))]) (rest := [.int (i32 (1))]) hx hb hml hl.1 hown hK hZ hP hS (c_L_low l g base ad S y ((4 : Int)) hrn2 (by omega)) t_122 (q_callB hK 121 14 123 t_121 t_14 t_123 f_yL_low ⟨Nat.le_of_ble_eq_true rfl, Nat.le_of_ble_eq_true rfl⟩) rfl rfl (Nat.le_of_ble_eq_true rfl) dL_acts_159 (c2 := 0) (s2 := 0) ⟨by first | rfl | (dsimp only; omega), by first | rfl | (dsimp only; omega)⟩ ⟨by show 0 ≤ 2970; omega, by show 0 ≤ 18559; omega⟩ (q_an (fun H locs hP hS => ?_))
            obtain ⟨y164, hy164⟩ : ∃ y99 : Int, loF y ((4 : Int)) = y99 := ⟨_, rfl⟩
            have by164 := lo_b y (show 1 ≤ ((4 : Int)) by omega)
            rw [hy164] at by164
            refine q_nm hy164 ?_
            refine q_iadd hx hb dL_acts_162 ?_
            refine lv_istore (lv' := [(9, .int (i32 (1 + y164))), (8, .int (i32 (y163))), (7, .int (i32 (y1))), (0, .ref (ad 1 0)), (1, .ref (ad 3 1)), (2, .ref (ad 3 2)), (3, .ref (ad 3 3)), (4, .ref (ad 3 4)), (5, .int (i32 (x))), (6, .int (i32 (y)))]) hx hb dL_acts_163 hl (by decide) rfl (fun ls hl => ?_)
            by_cases h_B : 1 ≤ 1 + y164 ∧ 1 + y164 ≤ 4 ∧ 1 + y164 ≤ S (4 + Int.toNat y163) 0 0
            · skip
              by_cases h_C : 1 ≤ S (4 + Int.toNat y163) 0 1 ∧ S 1 0 6 < 20
              · skip
                obtain ⟨hd1, hd2, hd3⟩ := vd y163 (by omega) (by omega)
                obtain ⟨⟨-, hcw1, hcw2⟩, -⟩ := hI.k.2.2 y163 (by omega) (by omega)
                refine lv_aload_n hx hb dL_acts_165 rfl (lv_at hl 3 rfl) ?_
                refine lv_iload hx hb dL_acts_166 (lv_at hl 1 rfl) ?_
                refine lv_iload hx hb dL_acts_168 (lv_at hl 0 rfl) ?_
                refine lv_iload hx hb dL_acts_170 (lv_at hl 9 rfl) ?_
                refine lv_iconst (v := i32 (2)) hx hb dL_acts_172 rfl ?_
                refine lv_ishr hx hb dL_acts_173 ?_
                obtain ⟨z165, rz165, hz165⟩ := i32_of (i32 (y) >>> (i32 (2) &&& 31))
                rw [hz165]
                refine lv_iconst (v := i32 (2)) hx hb dL_acts_174 rfl ?_
                refine q_callS2 (As := [.int (i32 (z165)), .int (i32 (2))]) (rest := [.int (i32 (1 + y164)), .int (i32 (y163)), .ref (ad 1 0)]) hx hb hml hl.1 hown hK hZ hP hS (c_L_low l g base ad S z165 ((2 : Int)) rz165 (by omega)) t_122 (q_callB hK 121 14 123 t_121 t_14 t_123 f_yL_low ⟨Nat.le_of_ble_eq_true rfl, Nat.le_of_ble_eq_true rfl⟩) rfl rfl (Nat.le_of_ble_eq_true rfl) dL_acts_175 (c2 := 0) (s2 := 0) ⟨by first | rfl | (dsimp only; omega), by first | rfl | (dsimp only; omega)⟩ ⟨by show 0 ≤ 2970; omega, by show 0 ≤ 18559; omega⟩ (q_an (fun H locs hP hS => ?_))
                obtain ⟨y166, hy166⟩ : ∃ y99 : Int, loF z165 ((2 : Int)) = y99 := ⟨_, rfl⟩
                have by166 := lo_b z165 (show 1 ≤ ((2 : Int)) by omega)
                rw [hy166] at by166
                refine q_nm hy166 ?_
                refine q_if_ne (tgt := 185) hx hb ⟨by omega, by omega⟩ dL_acts_178 (by decide) (fun c_167 => ?_) (fun c_167 => ?_)
                · -- y166 ≠ 0
                  refine lv_iconst (v := i32 (0)) hx hb dL_acts_185 rfl ?_
                  have w9 := IV_loom (mir := False) hI (hI.ce.mpr (show 0 ≤ y163 ∧ y163 < S 1 0 3 by omega)) h_B h_C
                  refine W.eq (g2 := F0 m 186 ls (Value.int (i32 (b2 (False))) :: Value.int (i32 (1 + y164)) :: Value.int (i32 (y163)) :: Value.ref (ad 1 0) :: [])) (by simp only [b2_t trivial, b2_f not_false] <;> rfl) ?_
                  refine q_callH2 (As := [.ref (ad 1 0), .int (i32 (y163)), .int (i32 (1 + y164)), .int (i32 (b2 (False)))]) (rest := []) hx hb hml hl.1 hown hK hZ hP hS (c_L_loom l g base ad S y163 (1 + y164) False hfl hI.wc ⟨by omega, by omega⟩ ⟨by omega, by omega⟩ hI.hcf hI.hpf) t_442 t_14 t_444 t_443 f_yL_loom ⟨Nat.le_of_ble_eq_true rfl, Nat.le_of_ble_eq_true rfl⟩ rfl rfl (Nat.le_of_ble_eq_true rfl) dL_acts_186 (c2 := 9) (s2 := 793) ⟨by first | rfl | (dsimp only; omega), by first | rfl | (dsimp only; omega)⟩ ⟨by show 9 ≤ 2970; omega, by show 793 ≤ 18559; omega⟩ (fun rr ad' S' H locs hQ hP hS => ?_)
                  have hc9 : (ceC S y163) ∧ (1 ≤ (1 + y164) ∧ (1 + y164) ≤ 4 ∧ (1 + y164) ≤ S (4 + y163.toNat) 0 0) ∧ (1 ≤ S (4 + y163.toNat) 0 1 ∧ S 1 0 6 < 20) := ⟨hI.ce.mpr (by omega), h_B, h_C⟩
                  obtain ⟨⟨hr9, ek9⟩, hQ⟩ := hQ
                  have hs9 := (hQ.resolve_left (fun y9 => y9.1 hc9)).2
                  subst hr9
                  rw [hs9] at hP
                  refine q_nm (b := S 1 0 6) ((lv_0 hc9.1 hc9.2.1 hc9.2.2).trans (rfl)) ?_
                  obtain ⟨ad168, had168⟩ : ∃ a9 : Nat → Nat → Nat, a9 = ad' := ⟨_, rfl⟩
                  rw [← had168] at ek9 hP
                  have ek_ad168 : ∀ x q, x < 4 → ad168 x q = ad x q := fun x q h => (ek9 x q h)
                  have el_ad168 : ∀ x q, x < 4 → ad168 x q = ad x q := ek9
                  have hl : lv_has ls 13 [(9, .int (i32 (1 + y164))), (8, .int (i32 (y163))), (7, .int (i32 (y1))), (0, .ref (ad168 1 0)), (1, .ref (ad168 3 1)), (2, .ref (ad168 3 2)), (3, .ref (ad168 3 3)), (4, .ref (ad168 3 4)), (5, .int (i32 (x))), (6, .int (i32 (y)))] := by
                    have t9 := hl
                    rw [← el_ad168 1 0 (by decide), ← el_ad168 3 1 (by decide), ← el_ad168 3 2 (by decide), ← el_ad168 3 3 (by decide), ← el_ad168 3 4 (by decide)] at t9
                    exact t9
                  skip
                  generalize eS169 : lmS S y163 (1 + y164) False = S169 at hP
                  have rS169 : ∀ (a1 b1 : Nat) (i1 : Int), rng (S169 a1 b1 i1) := fun a1 b1 i1 => hP.rg a1 b1 i1
                  have ivS169 : IV S169 := by rw [← eS169]; exact w9.1
                  have h3S169 : ∀ (b1 : Nat) (i1 : Int), S169 3 b1 i1 = S 3 b1 i1 := by rw [← eS169]; exact fun b i => w9.2.1.2.2 3 b i (by omega) (by omega)
                  rw [eS169] at w9
                  obtain ⟨-, ⟨g6, g7, fr9⟩, gtr, gln⟩ := w9
                  refine lv_istore (lv' := [(10, .int (i32 (S 1 0 6))), (9, .int (i32 (1 + y164))), (8, .int (i32 (y163))), (7, .int (i32 (y1))), (0, .ref (ad168 1 0)), (1, .ref (ad168 3 1)), (2, .ref (ad168 3 2)), (3, .ref (ad168 3 3)), (4, .ref (ad168 3 4)), (5, .int (i32 (x))), (6, .int (i32 (y)))]) hx hb dL_acts_189 hl (by decide) rfl (fun ls hl => ?_)
                  refine lv_iload hx hb dL_acts_191 (lv_at hl 1 rfl) ?_
                  refine lv_aload_n hx hb dL_acts_193 rfl (lv_at hl 6 rfl) ?_
                  refine lv_iconst (v := i32 (2)) hx hb dL_acts_194 rfl ?_
                  refine lv_iload hx hb dL_acts_195 (lv_at hl 2 rfl) ?_
                  refine q_imul hx hb dL_acts_197 ?_
                  refine p_iald (k := 3) (r := 2) (n := 10) hx hb hK hP ivS169.a.2.2 rfl rfl (by decide) (by decide) (by omega) (by omega) dL_acts_198 ?_
                  refine q_nm (show S169 3 2 (2 * y163) = S 3 2 (2 * y163) from by rw [h3S169]) ?_
                  refine q_icmp_le (tgt := 215) hx hb ⟨by omega, by omega⟩ (rS _ _ _) dL_acts_199 (by decide) (fun c_170 => ?_) (fun c_170 => (by exfalso; omega))
                  refine lv_aload_n hx hb dL_acts_215 rfl (lv_at hl 6 rfl) ?_
                  refine lv_iconst (v := i32 (2)) hx hb dL_acts_216 rfl ?_
                  refine lv_iload hx hb dL_acts_217 (lv_at hl 2 rfl) ?_
                  refine q_imul hx hb dL_acts_219 ?_
                  refine lv_iconst (v := i32 (1)) hx hb dL_acts_220 rfl ?_
                  refine q_iadd hx hb dL_acts_221 ?_
                  refine p_iald (k := 3) (r := 2) (n := 10) hx hb hK hP ivS169.a.2.2 rfl rfl (by decide) (by decide) (by omega) (by omega) dL_acts_222 ?_
                  refine q_nm (show S169 3 2 ((2 * y163) + 1) = S 3 2 ((2 * y163) + 1) from by rw [h3S169]) ?_
                  refine q_if_eq (tgt := 234) hx hb (rS _ _ _) dL_acts_223 (by decide) (fun c_171 => (by exfalso; omega)) (fun c_171 => ?_)
                  refine lv_aload_n hx hb dL_acts_226 rfl (lv_at hl 5 rfl) ?_
                  refine lv_iconst (v := i32 (2)) hx hb dL_acts_227 rfl ?_
                  refine p_iald (k := 3) (r := 1) (n := 4) hx hb hK hP ivS169.a.2.2 rfl rfl (by decide) (by decide) (by omega) (by omega) dL_acts_228 ?_
                  refine q_nm (show S169 3 1 2 = S 3 1 2 from by rw [h3S169]) ?_
                  refine lv_bipush (v := i32 (20)) hx hb dL_acts_229 (by decide) ?_
                  refine q_icmp_ne (tgt := 247) hx hb (rS _ _ _) ⟨by decide, by decide⟩ dL_acts_231 (by decide) (fun c_172 => ?_) (fun c_172 => (by exfalso; omega))
                  refine lv_aload_n hx hb dL_acts_247 rfl (lv_at hl 5 rfl) ?_
                  refine lv_iconst (v := i32 (2)) hx hb dL_acts_248 rfl ?_
                  refine lv_dup2_11 hx hb dL_acts_249 rfl rfl ?_
                  refine p_iald (k := 3) (r := 1) (n := 4) hx hb hK hP ivS169.a.2.2 rfl rfl (by decide) (by decide) (by omega) (by omega) dL_acts_250 ?_
                  refine q_nm (show S169 3 1 2 = S 3 1 2 from by rw [h3S169]) ?_
                  refine lv_iconst (v := i32 (1)) hx hb dL_acts_251 rfl ?_
                  refine q_iadd hx hb dL_acts_252 ?_
                  refine p_iast (k := 3) (r := 1) (n := 4) hx hb hK hP hS ivS169.a.2.2 rfl rfl (by decide) (by decide) (by omega) (by omega) ⟨by omega, by omega⟩ dL_acts_253 (fun H locs hP hS => ?_)
                  generalize eS173 : st S169 3 1 2 ((S 3 1 2) + 1) = S173 at hP
                  have qS173 : ∀ (a1 b1 : Nat) (i1 : Int), S173 a1 b1 i1 = if a1 = 3 ∧ b1 = 1 ∧ i1 = 2 then (S 3 1 2) + 1 else S169 a1 b1 i1 := fun a1 b1 i1 => by rw [← eS173]; exact st_at _ _ _ _ _ _ _ _
                  have rS173 : ∀ (a1 b1 : Nat) (i1 : Int), rng (S173 a1 b1 i1) := fun a1 b1 i1 => hP.rg a1 b1 i1
                  have aS173_1 : S173 1 0 (-1) = 1 := by rw [qS173, if_neg (by omega)]; exact ivS169.a.1
                  have aS173_2 : S173 2 0 (-1) = 1 := by rw [qS173, if_neg (by omega)]; exact ivS169.a.2.1
                  have aS173_3 : S173 3 0 (-1) = 1 := by rw [qS173, if_neg (by omega)]; exact ivS169.a.2.2
                  have ivS173 : IV S173 := by rw [← eS173]; exact IV_3 ivS169 (by decide)
                  have en : ∀ a : Nat, a ≠ 3 → S173 a = S169 a := fun a h => fe (fun b i => by rw [qS173, if_neg (by omega)])
                  have kN2 : peC S173 (S 1 0 6) := ⟨hp20.1, by omega, by rw [en 1 (by decide)]; exact g7⟩
                  obtain ⟨na1, na2, na3⟩ := ob_k (en (10 + Int.toNat (S 1 0 6)) (by omega))
                  have lv9 : LV S173 := LV_n hV hI.k.1.2 (fun b i h => by rw [qS173, if_neg (by omega), fr9 _ _ _ (by omega) (by omega)]) (by rw [qS173, if_pos ⟨rfl, rfl, rfl⟩, en 1 (by decide), g6, v2]) (by rw [en 1 (by decide), fr9 _ _ _ (by omega) (by omega)]) (by rw [en 2 (by decide)]; exact fe (fun b i => fr9 _ _ _ (by omega) (by omega))) (fun a h1 h2 => by rw [en a (by omega)]; exact fe (fun b i => fr9 _ _ _ (by omega) (by omega)))
                  have hcc : ceC S173 y163 := ivS173.ce.mpr (by rw [en 1 (by decide), fr9 _ _ _ (by omega) (by omega)]; omega)
                  have hm0 : 0 ≤ (S 3 2 (2 * y163)) * (S 3 2 ((2 * y163) + 1)) := Int.mul_nonneg (by omega) (by omega)
                  have hm1 : (S 3 2 (2 * y163)) * (S 3 2 ((2 * y163) + 1)) ≤ 240 := mul240 (by omega) (by omega) (by omega) (by omega)
                  refine lv_iload hx hb dL_acts_254 (lv_at hl 0 rfl) ?_
                  refine lv_aload_n hx hb dL_acts_256 rfl (lv_at hl 5 rfl) ?_
                  refine lv_iconst (v := i32 (2)) hx hb dL_acts_257 rfl ?_
                  refine p_iald (k := 3) (r := 1) (n := 4) hx hb hK hP aS173_3 rfl rfl (by decide) (by decide) (by omega) (by omega) dL_acts_258 ?_
                  refine q_nm (show S173 3 1 2 = (S 3 1 2) + 1 from by rw [qS173, if_pos ⟨rfl, rfl, rfl⟩]) ?_
                  refine lv_iconst (v := i32 (1)) hx hb dL_acts_259 rfl ?_
                  refine q_isub hx hb dL_acts_260 ?_
                  refine q_icmp_ne (tgt := 314) hx hb (rS _ _ _) ⟨by omega, by omega⟩ dL_acts_261 (by decide) (fun c_174 => (by exfalso; omega)) (fun c_174 => ?_)
                  refine lv_aload_n hx hb dL_acts_264 rfl (lv_at hl 4 rfl) ?_
                  refine lv_iload hx hb dL_acts_265 (lv_at hl 0 rfl) ?_
                  refine lv_iload hx hb dL_acts_267 (lv_at hl 2 rfl) ?_
                  refine q_callH2 (As := [.ref (ad168 1 0), .int (i32 (S 1 0 6)), .int (i32 (y163))]) (rest := []) hx hb hml hl.1 hown hK hZ hP hS (c_L_likeness l g base ad168 S173 (S 1 0 6) y163 hfl ivS173.wc (rS _ _ _) ⟨by omega, by omega⟩) t_504 t_14 t_506 t_505 f_yL_likeness ⟨Nat.le_of_ble_eq_true rfl, Nat.le_of_ble_eq_true rfl⟩ rfl rfl (Nat.le_of_ble_eq_true rfl) dL_acts_269 (c2 := 11) (s2 := 805) ⟨by first | rfl | (dsimp only; omega), by first | rfl | (dsimp only; omega)⟩ ⟨by show 11 ≤ 2970; omega, by show 805 ≤ 18559; omega⟩ (q_an (fun H locs hP hS => ?_))
                  refine q_nm (b := S 3 2 (2 * y163) * S 3 2 ((2 * y163) + 1)) ((lv_0 ⟨kN2, hcc⟩ trivial trivial).trans (by rw [ln_k (en _ (by omega)) (en _ (by omega)), gln, ← hd1, ← hd3])) ?_
                  refine lv_aload_n hx hb dL_acts_272 rfl (lv_at hl 6 rfl) ?_
                  refine lv_iconst (v := i32 (2)) hx hb dL_acts_273 rfl ?_
                  refine lv_iload hx hb dL_acts_274 (lv_at hl 2 rfl) ?_
                  refine q_imul hx hb dL_acts_276 ?_
                  refine p_iald (k := 3) (r := 2) (n := 10) hx hb hK hP aS173_3 rfl rfl (by decide) (by decide) (by omega) (by omega) dL_acts_277 ?_
                  refine q_nm (show S173 3 2 (2 * y163) = S 3 2 (2 * y163) from by rw [qS173, if_neg (by omega), h3S169]) ?_
                  refine lv_aload_n hx hb dL_acts_278 rfl (lv_at hl 6 rfl) ?_
                  refine lv_iconst (v := i32 (2)) hx hb dL_acts_279 rfl ?_
                  refine lv_iload hx hb dL_acts_280 (lv_at hl 2 rfl) ?_
                  refine q_imul hx hb dL_acts_282 ?_
                  refine lv_iconst (v := i32 (1)) hx hb dL_acts_283 rfl ?_
                  refine q_iadd hx hb dL_acts_284 ?_
                  refine p_iald (k := 3) (r := 2) (n := 10) hx hb hK hP aS173_3 rfl rfl (by decide) (by decide) (by omega) (by omega) dL_acts_285 ?_
                  refine q_nm (show S173 3 2 ((2 * y163) + 1) = S 3 2 ((2 * y163) + 1) from by rw [qS173, if_neg (by omega), h3S169]) ?_
                  refine q_imul hx hb dL_acts_286 ?_
                  refine q_icmp_ne (tgt := 314) hx hb ⟨by omega, by omega⟩ ⟨by omega, by omega⟩ dL_acts_287 (by decide) (fun c_175 => (by exfalso; omega)) (fun c_175 => ?_)
                  refine lv_aload_n hx hb dL_acts_290 rfl (lv_at hl 4 rfl) ?_
                  refine lv_iload hx hb dL_acts_291 (lv_at hl 0 rfl) ?_
                  refine q_callH2 (As := [.ref (ad168 1 0), .int (i32 (S 1 0 6))]) (rest := []) hx hb hml hl.1 hown hK hZ hP hS (c_L_isTrue l g base ad168 S173 (S 1 0 6) hfl ivS173.wc (rS _ _ _)) t_516 t_14 t_518 t_517 f_yL_isTrue ⟨Nat.le_of_ble_eq_true rfl, Nat.le_of_ble_eq_true rfl⟩ rfl rfl (Nat.le_of_ble_eq_true rfl) dL_acts_293 (c2 := 12) (s2 := 811) ⟨by first | rfl | (dsimp only; omega), by first | rfl | (dsimp only; omega)⟩ ⟨by show 12 ≤ 2970; omega, by show 811 ≤ 18559; omega⟩ (q_an (fun H locs hP hS => ?_))
                  refine q_nm (b := 1) ((lv_0 kN2 trivial trivial).trans (b2_t (na3.mpr gtr))) ?_
                  refine lv_iconst (v := i32 (1)) hx hb dL_acts_296 rfl ?_
                  refine q_icmp_ne (tgt := 314) hx hb ⟨by decide, by decide⟩ ⟨by decide, by decide⟩ dL_acts_297 (by decide) (fun c_176 => (by exfalso; omega)) (fun c_176 => ?_)
                  refine lv_aload_n hx hb dL_acts_300 rfl (lv_at hl 4 rfl) ?_
                  refine lv_aload_n hx hb dL_acts_301 rfl (lv_at hl 7 rfl) ?_
                  refine lv_iload hx hb dL_acts_302 (lv_at hl 0 rfl) ?_
                  refine q_callS2 (As := [.ref (ad168 1 0), .ref (ad168 3 3), .int (i32 (S 1 0 6))]) (rest := []) hx hb hml hl.1 hown hK hZ hP hS (c_L_isPiece l g base ad168 S173 (S 1 0 6) hfl ivS173 kN2 lv9.2.2.2 (rS _ _ _)) t_329 (q_callB hK 328 14 330 t_328 t_14 t_330 f_yL_isPiece ⟨Nat.le_of_ble_eq_true rfl, Nat.le_of_ble_eq_true rfl⟩) rfl rfl (Nat.le_of_ble_eq_true rfl) dL_acts_304 (c2 := 1472) (s2 := 9571) ⟨by first | rfl | (dsimp only; omega), by first | rfl | (dsimp only; omega)⟩ ⟨by show 1472 ≤ 2970; omega, by show 9571 ≤ 18559; omega⟩ (q_an (fun H locs hP hS => ?_))
                  refine q_if_eq (tgt := 314) hx hb ⟨by decide, by decide⟩ dL_acts_307 (by decide) (fun h => by omega) (fun _ => ?_)
                  refine lv_iconst (v := i32 (1)) hx hb dL_acts_310 rfl ?_
                  refine lv_goto (tgt := 315) hx hb dL_acts_311 (by decide) ?_
                  subst hQm
                  exact q_zret hx hb hr hlocks hP hS (v := 1) (by decide) (by exact ⟨⟨rfl, ek_ad168⟩, ivS173, lv9⟩) (by show 1472 ≤ 2970; omega) (by show 9571 ≤ 18559; omega) dL_acts_315
                · -- y166 = 0
                  refine lv_iconst (v := i32 (1)) hx hb dL_acts_181 rfl ?_
                  refine lv_goto (tgt := 186) hx hb dL_acts_182 (by decide) ?_
                  have w9 := IV_loom (mir := True) hI (hI.ce.mpr (show 0 ≤ y163 ∧ y163 < S 1 0 3 by omega)) h_B h_C
                  refine W.eq (g2 := F0 m 186 ls (Value.int (i32 (b2 (True))) :: Value.int (i32 (1 + y164)) :: Value.int (i32 (y163)) :: Value.ref (ad 1 0) :: [])) (by simp only [b2_t trivial, b2_f not_false] <;> rfl) ?_
                  refine q_callH2 (As := [.ref (ad 1 0), .int (i32 (y163)), .int (i32 (1 + y164)), .int (i32 (b2 (True)))]) (rest := []) hx hb hml hl.1 hown hK hZ hP hS (c_L_loom l g base ad S y163 (1 + y164) True hfl hI.wc ⟨by omega, by omega⟩ ⟨by omega, by omega⟩ hI.hcf hI.hpf) t_442 t_14 t_444 t_443 f_yL_loom ⟨Nat.le_of_ble_eq_true rfl, Nat.le_of_ble_eq_true rfl⟩ rfl rfl (Nat.le_of_ble_eq_true rfl) dL_acts_186 (c2 := 9) (s2 := 793) ⟨by first | rfl | (dsimp only; omega), by first | rfl | (dsimp only; omega)⟩ ⟨by show 9 ≤ 2970; omega, by show 793 ≤ 18559; omega⟩ (fun rr ad' S' H locs hQ hP hS => ?_)
                  have hc9 : (ceC S y163) ∧ (1 ≤ (1 + y164) ∧ (1 + y164) ≤ 4 ∧ (1 + y164) ≤ S (4 + y163.toNat) 0 0) ∧ (1 ≤ S (4 + y163.toNat) 0 1 ∧ S 1 0 6 < 20) := ⟨hI.ce.mpr (by omega), h_B, h_C⟩
                  obtain ⟨⟨hr9, ek9⟩, hQ⟩ := hQ
                  have hs9 := (hQ.resolve_left (fun y9 => y9.1 hc9)).2
                  subst hr9
                  rw [hs9] at hP
                  refine q_nm (b := S 1 0 6) ((lv_0 hc9.1 hc9.2.1 hc9.2.2).trans (rfl)) ?_
                  obtain ⟨ad177, had177⟩ : ∃ a9 : Nat → Nat → Nat, a9 = ad' := ⟨_, rfl⟩
                  rw [← had177] at ek9 hP
                  have ek_ad177 : ∀ x q, x < 4 → ad177 x q = ad x q := fun x q h => (ek9 x q h)
                  have el_ad177 : ∀ x q, x < 4 → ad177 x q = ad x q := ek9
                  have hl : lv_has ls 13 [(9, .int (i32 (1 + y164))), (8, .int (i32 (y163))), (7, .int (i32 (y1))), (0, .ref (ad177 1 0)), (1, .ref (ad177 3 1)), (2, .ref (ad177 3 2)), (3, .ref (ad177 3 3)), (4, .ref (ad177 3 4)), (5, .int (i32 (x))), (6, .int (i32 (y)))] := by
                    have t9 := hl
                    rw [← el_ad177 1 0 (by decide), ← el_ad177 3 1 (by decide), ← el_ad177 3 2 (by decide), ← el_ad177 3 3 (by decide), ← el_ad177 3 4 (by decide)] at t9
                    exact t9
                  skip
                  generalize eS178 : lmS S y163 (1 + y164) True = S178 at hP
                  have rS178 : ∀ (a1 b1 : Nat) (i1 : Int), rng (S178 a1 b1 i1) := fun a1 b1 i1 => hP.rg a1 b1 i1
                  have ivS178 : IV S178 := by rw [← eS178]; exact w9.1
                  have h3S178 : ∀ (b1 : Nat) (i1 : Int), S178 3 b1 i1 = S 3 b1 i1 := by rw [← eS178]; exact fun b i => w9.2.1.2.2 3 b i (by omega) (by omega)
                  rw [eS178] at w9
                  obtain ⟨-, ⟨g6, g7, fr9⟩, gtr, gln⟩ := w9
                  refine lv_istore (lv' := [(10, .int (i32 (S 1 0 6))), (9, .int (i32 (1 + y164))), (8, .int (i32 (y163))), (7, .int (i32 (y1))), (0, .ref (ad177 1 0)), (1, .ref (ad177 3 1)), (2, .ref (ad177 3 2)), (3, .ref (ad177 3 3)), (4, .ref (ad177 3 4)), (5, .int (i32 (x))), (6, .int (i32 (y)))]) hx hb dL_acts_189 hl (by decide) rfl (fun ls hl => ?_)
                  refine lv_iload hx hb dL_acts_191 (lv_at hl 1 rfl) ?_
                  refine lv_aload_n hx hb dL_acts_193 rfl (lv_at hl 6 rfl) ?_
                  refine lv_iconst (v := i32 (2)) hx hb dL_acts_194 rfl ?_
                  refine lv_iload hx hb dL_acts_195 (lv_at hl 2 rfl) ?_
                  refine q_imul hx hb dL_acts_197 ?_
                  refine p_iald (k := 3) (r := 2) (n := 10) hx hb hK hP ivS178.a.2.2 rfl rfl (by decide) (by decide) (by omega) (by omega) dL_acts_198 ?_
                  refine q_nm (show S178 3 2 (2 * y163) = S 3 2 (2 * y163) from by rw [h3S178]) ?_
                  refine q_icmp_le (tgt := 215) hx hb ⟨by omega, by omega⟩ (rS _ _ _) dL_acts_199 (by decide) (fun c_179 => ?_) (fun c_179 => (by exfalso; omega))
                  refine lv_aload_n hx hb dL_acts_215 rfl (lv_at hl 6 rfl) ?_
                  refine lv_iconst (v := i32 (2)) hx hb dL_acts_216 rfl ?_
                  refine lv_iload hx hb dL_acts_217 (lv_at hl 2 rfl) ?_
                  refine q_imul hx hb dL_acts_219 ?_
                  refine lv_iconst (v := i32 (1)) hx hb dL_acts_220 rfl ?_
                  refine q_iadd hx hb dL_acts_221 ?_
                  refine p_iald (k := 3) (r := 2) (n := 10) hx hb hK hP ivS178.a.2.2 rfl rfl (by decide) (by decide) (by omega) (by omega) dL_acts_222 ?_
                  refine q_nm (show S178 3 2 ((2 * y163) + 1) = S 3 2 ((2 * y163) + 1) from by rw [h3S178]) ?_
                  refine q_if_eq (tgt := 234) hx hb (rS _ _ _) dL_acts_223 (by decide) (fun c_180 => (by exfalso; omega)) (fun c_180 => ?_)
                  refine lv_aload_n hx hb dL_acts_226 rfl (lv_at hl 5 rfl) ?_
                  refine lv_iconst (v := i32 (2)) hx hb dL_acts_227 rfl ?_
                  refine p_iald (k := 3) (r := 1) (n := 4) hx hb hK hP ivS178.a.2.2 rfl rfl (by decide) (by decide) (by omega) (by omega) dL_acts_228 ?_
                  refine q_nm (show S178 3 1 2 = S 3 1 2 from by rw [h3S178]) ?_
                  refine lv_bipush (v := i32 (20)) hx hb dL_acts_229 (by decide) ?_
                  refine q_icmp_ne (tgt := 247) hx hb (rS _ _ _) ⟨by decide, by decide⟩ dL_acts_231 (by decide) (fun c_181 => ?_) (fun c_181 => (by exfalso; omega))
                  refine lv_aload_n hx hb dL_acts_247 rfl (lv_at hl 5 rfl) ?_
                  refine lv_iconst (v := i32 (2)) hx hb dL_acts_248 rfl ?_
                  refine lv_dup2_11 hx hb dL_acts_249 rfl rfl ?_
                  refine p_iald (k := 3) (r := 1) (n := 4) hx hb hK hP ivS178.a.2.2 rfl rfl (by decide) (by decide) (by omega) (by omega) dL_acts_250 ?_
                  refine q_nm (show S178 3 1 2 = S 3 1 2 from by rw [h3S178]) ?_
                  refine lv_iconst (v := i32 (1)) hx hb dL_acts_251 rfl ?_
                  refine q_iadd hx hb dL_acts_252 ?_
                  refine p_iast (k := 3) (r := 1) (n := 4) hx hb hK hP hS ivS178.a.2.2 rfl rfl (by decide) (by decide) (by omega) (by omega) ⟨by omega, by omega⟩ dL_acts_253 (fun H locs hP hS => ?_)
                  generalize eS182 : st S178 3 1 2 ((S 3 1 2) + 1) = S182 at hP
                  have qS182 : ∀ (a1 b1 : Nat) (i1 : Int), S182 a1 b1 i1 = if a1 = 3 ∧ b1 = 1 ∧ i1 = 2 then (S 3 1 2) + 1 else S178 a1 b1 i1 := fun a1 b1 i1 => by rw [← eS182]; exact st_at _ _ _ _ _ _ _ _
                  have rS182 : ∀ (a1 b1 : Nat) (i1 : Int), rng (S182 a1 b1 i1) := fun a1 b1 i1 => hP.rg a1 b1 i1
                  have aS182_1 : S182 1 0 (-1) = 1 := by rw [qS182, if_neg (by omega)]; exact ivS178.a.1
                  have aS182_2 : S182 2 0 (-1) = 1 := by rw [qS182, if_neg (by omega)]; exact ivS178.a.2.1
                  have aS182_3 : S182 3 0 (-1) = 1 := by rw [qS182, if_neg (by omega)]; exact ivS178.a.2.2
                  have ivS182 : IV S182 := by rw [← eS182]; exact IV_3 ivS178 (by decide)
                  have en : ∀ a : Nat, a ≠ 3 → S182 a = S178 a := fun a h => fe (fun b i => by rw [qS182, if_neg (by omega)])
                  have kN2 : peC S182 (S 1 0 6) := ⟨hp20.1, by omega, by rw [en 1 (by decide)]; exact g7⟩
                  obtain ⟨na1, na2, na3⟩ := ob_k (en (10 + Int.toNat (S 1 0 6)) (by omega))
                  have lv9 : LV S182 := LV_n hV hI.k.1.2 (fun b i h => by rw [qS182, if_neg (by omega), fr9 _ _ _ (by omega) (by omega)]) (by rw [qS182, if_pos ⟨rfl, rfl, rfl⟩, en 1 (by decide), g6, v2]) (by rw [en 1 (by decide), fr9 _ _ _ (by omega) (by omega)]) (by rw [en 2 (by decide)]; exact fe (fun b i => fr9 _ _ _ (by omega) (by omega))) (fun a h1 h2 => by rw [en a (by omega)]; exact fe (fun b i => fr9 _ _ _ (by omega) (by omega)))
                  have hcc : ceC S182 y163 := ivS182.ce.mpr (by rw [en 1 (by decide), fr9 _ _ _ (by omega) (by omega)]; omega)
                  have hm0 : 0 ≤ (S 3 2 (2 * y163)) * (S 3 2 ((2 * y163) + 1)) := Int.mul_nonneg (by omega) (by omega)
                  have hm1 : (S 3 2 (2 * y163)) * (S 3 2 ((2 * y163) + 1)) ≤ 240 := mul240 (by omega) (by omega) (by omega) (by omega)
                  refine lv_iload hx hb dL_acts_254 (lv_at hl 0 rfl) ?_
                  refine lv_aload_n hx hb dL_acts_256 rfl (lv_at hl 5 rfl) ?_
                  refine lv_iconst (v := i32 (2)) hx hb dL_acts_257 rfl ?_
                  refine p_iald (k := 3) (r := 1) (n := 4) hx hb hK hP aS182_3 rfl rfl (by decide) (by decide) (by omega) (by omega) dL_acts_258 ?_
                  refine q_nm (show S182 3 1 2 = (S 3 1 2) + 1 from by rw [qS182, if_pos ⟨rfl, rfl, rfl⟩]) ?_
                  refine lv_iconst (v := i32 (1)) hx hb dL_acts_259 rfl ?_
                  refine q_isub hx hb dL_acts_260 ?_
                  refine q_icmp_ne (tgt := 314) hx hb (rS _ _ _) ⟨by omega, by omega⟩ dL_acts_261 (by decide) (fun c_183 => (by exfalso; omega)) (fun c_183 => ?_)
                  refine lv_aload_n hx hb dL_acts_264 rfl (lv_at hl 4 rfl) ?_
                  refine lv_iload hx hb dL_acts_265 (lv_at hl 0 rfl) ?_
                  refine lv_iload hx hb dL_acts_267 (lv_at hl 2 rfl) ?_
                  refine q_callH2 (As := [.ref (ad177 1 0), .int (i32 (S 1 0 6)), .int (i32 (y163))]) (rest := []) hx hb hml hl.1 hown hK hZ hP hS (c_L_likeness l g base ad177 S182 (S 1 0 6) y163 hfl ivS182.wc (rS _ _ _) ⟨by omega, by omega⟩) t_504 t_14 t_506 t_505 f_yL_likeness ⟨Nat.le_of_ble_eq_true rfl, Nat.le_of_ble_eq_true rfl⟩ rfl rfl (Nat.le_of_ble_eq_true rfl) dL_acts_269 (c2 := 11) (s2 := 805) ⟨by first | rfl | (dsimp only; omega), by first | rfl | (dsimp only; omega)⟩ ⟨by show 11 ≤ 2970; omega, by show 805 ≤ 18559; omega⟩ (q_an (fun H locs hP hS => ?_))
                  refine q_nm (b := S 3 2 (2 * y163) * S 3 2 ((2 * y163) + 1)) ((lv_0 ⟨kN2, hcc⟩ trivial trivial).trans (by rw [ln_k (en _ (by omega)) (en _ (by omega)), gln, ← hd1, ← hd3])) ?_
                  refine lv_aload_n hx hb dL_acts_272 rfl (lv_at hl 6 rfl) ?_
                  refine lv_iconst (v := i32 (2)) hx hb dL_acts_273 rfl ?_
                  refine lv_iload hx hb dL_acts_274 (lv_at hl 2 rfl) ?_
                  refine q_imul hx hb dL_acts_276 ?_
                  refine p_iald (k := 3) (r := 2) (n := 10) hx hb hK hP aS182_3 rfl rfl (by decide) (by decide) (by omega) (by omega) dL_acts_277 ?_
                  refine q_nm (show S182 3 2 (2 * y163) = S 3 2 (2 * y163) from by rw [qS182, if_neg (by omega), h3S178]) ?_
                  refine lv_aload_n hx hb dL_acts_278 rfl (lv_at hl 6 rfl) ?_
                  refine lv_iconst (v := i32 (2)) hx hb dL_acts_279 rfl ?_
                  refine lv_iload hx hb dL_acts_280 (lv_at hl 2 rfl) ?_
                  refine q_imul hx hb dL_acts_282 ?_
                  refine lv_iconst (v := i32 (1)) hx hb dL_acts_283 rfl ?_
                  refine q_iadd hx hb dL_acts_284 ?_
                  refine p_iald (k := 3) (r := 2) (n := 10) hx hb hK hP aS182_3 rfl rfl (by decide) (by decide) (by omega) (by omega) dL_acts_285 ?_
                  refine q_nm (show S182 3 2 ((2 * y163) + 1) = S 3 2 ((2 * y163) + 1) from by rw [qS182, if_neg (by omega), h3S178]) ?_
                  refine q_imul hx hb dL_acts_286 ?_
                  refine q_icmp_ne (tgt := 314) hx hb ⟨by omega, by omega⟩ ⟨by omega, by omega⟩ dL_acts_287 (by decide) (fun c_184 => (by exfalso; omega)) (fun c_184 => ?_)
                  refine lv_aload_n hx hb dL_acts_290 rfl (lv_at hl 4 rfl) ?_
                  refine lv_iload hx hb dL_acts_291 (lv_at hl 0 rfl) ?_
                  refine q_callH2 (As := [.ref (ad177 1 0), .int (i32 (S 1 0 6))]) (rest := []) hx hb hml hl.1 hown hK hZ hP hS (c_L_isTrue l g base ad177 S182 (S 1 0 6) hfl ivS182.wc (rS _ _ _)) t_516 t_14 t_518 t_517 f_yL_isTrue ⟨Nat.le_of_ble_eq_true rfl, Nat.le_of_ble_eq_true rfl⟩ rfl rfl (Nat.le_of_ble_eq_true rfl) dL_acts_293 (c2 := 12) (s2 := 811) ⟨by first | rfl | (dsimp only; omega), by first | rfl | (dsimp only; omega)⟩ ⟨by show 12 ≤ 2970; omega, by show 811 ≤ 18559; omega⟩ (q_an (fun H locs hP hS => ?_))
                  refine q_nm (b := 1) ((lv_0 kN2 trivial trivial).trans (b2_t (na3.mpr gtr))) ?_
                  refine lv_iconst (v := i32 (1)) hx hb dL_acts_296 rfl ?_
                  refine q_icmp_ne (tgt := 314) hx hb ⟨by decide, by decide⟩ ⟨by decide, by decide⟩ dL_acts_297 (by decide) (fun c_185 => (by exfalso; omega)) (fun c_185 => ?_)
                  refine lv_aload_n hx hb dL_acts_300 rfl (lv_at hl 4 rfl) ?_
                  refine lv_aload_n hx hb dL_acts_301 rfl (lv_at hl 7 rfl) ?_
                  refine lv_iload hx hb dL_acts_302 (lv_at hl 0 rfl) ?_
                  refine q_callS2 (As := [.ref (ad177 1 0), .ref (ad177 3 3), .int (i32 (S 1 0 6))]) (rest := []) hx hb hml hl.1 hown hK hZ hP hS (c_L_isPiece l g base ad177 S182 (S 1 0 6) hfl ivS182 kN2 lv9.2.2.2 (rS _ _ _)) t_329 (q_callB hK 328 14 330 t_328 t_14 t_330 f_yL_isPiece ⟨Nat.le_of_ble_eq_true rfl, Nat.le_of_ble_eq_true rfl⟩) rfl rfl (Nat.le_of_ble_eq_true rfl) dL_acts_304 (c2 := 1472) (s2 := 9571) ⟨by first | rfl | (dsimp only; omega), by first | rfl | (dsimp only; omega)⟩ ⟨by show 1472 ≤ 2970; omega, by show 9571 ≤ 18559; omega⟩ (q_an (fun H locs hP hS => ?_))
                  refine q_if_eq (tgt := 314) hx hb ⟨by decide, by decide⟩ dL_acts_307 (by decide) (fun h => by omega) (fun _ => ?_)
                  refine lv_iconst (v := i32 (1)) hx hb dL_acts_310 rfl ?_
                  refine lv_goto (tgt := 315) hx hb dL_acts_311 (by decide) ?_
                  subst hQm
                  exact q_zret hx hb hr hlocks hP hS (v := 1) (by decide) (by exact ⟨⟨rfl, ek_ad177⟩, ivS182, lv9⟩) (by show 1472 ≤ 2970; omega) (by show 9571 ≤ 18559; omega) dL_acts_315
              · skip
                obtain ⟨hd1, hd2, hd3⟩ := vd y163 (by omega) (by omega)
                obtain ⟨⟨-, hcw1, hcw2⟩, -⟩ := hI.k.2.2 y163 (by omega) (by omega)
                refine lv_aload_n hx hb dL_acts_165 rfl (lv_at hl 3 rfl) ?_
                refine lv_iload hx hb dL_acts_166 (lv_at hl 1 rfl) ?_
                refine lv_iload hx hb dL_acts_168 (lv_at hl 0 rfl) ?_
                refine lv_iload hx hb dL_acts_170 (lv_at hl 9 rfl) ?_
                refine lv_iconst (v := i32 (2)) hx hb dL_acts_172 rfl ?_
                refine lv_ishr hx hb dL_acts_173 ?_
                obtain ⟨z186, rz186, hz186⟩ := i32_of (i32 (y) >>> (i32 (2) &&& 31))
                rw [hz186]
                refine lv_iconst (v := i32 (2)) hx hb dL_acts_174 rfl ?_
                refine q_callS2 (As := [.int (i32 (z186)), .int (i32 (2))]) (rest := [.int (i32 (1 + y164)), .int (i32 (y163)), .ref (ad 1 0)]) hx hb hml hl.1 hown hK hZ hP hS (c_L_low l g base ad S z186 ((2 : Int)) rz186 (by omega)) t_122 (q_callB hK 121 14 123 t_121 t_14 t_123 f_yL_low ⟨Nat.le_of_ble_eq_true rfl, Nat.le_of_ble_eq_true rfl⟩) rfl rfl (Nat.le_of_ble_eq_true rfl) dL_acts_175 (c2 := 0) (s2 := 0) ⟨by first | rfl | (dsimp only; omega), by first | rfl | (dsimp only; omega)⟩ ⟨by show 0 ≤ 2970; omega, by show 0 ≤ 18559; omega⟩ (q_an (fun H locs hP hS => ?_))
                obtain ⟨y187, hy187⟩ : ∃ y99 : Int, loF z186 ((2 : Int)) = y99 := ⟨_, rfl⟩
                have by187 := lo_b z186 (show 1 ≤ ((2 : Int)) by omega)
                rw [hy187] at by187
                refine q_nm hy187 ?_
                refine q_if_ne (tgt := 185) hx hb ⟨by omega, by omega⟩ dL_acts_178 (by decide) (fun c_188 => ?_) (fun c_188 => ?_)
                · -- y187 ≠ 0
                  refine lv_iconst (v := i32 (0)) hx hb dL_acts_185 rfl ?_
                  refine W.eq (g2 := F0 m 186 ls (Value.int (i32 (b2 (False))) :: Value.int (i32 (1 + y164)) :: Value.int (i32 (y163)) :: Value.ref (ad 1 0) :: [])) (by simp only [b2_t trivial, b2_f not_false] <;> rfl) ?_
                  refine q_callH2 (As := [.ref (ad 1 0), .int (i32 (y163)), .int (i32 (1 + y164)), .int (i32 (b2 (False)))]) (rest := []) hx hb hml hl.1 hown hK hZ hP hS (c_L_loom l g base ad S y163 (1 + y164) False hfl hI.wc ⟨by omega, by omega⟩ ⟨by omega, by omega⟩ hI.hcf hI.hpf) t_442 t_14 t_444 t_443 f_yL_loom ⟨Nat.le_of_ble_eq_true rfl, Nat.le_of_ble_eq_true rfl⟩ rfl rfl (Nat.le_of_ble_eq_true rfl) dL_acts_186 (c2 := 9) (s2 := 793) ⟨by first | rfl | (dsimp only; omega), by first | rfl | (dsimp only; omega)⟩ ⟨by show 9 ≤ 2970; omega, by show 793 ≤ 18559; omega⟩ (fun rr ad' S' H locs hQ hP hS => ?_)
                  obtain ⟨⟨hr9, ek9⟩, hQ⟩ := hQ
                  have hc9_1 : ceC S y163 := hI.ce.mpr (by omega)
                  have hc9_2 : 1 ≤ (1 + y164) ∧ (1 + y164) ≤ 4 ∧ (1 + y164) ≤ S (4 + y163.toNat) 0 0 := h_B
                  have hc9_3 : ¬ (1 ≤ S (4 + y163.toNat) 0 1 ∧ S 1 0 6 < 20) := h_C
                  have hs9 := (hQ.resolve_right (fun y9 => hc9_3 y9.1.2.2)).2
                  subst hr9
                  rw [hs9] at hP
                  obtain ⟨ad189, had189⟩ : ∃ a9 : Nat → Nat → Nat, a9 = ad' := ⟨_, rfl⟩
                  rw [← had189] at ek9 hP
                  have ek_ad189 : ∀ x q, x < 4 → ad189 x q = ad x q := fun x q h => (ek9 x q h)
                  have el_ad189 : ∀ x q, x < 4 → ad189 x q = ad x q := ek9
                  have hl : lv_has ls 13 [(9, .int (i32 (1 + y164))), (8, .int (i32 (y163))), (7, .int (i32 (y1))), (0, .ref (ad189 1 0)), (1, .ref (ad189 3 1)), (2, .ref (ad189 3 2)), (3, .ref (ad189 3 3)), (4, .ref (ad189 3 4)), (5, .int (i32 (x))), (6, .int (i32 (y)))] := by
                    have t9 := hl
                    rw [← el_ad189 1 0 (by decide), ← el_ad189 3 1 (by decide), ← el_ad189 3 2 (by decide), ← el_ad189 3 3 (by decide), ← el_ad189 3 4 (by decide)] at t9
                    exact t9
                  skip
                  refine q_nm (lv_3 hc9_1 hc9_2 hc9_3) ?_
                  refine lv_istore (lv' := [(10, .int (i32 (-1000003))), (9, .int (i32 (1 + y164))), (8, .int (i32 (y163))), (7, .int (i32 (y1))), (0, .ref (ad189 1 0)), (1, .ref (ad189 3 1)), (2, .ref (ad189 3 2)), (3, .ref (ad189 3 3)), (4, .ref (ad189 3 4)), (5, .int (i32 (x))), (6, .int (i32 (y)))]) hx hb dL_acts_189 hl (by decide) rfl (fun ls hl => ?_)
                  refine lv_iload hx hb dL_acts_191 (lv_at hl 1 rfl) ?_
                  refine lv_aload_n hx hb dL_acts_193 rfl (lv_at hl 6 rfl) ?_
                  refine lv_iconst (v := i32 (2)) hx hb dL_acts_194 rfl ?_
                  refine lv_iload hx hb dL_acts_195 (lv_at hl 2 rfl) ?_
                  refine q_imul hx hb dL_acts_197 ?_
                  refine p_iald (k := 3) (r := 2) (n := 10) hx hb hK hP hI.a.2.2 rfl rfl (by decide) (by decide) (by omega) (by omega) dL_acts_198 ?_
                  refine q_icmp_le (tgt := 215) hx hb ⟨by omega, by omega⟩ (rS _ _ _) dL_acts_199 (by decide) (fun c_190 => ?_) (fun c_190 => (by exfalso; omega))
                  refine lv_aload_n hx hb dL_acts_215 rfl (lv_at hl 6 rfl) ?_
                  refine lv_iconst (v := i32 (2)) hx hb dL_acts_216 rfl ?_
                  refine lv_iload hx hb dL_acts_217 (lv_at hl 2 rfl) ?_
                  refine q_imul hx hb dL_acts_219 ?_
                  refine lv_iconst (v := i32 (1)) hx hb dL_acts_220 rfl ?_
                  refine q_iadd hx hb dL_acts_221 ?_
                  refine p_iald (k := 3) (r := 2) (n := 10) hx hb hK hP hI.a.2.2 rfl rfl (by decide) (by decide) (by omega) (by omega) dL_acts_222 ?_
                  refine q_if_eq (tgt := 234) hx hb (rS _ _ _) dL_acts_223 (by decide) (fun c_191 => ?_) (fun c_191 => ?_)
                  · -- (S 3 2 ((2 * y163) + 1)) = 0
                    refine lv_iload hx hb dL_acts_234 (lv_at hl 0 rfl) ?_
                    refine q_ldc (z := -1000003) hx hb hown hK t_250 rfl dL_acts_236 ?_
                    refine q_icmp_ne (tgt := 245) hx hb ⟨by decide, by decide⟩ ⟨by decide, by decide⟩ dL_acts_238 (by decide) (fun c_192 => (by exfalso; omega)) (fun c_192 => ?_)
                    refine lv_iconst (v := i32 (1)) hx hb dL_acts_241 rfl ?_
                    refine lv_goto (tgt := 246) hx hb dL_acts_242 (by decide) ?_
                    subst hQm
                    exact q_zret hx hb hr hlocks hP hS (v := 1) (by decide) (by exact ⟨⟨rfl, ek_ad189⟩, hI, hV⟩) (by show 9 ≤ 2970; omega) (by show 793 ≤ 18559; omega) dL_acts_246
                  · -- (S 3 2 ((2 * y163) + 1)) ≠ 0
                    refine lv_aload_n hx hb dL_acts_226 rfl (lv_at hl 5 rfl) ?_
                    refine lv_iconst (v := i32 (2)) hx hb dL_acts_227 rfl ?_
                    refine p_iald (k := 3) (r := 1) (n := 4) hx hb hK hP hI.a.2.2 rfl rfl (by decide) (by decide) (by omega) (by omega) dL_acts_228 ?_
                    refine lv_bipush (v := i32 (20)) hx hb dL_acts_229 (by decide) ?_
                    refine q_icmp_ne (tgt := 247) hx hb (rS _ _ _) ⟨by decide, by decide⟩ dL_acts_231 (by decide) (fun c_193 => (by exfalso; exact h_C ⟨by omega, by omega⟩)) (fun c_193 => ?_)
                    refine lv_iload hx hb dL_acts_234 (lv_at hl 0 rfl) ?_
                    refine q_ldc (z := -1000003) hx hb hown hK t_250 rfl dL_acts_236 ?_
                    refine q_icmp_ne (tgt := 245) hx hb ⟨by decide, by decide⟩ ⟨by decide, by decide⟩ dL_acts_238 (by decide) (fun c_194 => (by exfalso; omega)) (fun c_194 => ?_)
                    refine lv_iconst (v := i32 (1)) hx hb dL_acts_241 rfl ?_
                    refine lv_goto (tgt := 246) hx hb dL_acts_242 (by decide) ?_
                    subst hQm
                    exact q_zret hx hb hr hlocks hP hS (v := 1) (by decide) (by exact ⟨⟨rfl, ek_ad189⟩, hI, hV⟩) (by show 9 ≤ 2970; omega) (by show 793 ≤ 18559; omega) dL_acts_246
                · -- y187 = 0
                  refine lv_iconst (v := i32 (1)) hx hb dL_acts_181 rfl ?_
                  refine lv_goto (tgt := 186) hx hb dL_acts_182 (by decide) ?_
                  refine W.eq (g2 := F0 m 186 ls (Value.int (i32 (b2 (True))) :: Value.int (i32 (1 + y164)) :: Value.int (i32 (y163)) :: Value.ref (ad 1 0) :: [])) (by simp only [b2_t trivial, b2_f not_false] <;> rfl) ?_
                  refine q_callH2 (As := [.ref (ad 1 0), .int (i32 (y163)), .int (i32 (1 + y164)), .int (i32 (b2 (True)))]) (rest := []) hx hb hml hl.1 hown hK hZ hP hS (c_L_loom l g base ad S y163 (1 + y164) True hfl hI.wc ⟨by omega, by omega⟩ ⟨by omega, by omega⟩ hI.hcf hI.hpf) t_442 t_14 t_444 t_443 f_yL_loom ⟨Nat.le_of_ble_eq_true rfl, Nat.le_of_ble_eq_true rfl⟩ rfl rfl (Nat.le_of_ble_eq_true rfl) dL_acts_186 (c2 := 9) (s2 := 793) ⟨by first | rfl | (dsimp only; omega), by first | rfl | (dsimp only; omega)⟩ ⟨by show 9 ≤ 2970; omega, by show 793 ≤ 18559; omega⟩ (fun rr ad' S' H locs hQ hP hS => ?_)
                  obtain ⟨⟨hr9, ek9⟩, hQ⟩ := hQ
                  have hc9_1 : ceC S y163 := hI.ce.mpr (by omega)
                  have hc9_2 : 1 ≤ (1 + y164) ∧ (1 + y164) ≤ 4 ∧ (1 + y164) ≤ S (4 + y163.toNat) 0 0 := h_B
                  have hc9_3 : ¬ (1 ≤ S (4 + y163.toNat) 0 1 ∧ S 1 0 6 < 20) := h_C
                  have hs9 := (hQ.resolve_right (fun y9 => hc9_3 y9.1.2.2)).2
                  subst hr9
                  rw [hs9] at hP
                  obtain ⟨ad195, had195⟩ : ∃ a9 : Nat → Nat → Nat, a9 = ad' := ⟨_, rfl⟩
                  rw [← had195] at ek9 hP
                  have ek_ad195 : ∀ x q, x < 4 → ad195 x q = ad x q := fun x q h => (ek9 x q h)
                  have el_ad195 : ∀ x q, x < 4 → ad195 x q = ad x q := ek9
                  have hl : lv_has ls 13 [(9, .int (i32 (1 + y164))), (8, .int (i32 (y163))), (7, .int (i32 (y1))), (0, .ref (ad195 1 0)), (1, .ref (ad195 3 1)), (2, .ref (ad195 3 2)), (3, .ref (ad195 3 3)), (4, .ref (ad195 3 4)), (5, .int (i32 (x))), (6, .int (i32 (y)))] := by
                    have t9 := hl
                    rw [← el_ad195 1 0 (by decide), ← el_ad195 3 1 (by decide), ← el_ad195 3 2 (by decide), ← el_ad195 3 3 (by decide), ← el_ad195 3 4 (by decide)] at t9
                    exact t9
                  skip
                  refine q_nm (lv_3 hc9_1 hc9_2 hc9_3) ?_
                  refine lv_istore (lv' := [(10, .int (i32 (-1000003))), (9, .int (i32 (1 + y164))), (8, .int (i32 (y163))), (7, .int (i32 (y1))), (0, .ref (ad195 1 0)), (1, .ref (ad195 3 1)), (2, .ref (ad195 3 2)), (3, .ref (ad195 3 3)), (4, .ref (ad195 3 4)), (5, .int (i32 (x))), (6, .int (i32 (y)))]) hx hb dL_acts_189 hl (by decide) rfl (fun ls hl => ?_)
                  refine lv_iload hx hb dL_acts_191 (lv_at hl 1 rfl) ?_
                  refine lv_aload_n hx hb dL_acts_193 rfl (lv_at hl 6 rfl) ?_
                  refine lv_iconst (v := i32 (2)) hx hb dL_acts_194 rfl ?_
                  refine lv_iload hx hb dL_acts_195 (lv_at hl 2 rfl) ?_
                  refine q_imul hx hb dL_acts_197 ?_
                  refine p_iald (k := 3) (r := 2) (n := 10) hx hb hK hP hI.a.2.2 rfl rfl (by decide) (by decide) (by omega) (by omega) dL_acts_198 ?_
                  refine q_icmp_le (tgt := 215) hx hb ⟨by omega, by omega⟩ (rS _ _ _) dL_acts_199 (by decide) (fun c_196 => ?_) (fun c_196 => (by exfalso; omega))
                  refine lv_aload_n hx hb dL_acts_215 rfl (lv_at hl 6 rfl) ?_
                  refine lv_iconst (v := i32 (2)) hx hb dL_acts_216 rfl ?_
                  refine lv_iload hx hb dL_acts_217 (lv_at hl 2 rfl) ?_
                  refine q_imul hx hb dL_acts_219 ?_
                  refine lv_iconst (v := i32 (1)) hx hb dL_acts_220 rfl ?_
                  refine q_iadd hx hb dL_acts_221 ?_
                  refine p_iald (k := 3) (r := 2) (n := 10) hx hb hK hP hI.a.2.2 rfl rfl (by decide) (by decide) (by omega) (by omega) dL_acts_222 ?_
                  refine q_if_eq (tgt := 234) hx hb (rS _ _ _) dL_acts_223 (by decide) (fun c_197 => ?_) (fun c_197 => ?_)
                  · -- (S 3 2 ((2 * y163) + 1)) = 0
                    refine lv_iload hx hb dL_acts_234 (lv_at hl 0 rfl) ?_
                    refine q_ldc (z := -1000003) hx hb hown hK t_250 rfl dL_acts_236 ?_
                    refine q_icmp_ne (tgt := 245) hx hb ⟨by decide, by decide⟩ ⟨by decide, by decide⟩ dL_acts_238 (by decide) (fun c_198 => (by exfalso; omega)) (fun c_198 => ?_)
                    refine lv_iconst (v := i32 (1)) hx hb dL_acts_241 rfl ?_
                    refine lv_goto (tgt := 246) hx hb dL_acts_242 (by decide) ?_
                    subst hQm
                    exact q_zret hx hb hr hlocks hP hS (v := 1) (by decide) (by exact ⟨⟨rfl, ek_ad195⟩, hI, hV⟩) (by show 9 ≤ 2970; omega) (by show 793 ≤ 18559; omega) dL_acts_246
                  · -- (S 3 2 ((2 * y163) + 1)) ≠ 0
                    refine lv_aload_n hx hb dL_acts_226 rfl (lv_at hl 5 rfl) ?_
                    refine lv_iconst (v := i32 (2)) hx hb dL_acts_227 rfl ?_
                    refine p_iald (k := 3) (r := 1) (n := 4) hx hb hK hP hI.a.2.2 rfl rfl (by decide) (by decide) (by omega) (by omega) dL_acts_228 ?_
                    refine lv_bipush (v := i32 (20)) hx hb dL_acts_229 (by decide) ?_
                    refine q_icmp_ne (tgt := 247) hx hb (rS _ _ _) ⟨by decide, by decide⟩ dL_acts_231 (by decide) (fun c_199 => (by exfalso; exact h_C ⟨by omega, by omega⟩)) (fun c_199 => ?_)
                    refine lv_iload hx hb dL_acts_234 (lv_at hl 0 rfl) ?_
                    refine q_ldc (z := -1000003) hx hb hown hK t_250 rfl dL_acts_236 ?_
                    refine q_icmp_ne (tgt := 245) hx hb ⟨by decide, by decide⟩ ⟨by decide, by decide⟩ dL_acts_238 (by decide) (fun c_200 => (by exfalso; omega)) (fun c_200 => ?_)
                    refine lv_iconst (v := i32 (1)) hx hb dL_acts_241 rfl ?_
                    refine lv_goto (tgt := 246) hx hb dL_acts_242 (by decide) ?_
                    subst hQm
                    exact q_zret hx hb hr hlocks hP hS (v := 1) (by decide) (by exact ⟨⟨rfl, ek_ad195⟩, hI, hV⟩) (by show 9 ≤ 2970; omega) (by show 793 ≤ 18559; omega) dL_acts_246
            · skip
              obtain ⟨hd1, hd2, hd3⟩ := vd y163 (by omega) (by omega)
              obtain ⟨⟨-, hcw1, hcw2⟩, -⟩ := hI.k.2.2 y163 (by omega) (by omega)
              refine lv_aload_n hx hb dL_acts_165 rfl (lv_at hl 3 rfl) ?_
              refine lv_iload hx hb dL_acts_166 (lv_at hl 1 rfl) ?_
              refine lv_iload hx hb dL_acts_168 (lv_at hl 0 rfl) ?_
              refine lv_iload hx hb dL_acts_170 (lv_at hl 9 rfl) ?_
              refine lv_iconst (v := i32 (2)) hx hb dL_acts_172 rfl ?_
              refine lv_ishr hx hb dL_acts_173 ?_
              obtain ⟨z201, rz201, hz201⟩ := i32_of (i32 (y) >>> (i32 (2) &&& 31))
              rw [hz201]
              refine lv_iconst (v := i32 (2)) hx hb dL_acts_174 rfl ?_
              refine q_callS2 (As := [.int (i32 (z201)), .int (i32 (2))]) (rest := [.int (i32 (1 + y164)), .int (i32 (y163)), .ref (ad 1 0)]) hx hb hml hl.1 hown hK hZ hP hS (c_L_low l g base ad S z201 ((2 : Int)) rz201 (by omega)) t_122 (q_callB hK 121 14 123 t_121 t_14 t_123 f_yL_low ⟨Nat.le_of_ble_eq_true rfl, Nat.le_of_ble_eq_true rfl⟩) rfl rfl (Nat.le_of_ble_eq_true rfl) dL_acts_175 (c2 := 0) (s2 := 0) ⟨by first | rfl | (dsimp only; omega), by first | rfl | (dsimp only; omega)⟩ ⟨by show 0 ≤ 2970; omega, by show 0 ≤ 18559; omega⟩ (q_an (fun H locs hP hS => ?_))
              obtain ⟨y202, hy202⟩ : ∃ y99 : Int, loF z201 ((2 : Int)) = y99 := ⟨_, rfl⟩
              have by202 := lo_b z201 (show 1 ≤ ((2 : Int)) by omega)
              rw [hy202] at by202
              refine q_nm hy202 ?_
              refine q_if_ne (tgt := 185) hx hb ⟨by omega, by omega⟩ dL_acts_178 (by decide) (fun c_203 => ?_) (fun c_203 => ?_)
              · -- y202 ≠ 0
                refine lv_iconst (v := i32 (0)) hx hb dL_acts_185 rfl ?_
                refine W.eq (g2 := F0 m 186 ls (Value.int (i32 (b2 (False))) :: Value.int (i32 (1 + y164)) :: Value.int (i32 (y163)) :: Value.ref (ad 1 0) :: [])) (by simp only [b2_t trivial, b2_f not_false] <;> rfl) ?_
                refine q_callH2 (As := [.ref (ad 1 0), .int (i32 (y163)), .int (i32 (1 + y164)), .int (i32 (b2 (False)))]) (rest := []) hx hb hml hl.1 hown hK hZ hP hS (c_L_loom l g base ad S y163 (1 + y164) False hfl hI.wc ⟨by omega, by omega⟩ ⟨by omega, by omega⟩ hI.hcf hI.hpf) t_442 t_14 t_444 t_443 f_yL_loom ⟨Nat.le_of_ble_eq_true rfl, Nat.le_of_ble_eq_true rfl⟩ rfl rfl (Nat.le_of_ble_eq_true rfl) dL_acts_186 (c2 := 9) (s2 := 793) ⟨by first | rfl | (dsimp only; omega), by first | rfl | (dsimp only; omega)⟩ ⟨by show 9 ≤ 2970; omega, by show 793 ≤ 18559; omega⟩ (fun rr ad' S' H locs hQ hP hS => ?_)
                obtain ⟨⟨hr9, ek9⟩, hQ⟩ := hQ
                have hc9_1 : ceC S y163 := hI.ce.mpr (by omega)
                have hc9_2 : ¬ (1 ≤ (1 + y164) ∧ (1 + y164) ≤ 4 ∧ (1 + y164) ≤ S (4 + y163.toNat) 0 0) := h_B
                have hs9 := (hQ.resolve_right (fun y9 => hc9_2 y9.1.2.1)).2
                subst hr9
                rw [hs9] at hP
                obtain ⟨ad204, had204⟩ : ∃ a9 : Nat → Nat → Nat, a9 = ad' := ⟨_, rfl⟩
                rw [← had204] at ek9 hP
                have ek_ad204 : ∀ x q, x < 4 → ad204 x q = ad x q := fun x q h => (ek9 x q h)
                have el_ad204 : ∀ x q, x < 4 → ad204 x q = ad x q := ek9
                have hl : lv_has ls 13 [(9, .int (i32 (1 + y164))), (8, .int (i32 (y163))), (7, .int (i32 (y1))), (0, .ref (ad204 1 0)), (1, .ref (ad204 3 1)), (2, .ref (ad204 3 2)), (3, .ref (ad204 3 3)), (4, .ref (ad204 3 4)), (5, .int (i32 (x))), (6, .int (i32 (y)))] := by
                  have t9 := hl
                  rw [← el_ad204 1 0 (by decide), ← el_ad204 3 1 (by decide), ← el_ad204 3 2 (by decide), ← el_ad204 3 3 (by decide), ← el_ad204 3 4 (by decide)] at t9
                  exact t9
                skip
                refine q_nm (lv_2 hc9_1 hc9_2) ?_
                refine lv_istore (lv' := [(10, .int (i32 (-1000002))), (9, .int (i32 (1 + y164))), (8, .int (i32 (y163))), (7, .int (i32 (y1))), (0, .ref (ad204 1 0)), (1, .ref (ad204 3 1)), (2, .ref (ad204 3 2)), (3, .ref (ad204 3 3)), (4, .ref (ad204 3 4)), (5, .int (i32 (x))), (6, .int (i32 (y)))]) hx hb dL_acts_189 hl (by decide) rfl (fun ls hl => ?_)
                refine lv_iload hx hb dL_acts_191 (lv_at hl 1 rfl) ?_
                refine lv_aload_n hx hb dL_acts_193 rfl (lv_at hl 6 rfl) ?_
                refine lv_iconst (v := i32 (2)) hx hb dL_acts_194 rfl ?_
                refine lv_iload hx hb dL_acts_195 (lv_at hl 2 rfl) ?_
                refine q_imul hx hb dL_acts_197 ?_
                refine p_iald (k := 3) (r := 2) (n := 10) hx hb hK hP hI.a.2.2 rfl rfl (by decide) (by decide) (by omega) (by omega) dL_acts_198 ?_
                refine q_icmp_le (tgt := 215) hx hb ⟨by omega, by omega⟩ (rS _ _ _) dL_acts_199 (by decide) (fun c_205 => (by exfalso; exact h_B ⟨by omega, by omega, by omega⟩)) (fun c_205 => ?_)
                refine lv_iload hx hb dL_acts_202 (lv_at hl 0 rfl) ?_
                refine q_ldc (z := -1000002) hx hb hown hK t_249 rfl dL_acts_204 ?_
                refine q_icmp_ne (tgt := 213) hx hb ⟨by decide, by decide⟩ ⟨by decide, by decide⟩ dL_acts_206 (by decide) (fun c_206 => (by exfalso; omega)) (fun c_206 => ?_)
                refine lv_iconst (v := i32 (1)) hx hb dL_acts_209 rfl ?_
                refine lv_goto (tgt := 214) hx hb dL_acts_210 (by decide) ?_
                subst hQm
                exact q_zret hx hb hr hlocks hP hS (v := 1) (by decide) (by exact ⟨⟨rfl, ek_ad204⟩, hI, hV⟩) (by show 9 ≤ 2970; omega) (by show 793 ≤ 18559; omega) dL_acts_214
              · -- y202 = 0
                refine lv_iconst (v := i32 (1)) hx hb dL_acts_181 rfl ?_
                refine lv_goto (tgt := 186) hx hb dL_acts_182 (by decide) ?_
                refine W.eq (g2 := F0 m 186 ls (Value.int (i32 (b2 (True))) :: Value.int (i32 (1 + y164)) :: Value.int (i32 (y163)) :: Value.ref (ad 1 0) :: [])) (by simp only [b2_t trivial, b2_f not_false] <;> rfl) ?_
                refine q_callH2 (As := [.ref (ad 1 0), .int (i32 (y163)), .int (i32 (1 + y164)), .int (i32 (b2 (True)))]) (rest := []) hx hb hml hl.1 hown hK hZ hP hS (c_L_loom l g base ad S y163 (1 + y164) True hfl hI.wc ⟨by omega, by omega⟩ ⟨by omega, by omega⟩ hI.hcf hI.hpf) t_442 t_14 t_444 t_443 f_yL_loom ⟨Nat.le_of_ble_eq_true rfl, Nat.le_of_ble_eq_true rfl⟩ rfl rfl (Nat.le_of_ble_eq_true rfl) dL_acts_186 (c2 := 9) (s2 := 793) ⟨by first | rfl | (dsimp only; omega), by first | rfl | (dsimp only; omega)⟩ ⟨by show 9 ≤ 2970; omega, by show 793 ≤ 18559; omega⟩ (fun rr ad' S' H locs hQ hP hS => ?_)
                obtain ⟨⟨hr9, ek9⟩, hQ⟩ := hQ
                have hc9_1 : ceC S y163 := hI.ce.mpr (by omega)
                have hc9_2 : ¬ (1 ≤ (1 + y164) ∧ (1 + y164) ≤ 4 ∧ (1 + y164) ≤ S (4 + y163.toNat) 0 0) := h_B
                have hs9 := (hQ.resolve_right (fun y9 => hc9_2 y9.1.2.1)).2
                subst hr9
                rw [hs9] at hP
                obtain ⟨ad207, had207⟩ : ∃ a9 : Nat → Nat → Nat, a9 = ad' := ⟨_, rfl⟩
                rw [← had207] at ek9 hP
                have ek_ad207 : ∀ x q, x < 4 → ad207 x q = ad x q := fun x q h => (ek9 x q h)
                have el_ad207 : ∀ x q, x < 4 → ad207 x q = ad x q := ek9
                have hl : lv_has ls 13 [(9, .int (i32 (1 + y164))), (8, .int (i32 (y163))), (7, .int (i32 (y1))), (0, .ref (ad207 1 0)), (1, .ref (ad207 3 1)), (2, .ref (ad207 3 2)), (3, .ref (ad207 3 3)), (4, .ref (ad207 3 4)), (5, .int (i32 (x))), (6, .int (i32 (y)))] := by
                  have t9 := hl
                  rw [← el_ad207 1 0 (by decide), ← el_ad207 3 1 (by decide), ← el_ad207 3 2 (by decide), ← el_ad207 3 3 (by decide), ← el_ad207 3 4 (by decide)] at t9
                  exact t9
                skip
                refine q_nm (lv_2 hc9_1 hc9_2) ?_
                refine lv_istore (lv' := [(10, .int (i32 (-1000002))), (9, .int (i32 (1 + y164))), (8, .int (i32 (y163))), (7, .int (i32 (y1))), (0, .ref (ad207 1 0)), (1, .ref (ad207 3 1)), (2, .ref (ad207 3 2)), (3, .ref (ad207 3 3)), (4, .ref (ad207 3 4)), (5, .int (i32 (x))), (6, .int (i32 (y)))]) hx hb dL_acts_189 hl (by decide) rfl (fun ls hl => ?_)
                refine lv_iload hx hb dL_acts_191 (lv_at hl 1 rfl) ?_
                refine lv_aload_n hx hb dL_acts_193 rfl (lv_at hl 6 rfl) ?_
                refine lv_iconst (v := i32 (2)) hx hb dL_acts_194 rfl ?_
                refine lv_iload hx hb dL_acts_195 (lv_at hl 2 rfl) ?_
                refine q_imul hx hb dL_acts_197 ?_
                refine p_iald (k := 3) (r := 2) (n := 10) hx hb hK hP hI.a.2.2 rfl rfl (by decide) (by decide) (by omega) (by omega) dL_acts_198 ?_
                refine q_icmp_le (tgt := 215) hx hb ⟨by omega, by omega⟩ (rS _ _ _) dL_acts_199 (by decide) (fun c_208 => (by exfalso; exact h_B ⟨by omega, by omega, by omega⟩)) (fun c_208 => ?_)
                refine lv_iload hx hb dL_acts_202 (lv_at hl 0 rfl) ?_
                refine q_ldc (z := -1000002) hx hb hown hK t_249 rfl dL_acts_204 ?_
                refine q_icmp_ne (tgt := 213) hx hb ⟨by decide, by decide⟩ ⟨by decide, by decide⟩ dL_acts_206 (by decide) (fun c_209 => (by exfalso; omega)) (fun c_209 => ?_)
                refine lv_iconst (v := i32 (1)) hx hb dL_acts_209 rfl ?_
                refine lv_goto (tgt := 214) hx hb dL_acts_210 (by decide) ?_
                subst hQm
                exact q_zret hx hb hr hlocks hP hS (v := 1) (by decide) (by exact ⟨⟨rfl, ek_ad207⟩, hI, hV⟩) (by show 9 ≤ 2970; omega) (by show 793 ≤ 18559; omega) dL_acts_214
          · -- y1 ≠ 4
            refine lv_aload_n hx hb dL_acts_137 rfl (lv_at hl 2 rfl) ?_
            refine lv_iconst (v := i32 (2)) hx hb dL_acts_138 rfl ?_
            refine p_iald (k := 3) (r := 1) (n := 4) hx hb hK hP hI.a.2.2 rfl rfl (by decide) (by decide) (by omega) (by omega) dL_acts_139 ?_
            refine q_if_ne (tgt := 316) hx hb (rS _ _ _) dL_acts_140 (by decide) (fun c_210 => ?_) (fun c_210 => ?_)
            · -- (S 3 1 2) ≠ 0
              refine lv_iload hx hb dL_acts_316 (lv_at hl 0 rfl) ?_
              refine lv_bipush (v := i32 (11)) hx hb dL_acts_318 (by decide) ?_
              refine q_icmp_ge (tgt := 370) hx hb ⟨by omega, by omega⟩ ⟨by decide, by decide⟩ dL_acts_320 (by decide) (fun c_211 => ?_) (fun c_211 => ?_)
              · -- 11 ≤ y1
                refine lv_iload hx hb dL_acts_370 (lv_at hl 6 rfl) ?_
                refine lv_iconst (v := i32 (4)) hx hb dL_acts_372 rfl ?_
                refine lv_ishr hx hb dL_acts_373 ?_
                obtain ⟨z212, rz212, hz212⟩ := i32_of (i32 (x) >>> (i32 (4) &&& 31))
                rw [hz212]
                refine lv_aload_n hx hb dL_acts_374 rfl (lv_at hl 2 rfl) ?_
                refine lv_iconst (v := i32 (2)) hx hb dL_acts_375 rfl ?_
                refine p_iald (k := 3) (r := 1) (n := 4) hx hb hK hP hI.a.2.2 rfl rfl (by decide) (by decide) (by omega) (by omega) dL_acts_376 ?_
                refine q_callS2 (As := [.int (i32 (z212)), .int (i32 (S 3 1 2))]) (rest := []) hx hb hml hl.1 hown hK hZ hP hS (c_L_low l g base ad S z212 (S 3 1 2) rz212 (by omega)) t_122 (q_callB hK 121 14 123 t_121 t_14 t_123 f_yL_low ⟨Nat.le_of_ble_eq_true rfl, Nat.le_of_ble_eq_true rfl⟩) rfl rfl (Nat.le_of_ble_eq_true rfl) dL_acts_377 (c2 := 0) (s2 := 0) ⟨by first | rfl | (dsimp only; omega), by first | rfl | (dsimp only; omega)⟩ ⟨by show 0 ≤ 2970; omega, by show 0 ≤ 18559; omega⟩ (q_an (fun H locs hP hS => ?_))
                obtain ⟨y213, hy213⟩ : ∃ y99 : Int, loF z212 (S 3 1 2) = y99 := ⟨_, rfl⟩
                have by213 := lo_b z212 (show 1 ≤ (S 3 1 2) by omega)
                rw [hy213] at by213
                refine q_nm hy213 ?_
                refine lv_istore (lv' := [(8, .int (i32 (y213))), (7, .int (i32 (y1))), (0, .ref (ad 1 0)), (1, .ref (ad 3 1)), (2, .ref (ad 3 2)), (3, .ref (ad 3 3)), (4, .ref (ad 3 4)), (5, .int (i32 (x))), (6, .int (i32 (y)))]) hx hb dL_acts_380 hl (by decide) rfl (fun ls hl => ?_)
                refine lv_iload hx hb dL_acts_382 (lv_at hl 1 rfl) ?_
                refine lv_bipush (v := i32 (11)) hx hb dL_acts_384 (by decide) ?_
                refine q_icmp_ne (tgt := 405) hx hb ⟨by omega, by omega⟩ ⟨by decide, by decide⟩ dL_acts_386 (by decide) (fun c_214 => ?_) (fun c_214 => ?_)
                · -- y1 ≠ 11
                  refine lv_aload_n hx hb dL_acts_405 rfl (lv_at hl 2 rfl) ?_
                  refine lv_iload hx hb dL_acts_406 (lv_at hl 0 rfl) ?_
                  refine q_callS2 (As := [.ref (ad 1 0), .int (i32 (y213))]) (rest := []) hx hb hml hl.1 hown hK hZ hP hS (c_L_isThere l g base ad S y213 hfl hI ⟨by omega, by omega⟩) t_264 (q_callB hK 263 14 265 t_263 t_14 t_265 f_yL_isThere ⟨Nat.le_of_ble_eq_true rfl, Nat.le_of_ble_eq_true rfl⟩) rfl rfl (Nat.le_of_ble_eq_true rfl) dL_acts_408 (c2 := 2) (s2 := 12) ⟨by first | rfl | (dsimp only; omega), by first | rfl | (dsimp only; omega)⟩ ⟨by show 2 ≤ 2970; omega, by show 12 ≤ 18559; omega⟩ (q_an (fun H locs hP hS => ?_))
                  refine q_if_neb (tgt := 454) hx hb dL_acts_411 (by decide) (fun c_215 => ?_) (fun c_215 => ?_)
                  · -- peC S y213
                    refine lv_iload hx hb dL_acts_454 (lv_at hl 8 rfl) ?_
                    refine lv_iconst (v := i32 (3)) hx hb dL_acts_456 rfl ?_
                    refine lv_ishr hx hb dL_acts_457 ?_
                    obtain ⟨z216, rz216, hz216⟩ := i32_of (i32 (y) >>> (i32 (3) &&& 31))
                    rw [hz216]
                    refine lv_aload_n hx hb dL_acts_458 rfl (lv_at hl 3 rfl) ?_
                    refine lv_iconst (v := i32 (0)) hx hb dL_acts_459 rfl ?_
                    refine p_iald (k := 3) (r := 1) (n := 4) hx hb hK hP hI.a.2.2 rfl rfl (by decide) (by decide) (by omega) (by omega) dL_acts_460 ?_
                    refine q_callS2 (As := [.int (i32 (z216)), .int (i32 (S 3 1 0))]) (rest := []) hx hb hml hl.1 hown hK hZ hP hS (c_L_low l g base ad S z216 (S 3 1 0) rz216 (by omega)) t_122 (q_callB hK 121 14 123 t_121 t_14 t_123 f_yL_low ⟨Nat.le_of_ble_eq_true rfl, Nat.le_of_ble_eq_true rfl⟩) rfl rfl (Nat.le_of_ble_eq_true rfl) dL_acts_461 (c2 := 2) (s2 := 12) ⟨by first | rfl | (dsimp only; omega), by first | rfl | (dsimp only; omega)⟩ ⟨by show 2 ≤ 2970; omega, by show 12 ≤ 18559; omega⟩ (q_an (fun H locs hP hS => ?_))
                    obtain ⟨y217, hy217⟩ : ∃ y99 : Int, loF z216 (S 3 1 0) = y99 := ⟨_, rfl⟩
                    have by217 := lo_b z216 (show 1 ≤ (S 3 1 0) by omega)
                    rw [hy217] at by217
                    refine q_nm hy217 ?_
                    refine lv_istore (lv' := [(9, .int (i32 (y217))), (8, .int (i32 (y213))), (7, .int (i32 (y1))), (0, .ref (ad 1 0)), (1, .ref (ad 3 1)), (2, .ref (ad 3 2)), (3, .ref (ad 3 3)), (4, .ref (ad 3 4)), (5, .int (i32 (x))), (6, .int (i32 (y)))]) hx hb dL_acts_464 hl (by decide) rfl (fun ls hl => ?_)
                    by_cases h_F : S (10 + Int.toNat y213) 0 1 = S (4 + Int.toNat y217) 0 1 ∧ S (10 + Int.toNat y213) 0 0 = S (4 + Int.toNat y217) 0 0
                    · skip
                      obtain ⟨hd1, hd2, hd3⟩ := vd y217 (by omega) (by omega)
                      obtain ⟨⟨-, hcw1, hcw2⟩, -⟩ := hI.k.2.2 y217 (by omega) (by omega)
                      obtain ⟨-, pw8, ph8, -⟩ := (hI.pp c_215).1
                      have hm0 : 0 ≤ (S 3 2 (2 * y217)) * (S 3 2 ((2 * y217) + 1)) := Int.mul_nonneg (by omega) (by omega)
                      have hm1 : (S 3 2 (2 * y217)) * (S 3 2 ((2 * y217) + 1)) ≤ 240 := mul240 (by omega) (by omega) (by omega) (by omega)
                      refine lv_aload_n hx hb dL_acts_466 rfl (lv_at hl 3 rfl) ?_
                      refine lv_iload hx hb dL_acts_467 (lv_at hl 1 rfl) ?_
                      refine lv_iload hx hb dL_acts_469 (lv_at hl 0 rfl) ?_
                      have lnb := ln_b (S := S) (o := 10 + Int.toNat y213) (k := 4 + Int.toNat y217) (by omega) (by omega) h_F
                      obtain ⟨ln, hln⟩ : ∃ ln : Int, lnC S (10 + Int.toNat y213) (4 + Int.toNat y217) = ln := ⟨_, rfl⟩
                      rw [hln, ← hd1, ← hd3] at lnb
                      refine q_callH2 (As := [.ref (ad 1 0), .int (i32 (y213)), .int (i32 (y217))]) (rest := []) hx hb hml hl.1 hown hK hZ hP hS (c_L_likeness l g base ad S y213 y217 hfl hI.wc ⟨by omega, by omega⟩ ⟨by omega, by omega⟩) t_504 t_14 t_506 t_505 f_yL_likeness ⟨Nat.le_of_ble_eq_true rfl, Nat.le_of_ble_eq_true rfl⟩ rfl rfl (Nat.le_of_ble_eq_true rfl) dL_acts_471 (c2 := 4) (s2 := 24) ⟨by first | rfl | (dsimp only; omega), by first | rfl | (dsimp only; omega)⟩ ⟨by show 4 ≤ 2970; omega, by show 24 ≤ 18559; omega⟩ (q_an (fun H locs hP hS => ?_))
                      refine q_nm (b := ln) ((lv_0 ⟨c_215, hI.ce.mpr (by omega)⟩ trivial trivial).trans hln) ?_
                      refine lv_istore (lv' := [(10, .int (i32 (ln))), (9, .int (i32 (y217))), (8, .int (i32 (y213))), (7, .int (i32 (y1))), (0, .ref (ad 1 0)), (1, .ref (ad 3 1)), (2, .ref (ad 3 2)), (3, .ref (ad 3 3)), (4, .ref (ad 3 4)), (5, .int (i32 (x))), (6, .int (i32 (y)))]) hx hb dL_acts_474 hl (by decide) rfl (fun ls hl => ?_)
                      refine lv_aload_n hx hb dL_acts_476 rfl (lv_at hl 4 rfl) ?_
                      refine lv_iload hx hb dL_acts_477 (lv_at hl 2 rfl) ?_
                      refine lv_iconst (v := i32 (0)) hx hb dL_acts_479 rfl ?_
                      refine q_callH2 (As := [.ref (ad 1 0), .int (i32 (y213)), .int (i32 (0))]) (rest := []) hx hb hml hl.1 hown hK hZ hP hS (c_L_pieceIs l g base ad S y213 ((0 : Int)) hfl hI.wc ⟨by omega, by omega⟩ ⟨by decide, by decide⟩) t_266 t_14 t_268 t_267 f_yL_pieceIs ⟨Nat.le_of_ble_eq_true rfl, Nat.le_of_ble_eq_true rfl⟩ rfl rfl (Nat.le_of_ble_eq_true rfl) dL_acts_480 (c2 := 6) (s2 := 36) ⟨by first | rfl | (dsimp only; omega), by first | rfl | (dsimp only; omega)⟩ ⟨by show 6 ≤ 2970; omega, by show 36 ≤ 18559; omega⟩ (q_an (fun H locs hP hS => ?_))
                      refine q_nm (b := S (10 + Int.toNat y213) 0 0) (((lv_0 c_215 (by decide) trivial).trans (pcC_0 rfl))) ?_
                      refine lv_aload_n hx hb dL_acts_483 rfl (lv_at hl 6 rfl) ?_
                      refine lv_iconst (v := i32 (2)) hx hb dL_acts_484 rfl ?_
                      refine lv_iload hx hb dL_acts_485 (lv_at hl 1 rfl) ?_
                      refine q_imul hx hb dL_acts_487 ?_
                      refine p_iald (k := 3) (r := 2) (n := 10) hx hb hK hP hI.a.2.2 rfl rfl (by decide) (by decide) (by omega) (by omega) dL_acts_488 ?_
                      refine q_icmp_ne (tgt := 514) hx hb (rS _ _ _) (rS _ _ _) dL_acts_489 (by decide) (fun c_218 => (by exfalso; omega)) (fun c_218 => ?_)
                      refine lv_aload_n hx hb dL_acts_492 rfl (lv_at hl 4 rfl) ?_
                      refine lv_iload hx hb dL_acts_493 (lv_at hl 2 rfl) ?_
                      refine lv_iconst (v := i32 (1)) hx hb dL_acts_495 rfl ?_
                      refine q_callH2 (As := [.ref (ad 1 0), .int (i32 (y213)), .int (i32 (1))]) (rest := []) hx hb hml hl.1 hown hK hZ hP hS (c_L_pieceIs l g base ad S y213 ((1 : Int)) hfl hI.wc ⟨by omega, by omega⟩ ⟨by decide, by decide⟩) t_266 t_14 t_268 t_267 f_yL_pieceIs ⟨Nat.le_of_ble_eq_true rfl, Nat.le_of_ble_eq_true rfl⟩ rfl rfl (Nat.le_of_ble_eq_true rfl) dL_acts_496 (c2 := 8) (s2 := 48) ⟨by first | rfl | (dsimp only; omega), by first | rfl | (dsimp only; omega)⟩ ⟨by show 8 ≤ 2970; omega, by show 48 ≤ 18559; omega⟩ (q_an (fun H locs hP hS => ?_))
                      refine q_nm (b := S (10 + Int.toNat y213) 0 1) (((lv_0 c_215 (by decide) trivial).trans (pcC_1 rfl))) ?_
                      refine lv_aload_n hx hb dL_acts_499 rfl (lv_at hl 6 rfl) ?_
                      refine lv_iconst (v := i32 (2)) hx hb dL_acts_500 rfl ?_
                      refine lv_iload hx hb dL_acts_501 (lv_at hl 1 rfl) ?_
                      refine q_imul hx hb dL_acts_503 ?_
                      refine lv_iconst (v := i32 (1)) hx hb dL_acts_504 rfl ?_
                      refine q_iadd hx hb dL_acts_505 ?_
                      refine p_iald (k := 3) (r := 2) (n := 10) hx hb hK hP hI.a.2.2 rfl rfl (by decide) (by decide) (by omega) (by omega) dL_acts_506 ?_
                      refine q_icmp_ne (tgt := 514) hx hb (rS _ _ _) (rS _ _ _) dL_acts_507 (by decide) (fun c_219 => (by exfalso; omega)) (fun c_219 => ?_)
                      refine lv_iconst (v := i32 (1)) hx hb dL_acts_510 rfl ?_
                      refine lv_goto (tgt := 515) hx hb dL_acts_511 (by decide) ?_
                      refine lv_istore (lv' := [(11, .int (i32 (1))), (10, .int (i32 (ln))), (9, .int (i32 (y217))), (8, .int (i32 (y213))), (7, .int (i32 (y1))), (0, .ref (ad 1 0)), (1, .ref (ad 3 1)), (2, .ref (ad 3 2)), (3, .ref (ad 3 3)), (4, .ref (ad 3 4)), (5, .int (i32 (x))), (6, .int (i32 (y)))]) hx hb dL_acts_515 hl (by decide) rfl (fun ls hl => ?_)
                      refine lv_iload hx hb dL_acts_517 (lv_at hl 0 rfl) ?_
                      refine q_if_eq (tgt := 555) hx hb ⟨by decide, by decide⟩ dL_acts_519 (by decide) (fun h => by omega) (fun _ => ?_)
                      refine lv_iload hx hb dL_acts_522 (lv_at hl 1 rfl) ?_
                      refine q_if_lt (tgt := 551) hx hb ⟨by omega, by omega⟩ dL_acts_524 (by decide) (fun c_220 => (by exfalso; omega)) (fun c_220 => ?_)
                      refine lv_iload hx hb dL_acts_527 (lv_at hl 1 rfl) ?_
                      refine lv_aload_n hx hb dL_acts_529 rfl (lv_at hl 7 rfl) ?_
                      refine lv_iconst (v := i32 (2)) hx hb dL_acts_530 rfl ?_
                      refine lv_iload hx hb dL_acts_531 (lv_at hl 2 rfl) ?_
                      refine q_imul hx hb dL_acts_533 ?_
                      refine p_iald (k := 3) (r := 2) (n := 10) hx hb hK hP hI.a.2.2 rfl rfl (by decide) (by decide) (by omega) (by omega) dL_acts_534 ?_
                      refine lv_aload_n hx hb dL_acts_535 rfl (lv_at hl 7 rfl) ?_
                      refine lv_iconst (v := i32 (2)) hx hb dL_acts_536 rfl ?_
                      refine lv_iload hx hb dL_acts_537 (lv_at hl 2 rfl) ?_
                      refine q_imul hx hb dL_acts_539 ?_
                      refine lv_iconst (v := i32 (1)) hx hb dL_acts_540 rfl ?_
                      refine q_iadd hx hb dL_acts_541 ?_
                      refine p_iald (k := 3) (r := 2) (n := 10) hx hb hK hP hI.a.2.2 rfl rfl (by decide) (by decide) (by omega) (by omega) dL_acts_542 ?_
                      refine q_imul hx hb dL_acts_543 ?_
                      refine q_icmp_gt (tgt := 551) hx hb ⟨by omega, by omega⟩ ⟨by omega, by omega⟩ dL_acts_544 (by decide) (fun c_221 => (by exfalso; omega)) (fun c_221 => ?_)
                      refine lv_iconst (v := i32 (1)) hx hb dL_acts_547 rfl ?_
                      refine lv_goto (tgt := 566) hx hb dL_acts_548 (by decide) ?_
                      refine lv_istore (lv' := [(12, .int (i32 (1))), (11, .int (i32 (1))), (10, .int (i32 (ln))), (9, .int (i32 (y217))), (8, .int (i32 (y213))), (7, .int (i32 (y1))), (0, .ref (ad 1 0)), (1, .ref (ad 3 1)), (2, .ref (ad 3 2)), (3, .ref (ad 3 3)), (4, .ref (ad 3 4)), (5, .int (i32 (x))), (6, .int (i32 (y)))]) hx hb dL_acts_566 hl (by decide) rfl (fun ls hl => ?_)
                      refine lv_iload hx hb dL_acts_568 (lv_at hl 0 rfl) ?_
                      refine q_if_eq (tgt := 673) hx hb ⟨by decide, by decide⟩ dL_acts_570 (by decide) (fun h => by omega) (fun _ => ?_)
                      refine lv_iload hx hb dL_acts_573 (lv_at hl 5 rfl) ?_
                      refine lv_bipush (v := i32 (12)) hx hb dL_acts_575 (by decide) ?_
                      refine q_icmp_ne (tgt := 596) hx hb ⟨by omega, by omega⟩ ⟨by decide, by decide⟩ dL_acts_577 (by decide) (fun c_222 => ?_) (fun c_222 => ?_)
                      · -- y1 ≠ 12
                        refine lv_iload hx hb dL_acts_596 (lv_at hl 5 rfl) ?_
                        refine lv_bipush (v := i32 (13)) hx hb dL_acts_598 (by decide) ?_
                        refine q_icmp_ne (tgt := 617) hx hb ⟨by omega, by omega⟩ ⟨by decide, by decide⟩ dL_acts_600 (by decide) (fun c_223 => ?_) (fun c_223 => ?_)
                        · -- y1 ≠ 13
                          refine lv_iload hx hb dL_acts_617 (lv_at hl 5 rfl) ?_
                          refine lv_bipush (v := i32 (14)) hx hb dL_acts_619 (by decide) ?_
                          refine q_icmp_ne (tgt := 645) hx hb ⟨by omega, by omega⟩ ⟨by decide, by decide⟩ dL_acts_621 (by decide) (fun c_224 => ?_) (fun c_224 => ?_)
                          · -- y1 ≠ 14
                            refine lv_aload_n hx hb dL_acts_645 rfl (lv_at hl 6 rfl) ?_
                            refine lv_aload_n hx hb dL_acts_646 rfl (lv_at hl 9 rfl) ?_
                            refine lv_iload hx hb dL_acts_647 (lv_at hl 4 rfl) ?_
                            refine q_callS2 (As := [.ref (ad 1 0), .ref (ad 3 3), .int (i32 (y213))]) (rest := []) hx hb hml hl.1 hown hK hZ hP hS (c_L_isPiece l g base ad S y213 hfl hI c_215 hV.2.2.2 ⟨by omega, by omega⟩) t_329 (q_callB hK 328 14 330 t_328 t_14 t_330 f_yL_isPiece ⟨Nat.le_of_ble_eq_true rfl, Nat.le_of_ble_eq_true rfl⟩) rfl rfl (Nat.le_of_ble_eq_true rfl) dL_acts_649 (c2 := 1468) (s2 := 8808) ⟨by first | rfl | (dsimp only; omega), by first | rfl | (dsimp only; omega)⟩ ⟨by show 1468 ≤ 2970; omega, by show 8808 ≤ 18559; omega⟩ (q_an (fun H locs hP hS => ?_))
                            refine q_if_eq (tgt := 673) hx hb ⟨by decide, by decide⟩ dL_acts_652 (by decide) (fun h => by omega) (fun _ => ?_)
                            refine lv_aload_n hx hb dL_acts_655 rfl (lv_at hl 6 rfl) ?_
                            refine q_callV2 (k := 1) (As := []) (rest := []) hx hb hml hl.1 hown hK hZ hP hS hI.a.1 rfl rfl rfl (c_X3_balances l g base ad S  hI.wc) t_91 t_92 (q_callB hK 90 15 93 t_90 t_15 t_93 f_yX3_balances ⟨Nat.le_of_ble_eq_true rfl, Nat.le_of_ble_eq_true rfl⟩) rfl rfl (Nat.le_of_ble_eq_true rfl) dL_acts_656 (c2 := 1468) (s2 := 8808) ⟨by first | rfl | (dsimp only; omega), by first | rfl | (dsimp only; omega)⟩ ⟨by show 1468 ≤ 2970; omega, by show 8808 ≤ 18559; omega⟩ (q_an (fun H locs hP hS => ?_))
                            generalize eS225 : blS S 20 = S225 at hP
                            have rS225 : ∀ (a1 b1 : Nat) (i1 : Int), rng (S225 a1 b1 i1) := fun a1 b1 i1 => hP.rg a1 b1 i1
                            have ivS225 : IV S225 := by rw [← eS225]; exact IV_bl hI
                            have h3S225 : ∀ (b1 : Nat) (i1 : Int), S225 3 b1 i1 = S 3 b1 i1 := by rw [← eS225]; exact fun b i => blS_o (by omega)
                            have lv9 : LV S225 := by rw [← eS225]; exact LV_k hV hI.k.1.2 (fun b i => blS_o (by omega)) (blS_o (by omega)) (blS_o (by omega)) (blS_o (by omega)) (fun j => blS_o (by omega)) (fun a h1 h2 => ⟨blS_o (by omega), blS_o (by omega)⟩)
                            refine q_if_eqb (tgt := 673) hx hb dL_acts_659 (by decide) (fun c_226 => (by exfalso; exact c_226 hI.b)) (fun c_226 => ?_)
                            refine lv_aload_n hx hb dL_acts_662 rfl (lv_at hl 6 rfl) ?_
                            have gdb := gd_b ivS225
                            refine q_callV2 (k := 1) (As := []) (rest := []) hx hb hml hl.1 hown hK hZ hP hS ivS225.a.1 rfl rfl rfl (c_X3_gold l g base ad S225  ivS225.wc) t_707 t_708 (q_callB hK 706 15 709 t_706 t_15 t_709 f_yX3_gold ⟨Nat.le_of_ble_eq_true rfl, Nat.le_of_ble_eq_true rfl⟩) rfl rfl (Nat.le_of_ble_eq_true rfl) dL_acts_663 (c2 := 1468) (s2 := 8808) ⟨by first | rfl | (dsimp only; omega), by first | rfl | (dsimp only; omega)⟩ ⟨by show 1468 ≤ 2970; omega, by show 8808 ≤ 18559; omega⟩ (q_an (fun H locs hP hS => ?_))
                            refine q_if_lt (tgt := 673) hx hb ⟨by omega, by omega⟩ dL_acts_666 (by decide) (fun c_227 => (by exfalso; omega)) (fun c_227 => ?_)
                            refine lv_iconst (v := i32 (1)) hx hb dL_acts_669 rfl ?_
                            refine lv_goto (tgt := 674) hx hb dL_acts_670 (by decide) ?_
                            subst hQm
                            exact q_zret hx hb hr hlocks hP hS (v := 1) (by decide) (by exact ⟨⟨rfl, (fun _ _ _ => rfl)⟩, ivS225, lv9⟩) (by show 1468 ≤ 2970; omega) (by show 8808 ≤ 18559; omega) dL_acts_674
                          · -- y1 = 14
                            refine lv_aload_n hx hb dL_acts_624 rfl (lv_at hl 6 rfl) ?_
                            refine lv_aload hx hb dL_acts_625 (lv_at hl 10 rfl) ?_
                            refine lv_iload hx hb dL_acts_627 (lv_at hl 4 rfl) ?_
                            refine lv_iload hx hb dL_acts_629 (lv_at hl 11 rfl) ?_
                            refine lv_bipush (v := i32 (9)) hx hb dL_acts_631 (by decide) ?_
                            refine lv_ishr hx hb dL_acts_633 ?_
                            obtain ⟨z228, rz228, hz228⟩ := i32_of (i32 (x) >>> (i32 (9) &&& 31))
                            rw [hz228]
                            refine lv_iload hx hb dL_acts_634 (lv_at hl 12 rfl) ?_
                            refine q_callS2 (As := [.ref (ad 1 0), .ref (ad 3 4), .int (i32 (y213)), .int (i32 (z228)), .int (i32 (y))]) (rest := []) hx hb hml hl.1 hown hK hZ hP hS (c_L_wears l g base ad S y213 z228 y hfl hI hV c_215 ⟨by omega, by omega⟩ rz228 hrn2) t_688 (q_callB hK 687 14 689 t_687 t_14 t_689 f_yL_wears ⟨Nat.le_of_ble_eq_true rfl, Nat.le_of_ble_eq_true rfl⟩) rfl rfl (Nat.le_of_ble_eq_true rfl) dL_acts_636 (c2 := 16) (s2 := 96) ⟨by first | rfl | (dsimp only; omega), by first | rfl | (dsimp only; omega)⟩ ⟨by show 16 ≤ 2970; omega, by show 96 ≤ 18559; omega⟩ (fun rr ad' S' H locs hQ hP hS => ?_)
                            obtain ⟨⟨hr9, ek9⟩, hI9, hV9⟩ := hQ
                            subst hr9
                            obtain ⟨S229, hS229⟩ : ∃ s9 : St, s9 = S' := ⟨_, rfl⟩
                            rw [← hS229] at hI9 hV9 hP
                            obtain ⟨ad229, had229⟩ : ∃ a9 : Nat → Nat → Nat, a9 = ad' := ⟨_, rfl⟩
                            rw [← had229] at ek9 hP
                            have ek_ad229 : ∀ x q, x < 4 → ad229 x q = ad x q := fun x q h => (ek9 x q h)
                            have el_ad229 : ∀ x q, x < 4 → ad229 x q = ad x q := ek9
                            have hl : lv_has ls 13 [(12, .int (i32 (1))), (11, .int (i32 (1))), (10, .int (i32 (ln))), (9, .int (i32 (y217))), (8, .int (i32 (y213))), (7, .int (i32 (y1))), (0, .ref (ad229 1 0)), (1, .ref (ad229 3 1)), (2, .ref (ad229 3 2)), (3, .ref (ad229 3 3)), (4, .ref (ad229 3 4)), (5, .int (i32 (x))), (6, .int (i32 (y)))] := by
                              have t9 := hl
                              rw [← el_ad229 1 0 (by decide), ← el_ad229 3 1 (by decide), ← el_ad229 3 2 (by decide), ← el_ad229 3 3 (by decide), ← el_ad229 3 4 (by decide)] at t9
                              exact t9
                            skip
                            have ivS229 : IV S229 := hI9
                            have lvS229 : LV S229 := hV9
                            have rS229 : ∀ (a1 b1 : Nat) (i1 : Int), rng (S229 a1 b1 i1) := fun a1 b1 i1 => hP.rg a1 b1 i1
                            refine q_if_eq (tgt := 673) hx hb ⟨by decide, by decide⟩ dL_acts_639 (by decide) (fun h => by omega) (fun _ => ?_)
                            refine lv_goto (tgt := 669) hx hb dL_acts_642 (by decide) ?_
                            refine lv_iconst (v := i32 (1)) hx hb dL_acts_669 rfl ?_
                            refine lv_goto (tgt := 674) hx hb dL_acts_670 (by decide) ?_
                            subst hQm
                            exact q_zret hx hb hr hlocks hP hS (v := 1) (by decide) (by exact ⟨⟨rfl, ek_ad229⟩, ivS229, lvS229⟩) (by show 16 ≤ 2970; omega) (by show 96 ≤ 18559; omega) dL_acts_674
                        · -- y1 = 13
                          refine lv_aload_n hx hb dL_acts_603 rfl (lv_at hl 6 rfl) ?_
                          refine lv_iload hx hb dL_acts_604 (lv_at hl 4 rfl) ?_
                          refine lv_iload hx hb dL_acts_606 (lv_at hl 12 rfl) ?_
                          refine q_callS2 (As := [.ref (ad 1 0), .int (i32 (y213)), .int (i32 (y))]) (rest := []) hx hb hml hl.1 hown hK hZ hP hS (c_L_sews l g base ad S y213 y hfl hI hV c_215 ⟨by omega, by omega⟩ hrn2) t_673 (q_callB hK 672 14 674 t_672 t_14 t_674 f_yL_sews ⟨Nat.le_of_ble_eq_true rfl, Nat.le_of_ble_eq_true rfl⟩) rfl rfl (Nat.le_of_ble_eq_true rfl) dL_acts_608 (c2 := 22) (s2 := 132) ⟨by first | rfl | (dsimp only; omega), by first | rfl | (dsimp only; omega)⟩ ⟨by show 22 ≤ 2970; omega, by show 132 ≤ 18559; omega⟩ (fun rr ad' S' H locs hQ hP hS => ?_)
                          obtain ⟨⟨hr9, ek9⟩, hI9, hV9⟩ := hQ
                          subst hr9
                          obtain ⟨S230, hS230⟩ : ∃ s9 : St, s9 = S' := ⟨_, rfl⟩
                          rw [← hS230] at hI9 hV9 hP
                          obtain ⟨ad230, had230⟩ : ∃ a9 : Nat → Nat → Nat, a9 = ad' := ⟨_, rfl⟩
                          rw [← had230] at ek9 hP
                          have ek_ad230 : ∀ x q, x < 4 → ad230 x q = ad x q := fun x q h => (ek9 x q h)
                          have el_ad230 : ∀ x q, x < 4 → ad230 x q = ad x q := ek9
                          have hl : lv_has ls 13 [(12, .int (i32 (1))), (11, .int (i32 (1))), (10, .int (i32 (ln))), (9, .int (i32 (y217))), (8, .int (i32 (y213))), (7, .int (i32 (y1))), (0, .ref (ad230 1 0)), (1, .ref (ad230 3 1)), (2, .ref (ad230 3 2)), (3, .ref (ad230 3 3)), (4, .ref (ad230 3 4)), (5, .int (i32 (x))), (6, .int (i32 (y)))] := by
                            have t9 := hl
                            rw [← el_ad230 1 0 (by decide), ← el_ad230 3 1 (by decide), ← el_ad230 3 2 (by decide), ← el_ad230 3 3 (by decide), ← el_ad230 3 4 (by decide)] at t9
                            exact t9
                          skip
                          have ivS230 : IV S230 := hI9
                          have lvS230 : LV S230 := hV9
                          have rS230 : ∀ (a1 b1 : Nat) (i1 : Int), rng (S230 a1 b1 i1) := fun a1 b1 i1 => hP.rg a1 b1 i1
                          refine q_if_eq (tgt := 673) hx hb ⟨by decide, by decide⟩ dL_acts_611 (by decide) (fun h => by omega) (fun _ => ?_)
                          refine lv_goto (tgt := 669) hx hb dL_acts_614 (by decide) ?_
                          refine lv_iconst (v := i32 (1)) hx hb dL_acts_669 rfl ?_
                          refine lv_goto (tgt := 674) hx hb dL_acts_670 (by decide) ?_
                          subst hQm
                          exact q_zret hx hb hr hlocks hP hS (v := 1) (by decide) (by exact ⟨⟨rfl, ek_ad230⟩, ivS230, lvS230⟩) (by show 22 ≤ 2970; omega) (by show 132 ≤ 18559; omega) dL_acts_674
                      · -- y1 = 12
                        refine lv_aload_n hx hb dL_acts_580 rfl (lv_at hl 6 rfl) ?_
                        refine lv_aload_n hx hb dL_acts_581 rfl (lv_at hl 7 rfl) ?_
                        refine lv_aload_n hx hb dL_acts_582 rfl (lv_at hl 9 rfl) ?_
                        refine lv_iload hx hb dL_acts_583 (lv_at hl 4 rfl) ?_
                        refine lv_iload hx hb dL_acts_585 (lv_at hl 12 rfl) ?_
                        refine q_callS2 (As := [.ref (ad 1 0), .ref (ad 3 1), .ref (ad 3 3), .int (i32 (y213)), .int (i32 (y))]) (rest := []) hx hb hml hl.1 hown hK hZ hP hS (c_L_cuts l g base ad S y213 y hfl hI hV c_215 ⟨by omega, by omega⟩ hrn2) t_655 (q_callB hK 654 14 656 t_654 t_14 t_656 f_yL_cuts ⟨Nat.le_of_ble_eq_true rfl, Nat.le_of_ble_eq_true rfl⟩) rfl rfl (Nat.le_of_ble_eq_true rfl) dL_acts_587 (c2 := 2970) (s2 := 18559) ⟨by first | rfl | (dsimp only; omega), by first | rfl | (dsimp only; omega)⟩ ⟨by show 2970 ≤ 2970; omega, by show 18559 ≤ 18559; omega⟩ (fun rr ad' S' H locs hQ hP hS => ?_)
                        obtain ⟨⟨hr9, ek9⟩, hI9, hV9⟩ := hQ
                        subst hr9
                        obtain ⟨S231, hS231⟩ : ∃ s9 : St, s9 = S' := ⟨_, rfl⟩
                        rw [← hS231] at hI9 hV9 hP
                        obtain ⟨ad231, had231⟩ : ∃ a9 : Nat → Nat → Nat, a9 = ad' := ⟨_, rfl⟩
                        rw [← had231] at ek9 hP
                        have ek_ad231 : ∀ x q, x < 4 → ad231 x q = ad x q := fun x q h => (ek9 x q h)
                        have el_ad231 : ∀ x q, x < 4 → ad231 x q = ad x q := ek9
                        have hl : lv_has ls 13 [(12, .int (i32 (1))), (11, .int (i32 (1))), (10, .int (i32 (ln))), (9, .int (i32 (y217))), (8, .int (i32 (y213))), (7, .int (i32 (y1))), (0, .ref (ad231 1 0)), (1, .ref (ad231 3 1)), (2, .ref (ad231 3 2)), (3, .ref (ad231 3 3)), (4, .ref (ad231 3 4)), (5, .int (i32 (x))), (6, .int (i32 (y)))] := by
                          have t9 := hl
                          rw [← el_ad231 1 0 (by decide), ← el_ad231 3 1 (by decide), ← el_ad231 3 2 (by decide), ← el_ad231 3 3 (by decide), ← el_ad231 3 4 (by decide)] at t9
                          exact t9
                        skip
                        have ivS231 : IV S231 := hI9
                        have lvS231 : LV S231 := hV9
                        have rS231 : ∀ (a1 b1 : Nat) (i1 : Int), rng (S231 a1 b1 i1) := fun a1 b1 i1 => hP.rg a1 b1 i1
                        refine q_if_eq (tgt := 673) hx hb ⟨by decide, by decide⟩ dL_acts_590 (by decide) (fun h => by omega) (fun _ => ?_)
                        refine lv_goto (tgt := 669) hx hb dL_acts_593 (by decide) ?_
                        refine lv_iconst (v := i32 (1)) hx hb dL_acts_669 rfl ?_
                        refine lv_goto (tgt := 674) hx hb dL_acts_670 (by decide) ?_
                        subst hQm
                        exact q_zret hx hb hr hlocks hP hS (v := 1) (by decide) (by exact ⟨⟨rfl, ek_ad231⟩, ivS231, lvS231⟩) (by show 2970 ≤ 2970; omega) (by show 18559 ≤ 18559; omega) dL_acts_674
                    · skip
                      obtain ⟨hd1, hd2, hd3⟩ := vd y217 (by omega) (by omega)
                      obtain ⟨⟨-, hcw1, hcw2⟩, -⟩ := hI.k.2.2 y217 (by omega) (by omega)
                      obtain ⟨-, pw8, ph8, -⟩ := (hI.pp c_215).1
                      have hm0 : 0 ≤ (S 3 2 (2 * y217)) * (S 3 2 ((2 * y217) + 1)) := Int.mul_nonneg (by omega) (by omega)
                      have hm1 : (S 3 2 (2 * y217)) * (S 3 2 ((2 * y217) + 1)) ≤ 240 := mul240 (by omega) (by omega) (by omega) (by omega)
                      refine lv_aload_n hx hb dL_acts_466 rfl (lv_at hl 3 rfl) ?_
                      refine lv_iload hx hb dL_acts_467 (lv_at hl 1 rfl) ?_
                      refine lv_iload hx hb dL_acts_469 (lv_at hl 0 rfl) ?_
                      refine q_callH2 (As := [.ref (ad 1 0), .int (i32 (y213)), .int (i32 (y217))]) (rest := []) hx hb hml hl.1 hown hK hZ hP hS (c_L_likeness l g base ad S y213 y217 hfl hI.wc ⟨by omega, by omega⟩ ⟨by omega, by omega⟩) t_504 t_14 t_506 t_505 f_yL_likeness ⟨Nat.le_of_ble_eq_true rfl, Nat.le_of_ble_eq_true rfl⟩ rfl rfl (Nat.le_of_ble_eq_true rfl) dL_acts_471 (c2 := 4) (s2 := 24) ⟨by first | rfl | (dsimp only; omega), by first | rfl | (dsimp only; omega)⟩ ⟨by show 4 ≤ 2970; omega, by show 24 ≤ 18559; omega⟩ (q_an (fun H locs hP hS => ?_))
                      refine q_nm (b := -1) ((lv_0 ⟨c_215, hI.ce.mpr (by omega)⟩ trivial trivial).trans (cif_f h_F)) ?_
                      refine lv_istore (lv' := [(10, .int (i32 (-1))), (9, .int (i32 (y217))), (8, .int (i32 (y213))), (7, .int (i32 (y1))), (0, .ref (ad 1 0)), (1, .ref (ad 3 1)), (2, .ref (ad 3 2)), (3, .ref (ad 3 3)), (4, .ref (ad 3 4)), (5, .int (i32 (x))), (6, .int (i32 (y)))]) hx hb dL_acts_474 hl (by decide) rfl (fun ls hl => ?_)
                      refine lv_aload_n hx hb dL_acts_476 rfl (lv_at hl 4 rfl) ?_
                      refine lv_iload hx hb dL_acts_477 (lv_at hl 2 rfl) ?_
                      refine lv_iconst (v := i32 (0)) hx hb dL_acts_479 rfl ?_
                      refine q_callH2 (As := [.ref (ad 1 0), .int (i32 (y213)), .int (i32 (0))]) (rest := []) hx hb hml hl.1 hown hK hZ hP hS (c_L_pieceIs l g base ad S y213 ((0 : Int)) hfl hI.wc ⟨by omega, by omega⟩ ⟨by decide, by decide⟩) t_266 t_14 t_268 t_267 f_yL_pieceIs ⟨Nat.le_of_ble_eq_true rfl, Nat.le_of_ble_eq_true rfl⟩ rfl rfl (Nat.le_of_ble_eq_true rfl) dL_acts_480 (c2 := 6) (s2 := 36) ⟨by first | rfl | (dsimp only; omega), by first | rfl | (dsimp only; omega)⟩ ⟨by show 6 ≤ 2970; omega, by show 36 ≤ 18559; omega⟩ (q_an (fun H locs hP hS => ?_))
                      refine q_nm (b := S (10 + Int.toNat y213) 0 0) (((lv_0 c_215 (by decide) trivial).trans (pcC_0 rfl))) ?_
                      refine lv_aload_n hx hb dL_acts_483 rfl (lv_at hl 6 rfl) ?_
                      refine lv_iconst (v := i32 (2)) hx hb dL_acts_484 rfl ?_
                      refine lv_iload hx hb dL_acts_485 (lv_at hl 1 rfl) ?_
                      refine q_imul hx hb dL_acts_487 ?_
                      refine p_iald (k := 3) (r := 2) (n := 10) hx hb hK hP hI.a.2.2 rfl rfl (by decide) (by decide) (by omega) (by omega) dL_acts_488 ?_
                      refine q_icmp_ne (tgt := 514) hx hb (rS _ _ _) (rS _ _ _) dL_acts_489 (by decide) (fun c_232 => ?_) (fun c_232 => ?_)
                      · -- (S (10 + Int.toNat y213) 0 0) ≠ (S 3 2 (2 * y217))
                        refine lv_iconst (v := i32 (0)) hx hb dL_acts_514 rfl ?_
                        refine lv_istore (lv' := [(11, .int (i32 (0))), (10, .int (i32 (-1))), (9, .int (i32 (y217))), (8, .int (i32 (y213))), (7, .int (i32 (y1))), (0, .ref (ad 1 0)), (1, .ref (ad 3 1)), (2, .ref (ad 3 2)), (3, .ref (ad 3 3)), (4, .ref (ad 3 4)), (5, .int (i32 (x))), (6, .int (i32 (y)))]) hx hb dL_acts_515 hl (by decide) rfl (fun ls hl => ?_)
                        refine lv_iload hx hb dL_acts_517 (lv_at hl 0 rfl) ?_
                        refine q_if_eq (tgt := 555) hx hb ⟨by decide, by decide⟩ dL_acts_519 (by decide) (fun _ => ?_) (fun h => by omega)
                        refine lv_iload hx hb dL_acts_555 (lv_at hl 1 rfl) ?_
                        refine lv_iconst (v := i32 (-1)) hx hb dL_acts_557 rfl ?_
                        refine q_icmp_ne (tgt := 565) hx hb ⟨by decide, by decide⟩ ⟨by decide, by decide⟩ dL_acts_558 (by decide) (fun c_233 => (by exfalso; omega)) (fun c_233 => ?_)
                        refine lv_iconst (v := i32 (1)) hx hb dL_acts_561 rfl ?_
                        refine lv_goto (tgt := 566) hx hb dL_acts_562 (by decide) ?_
                        refine lv_istore (lv' := [(12, .int (i32 (1))), (11, .int (i32 (0))), (10, .int (i32 (-1))), (9, .int (i32 (y217))), (8, .int (i32 (y213))), (7, .int (i32 (y1))), (0, .ref (ad 1 0)), (1, .ref (ad 3 1)), (2, .ref (ad 3 2)), (3, .ref (ad 3 3)), (4, .ref (ad 3 4)), (5, .int (i32 (x))), (6, .int (i32 (y)))]) hx hb dL_acts_566 hl (by decide) rfl (fun ls hl => ?_)
                        refine lv_iload hx hb dL_acts_568 (lv_at hl 0 rfl) ?_
                        refine q_if_eq (tgt := 673) hx hb ⟨by decide, by decide⟩ dL_acts_570 (by decide) (fun h => by omega) (fun _ => ?_)
                        refine lv_iload hx hb dL_acts_573 (lv_at hl 5 rfl) ?_
                        refine lv_bipush (v := i32 (12)) hx hb dL_acts_575 (by decide) ?_
                        refine q_icmp_ne (tgt := 596) hx hb ⟨by omega, by omega⟩ ⟨by decide, by decide⟩ dL_acts_577 (by decide) (fun c_234 => ?_) (fun c_234 => ?_)
                        · -- y1 ≠ 12
                          refine lv_iload hx hb dL_acts_596 (lv_at hl 5 rfl) ?_
                          refine lv_bipush (v := i32 (13)) hx hb dL_acts_598 (by decide) ?_
                          refine q_icmp_ne (tgt := 617) hx hb ⟨by omega, by omega⟩ ⟨by decide, by decide⟩ dL_acts_600 (by decide) (fun c_235 => ?_) (fun c_235 => ?_)
                          · -- y1 ≠ 13
                            refine lv_iload hx hb dL_acts_617 (lv_at hl 5 rfl) ?_
                            refine lv_bipush (v := i32 (14)) hx hb dL_acts_619 (by decide) ?_
                            refine q_icmp_ne (tgt := 645) hx hb ⟨by omega, by omega⟩ ⟨by decide, by decide⟩ dL_acts_621 (by decide) (fun c_236 => ?_) (fun c_236 => ?_)
                            · -- y1 ≠ 14
                              refine lv_aload_n hx hb dL_acts_645 rfl (lv_at hl 6 rfl) ?_
                              refine lv_aload_n hx hb dL_acts_646 rfl (lv_at hl 9 rfl) ?_
                              refine lv_iload hx hb dL_acts_647 (lv_at hl 4 rfl) ?_
                              refine q_callS2 (As := [.ref (ad 1 0), .ref (ad 3 3), .int (i32 (y213))]) (rest := []) hx hb hml hl.1 hown hK hZ hP hS (c_L_isPiece l g base ad S y213 hfl hI c_215 hV.2.2.2 ⟨by omega, by omega⟩) t_329 (q_callB hK 328 14 330 t_328 t_14 t_330 f_yL_isPiece ⟨Nat.le_of_ble_eq_true rfl, Nat.le_of_ble_eq_true rfl⟩) rfl rfl (Nat.le_of_ble_eq_true rfl) dL_acts_649 (c2 := 1466) (s2 := 8796) ⟨by first | rfl | (dsimp only; omega), by first | rfl | (dsimp only; omega)⟩ ⟨by show 1466 ≤ 2970; omega, by show 8796 ≤ 18559; omega⟩ (q_an (fun H locs hP hS => ?_))
                              refine q_if_eq (tgt := 673) hx hb ⟨by decide, by decide⟩ dL_acts_652 (by decide) (fun h => by omega) (fun _ => ?_)
                              refine lv_aload_n hx hb dL_acts_655 rfl (lv_at hl 6 rfl) ?_
                              refine q_callV2 (k := 1) (As := []) (rest := []) hx hb hml hl.1 hown hK hZ hP hS hI.a.1 rfl rfl rfl (c_X3_balances l g base ad S  hI.wc) t_91 t_92 (q_callB hK 90 15 93 t_90 t_15 t_93 f_yX3_balances ⟨Nat.le_of_ble_eq_true rfl, Nat.le_of_ble_eq_true rfl⟩) rfl rfl (Nat.le_of_ble_eq_true rfl) dL_acts_656 (c2 := 1466) (s2 := 8796) ⟨by first | rfl | (dsimp only; omega), by first | rfl | (dsimp only; omega)⟩ ⟨by show 1466 ≤ 2970; omega, by show 8796 ≤ 18559; omega⟩ (q_an (fun H locs hP hS => ?_))
                              generalize eS237 : blS S 20 = S237 at hP
                              have rS237 : ∀ (a1 b1 : Nat) (i1 : Int), rng (S237 a1 b1 i1) := fun a1 b1 i1 => hP.rg a1 b1 i1
                              have ivS237 : IV S237 := by rw [← eS237]; exact IV_bl hI
                              have h3S237 : ∀ (b1 : Nat) (i1 : Int), S237 3 b1 i1 = S 3 b1 i1 := by rw [← eS237]; exact fun b i => blS_o (by omega)
                              have lv9 : LV S237 := by rw [← eS237]; exact LV_k hV hI.k.1.2 (fun b i => blS_o (by omega)) (blS_o (by omega)) (blS_o (by omega)) (blS_o (by omega)) (fun j => blS_o (by omega)) (fun a h1 h2 => ⟨blS_o (by omega), blS_o (by omega)⟩)
                              refine q_if_eqb (tgt := 673) hx hb dL_acts_659 (by decide) (fun c_238 => (by exfalso; exact c_238 hI.b)) (fun c_238 => ?_)
                              refine lv_aload_n hx hb dL_acts_662 rfl (lv_at hl 6 rfl) ?_
                              have gdb := gd_b ivS237
                              refine q_callV2 (k := 1) (As := []) (rest := []) hx hb hml hl.1 hown hK hZ hP hS ivS237.a.1 rfl rfl rfl (c_X3_gold l g base ad S237  ivS237.wc) t_707 t_708 (q_callB hK 706 15 709 t_706 t_15 t_709 f_yX3_gold ⟨Nat.le_of_ble_eq_true rfl, Nat.le_of_ble_eq_true rfl⟩) rfl rfl (Nat.le_of_ble_eq_true rfl) dL_acts_663 (c2 := 1466) (s2 := 8796) ⟨by first | rfl | (dsimp only; omega), by first | rfl | (dsimp only; omega)⟩ ⟨by show 1466 ≤ 2970; omega, by show 8796 ≤ 18559; omega⟩ (q_an (fun H locs hP hS => ?_))
                              refine q_if_lt (tgt := 673) hx hb ⟨by omega, by omega⟩ dL_acts_666 (by decide) (fun c_239 => (by exfalso; omega)) (fun c_239 => ?_)
                              refine lv_iconst (v := i32 (1)) hx hb dL_acts_669 rfl ?_
                              refine lv_goto (tgt := 674) hx hb dL_acts_670 (by decide) ?_
                              subst hQm
                              exact q_zret hx hb hr hlocks hP hS (v := 1) (by decide) (by exact ⟨⟨rfl, (fun _ _ _ => rfl)⟩, ivS237, lv9⟩) (by show 1466 ≤ 2970; omega) (by show 8796 ≤ 18559; omega) dL_acts_674
                            · -- y1 = 14
                              refine lv_aload_n hx hb dL_acts_624 rfl (lv_at hl 6 rfl) ?_
                              refine lv_aload hx hb dL_acts_625 (lv_at hl 10 rfl) ?_
                              refine lv_iload hx hb dL_acts_627 (lv_at hl 4 rfl) ?_
                              refine lv_iload hx hb dL_acts_629 (lv_at hl 11 rfl) ?_
                              refine lv_bipush (v := i32 (9)) hx hb dL_acts_631 (by decide) ?_
                              refine lv_ishr hx hb dL_acts_633 ?_
                              obtain ⟨z240, rz240, hz240⟩ := i32_of (i32 (x) >>> (i32 (9) &&& 31))
                              rw [hz240]
                              refine lv_iload hx hb dL_acts_634 (lv_at hl 12 rfl) ?_
                              refine q_callS2 (As := [.ref (ad 1 0), .ref (ad 3 4), .int (i32 (y213)), .int (i32 (z240)), .int (i32 (y))]) (rest := []) hx hb hml hl.1 hown hK hZ hP hS (c_L_wears l g base ad S y213 z240 y hfl hI hV c_215 ⟨by omega, by omega⟩ rz240 hrn2) t_688 (q_callB hK 687 14 689 t_687 t_14 t_689 f_yL_wears ⟨Nat.le_of_ble_eq_true rfl, Nat.le_of_ble_eq_true rfl⟩) rfl rfl (Nat.le_of_ble_eq_true rfl) dL_acts_636 (c2 := 14) (s2 := 84) ⟨by first | rfl | (dsimp only; omega), by first | rfl | (dsimp only; omega)⟩ ⟨by show 14 ≤ 2970; omega, by show 84 ≤ 18559; omega⟩ (fun rr ad' S' H locs hQ hP hS => ?_)
                              obtain ⟨⟨hr9, ek9⟩, hI9, hV9⟩ := hQ
                              subst hr9
                              obtain ⟨S241, hS241⟩ : ∃ s9 : St, s9 = S' := ⟨_, rfl⟩
                              rw [← hS241] at hI9 hV9 hP
                              obtain ⟨ad241, had241⟩ : ∃ a9 : Nat → Nat → Nat, a9 = ad' := ⟨_, rfl⟩
                              rw [← had241] at ek9 hP
                              have ek_ad241 : ∀ x q, x < 4 → ad241 x q = ad x q := fun x q h => (ek9 x q h)
                              have el_ad241 : ∀ x q, x < 4 → ad241 x q = ad x q := ek9
                              have hl : lv_has ls 13 [(12, .int (i32 (1))), (11, .int (i32 (0))), (10, .int (i32 (-1))), (9, .int (i32 (y217))), (8, .int (i32 (y213))), (7, .int (i32 (y1))), (0, .ref (ad241 1 0)), (1, .ref (ad241 3 1)), (2, .ref (ad241 3 2)), (3, .ref (ad241 3 3)), (4, .ref (ad241 3 4)), (5, .int (i32 (x))), (6, .int (i32 (y)))] := by
                                have t9 := hl
                                rw [← el_ad241 1 0 (by decide), ← el_ad241 3 1 (by decide), ← el_ad241 3 2 (by decide), ← el_ad241 3 3 (by decide), ← el_ad241 3 4 (by decide)] at t9
                                exact t9
                              skip
                              have ivS241 : IV S241 := hI9
                              have lvS241 : LV S241 := hV9
                              have rS241 : ∀ (a1 b1 : Nat) (i1 : Int), rng (S241 a1 b1 i1) := fun a1 b1 i1 => hP.rg a1 b1 i1
                              refine q_if_eq (tgt := 673) hx hb ⟨by decide, by decide⟩ dL_acts_639 (by decide) (fun h => by omega) (fun _ => ?_)
                              refine lv_goto (tgt := 669) hx hb dL_acts_642 (by decide) ?_
                              refine lv_iconst (v := i32 (1)) hx hb dL_acts_669 rfl ?_
                              refine lv_goto (tgt := 674) hx hb dL_acts_670 (by decide) ?_
                              subst hQm
                              exact q_zret hx hb hr hlocks hP hS (v := 1) (by decide) (by exact ⟨⟨rfl, ek_ad241⟩, ivS241, lvS241⟩) (by show 14 ≤ 2970; omega) (by show 84 ≤ 18559; omega) dL_acts_674
                          · -- y1 = 13
                            refine lv_aload_n hx hb dL_acts_603 rfl (lv_at hl 6 rfl) ?_
                            refine lv_iload hx hb dL_acts_604 (lv_at hl 4 rfl) ?_
                            refine lv_iload hx hb dL_acts_606 (lv_at hl 12 rfl) ?_
                            refine q_callS2 (As := [.ref (ad 1 0), .int (i32 (y213)), .int (i32 (y))]) (rest := []) hx hb hml hl.1 hown hK hZ hP hS (c_L_sews l g base ad S y213 y hfl hI hV c_215 ⟨by omega, by omega⟩ hrn2) t_673 (q_callB hK 672 14 674 t_672 t_14 t_674 f_yL_sews ⟨Nat.le_of_ble_eq_true rfl, Nat.le_of_ble_eq_true rfl⟩) rfl rfl (Nat.le_of_ble_eq_true rfl) dL_acts_608 (c2 := 20) (s2 := 120) ⟨by first | rfl | (dsimp only; omega), by first | rfl | (dsimp only; omega)⟩ ⟨by show 20 ≤ 2970; omega, by show 120 ≤ 18559; omega⟩ (fun rr ad' S' H locs hQ hP hS => ?_)
                            obtain ⟨⟨hr9, ek9⟩, hI9, hV9⟩ := hQ
                            subst hr9
                            obtain ⟨S242, hS242⟩ : ∃ s9 : St, s9 = S' := ⟨_, rfl⟩
                            rw [← hS242] at hI9 hV9 hP
                            obtain ⟨ad242, had242⟩ : ∃ a9 : Nat → Nat → Nat, a9 = ad' := ⟨_, rfl⟩
                            rw [← had242] at ek9 hP
                            have ek_ad242 : ∀ x q, x < 4 → ad242 x q = ad x q := fun x q h => (ek9 x q h)
                            have el_ad242 : ∀ x q, x < 4 → ad242 x q = ad x q := ek9
                            have hl : lv_has ls 13 [(12, .int (i32 (1))), (11, .int (i32 (0))), (10, .int (i32 (-1))), (9, .int (i32 (y217))), (8, .int (i32 (y213))), (7, .int (i32 (y1))), (0, .ref (ad242 1 0)), (1, .ref (ad242 3 1)), (2, .ref (ad242 3 2)), (3, .ref (ad242 3 3)), (4, .ref (ad242 3 4)), (5, .int (i32 (x))), (6, .int (i32 (y)))] := by
                              have t9 := hl
                              rw [← el_ad242 1 0 (by decide), ← el_ad242 3 1 (by decide), ← el_ad242 3 2 (by decide), ← el_ad242 3 3 (by decide), ← el_ad242 3 4 (by decide)] at t9
                              exact t9
                            skip
                            have ivS242 : IV S242 := hI9
                            have lvS242 : LV S242 := hV9
                            have rS242 : ∀ (a1 b1 : Nat) (i1 : Int), rng (S242 a1 b1 i1) := fun a1 b1 i1 => hP.rg a1 b1 i1
                            refine q_if_eq (tgt := 673) hx hb ⟨by decide, by decide⟩ dL_acts_611 (by decide) (fun h => by omega) (fun _ => ?_)
                            refine lv_goto (tgt := 669) hx hb dL_acts_614 (by decide) ?_
                            refine lv_iconst (v := i32 (1)) hx hb dL_acts_669 rfl ?_
                            refine lv_goto (tgt := 674) hx hb dL_acts_670 (by decide) ?_
                            subst hQm
                            exact q_zret hx hb hr hlocks hP hS (v := 1) (by decide) (by exact ⟨⟨rfl, ek_ad242⟩, ivS242, lvS242⟩) (by show 20 ≤ 2970; omega) (by show 120 ≤ 18559; omega) dL_acts_674
                        · -- y1 = 12
                          refine lv_aload_n hx hb dL_acts_580 rfl (lv_at hl 6 rfl) ?_
                          refine lv_aload_n hx hb dL_acts_581 rfl (lv_at hl 7 rfl) ?_
                          refine lv_aload_n hx hb dL_acts_582 rfl (lv_at hl 9 rfl) ?_
                          refine lv_iload hx hb dL_acts_583 (lv_at hl 4 rfl) ?_
                          refine lv_iload hx hb dL_acts_585 (lv_at hl 12 rfl) ?_
                          refine q_callS2 (As := [.ref (ad 1 0), .ref (ad 3 1), .ref (ad 3 3), .int (i32 (y213)), .int (i32 (y))]) (rest := []) hx hb hml hl.1 hown hK hZ hP hS (c_L_cuts l g base ad S y213 y hfl hI hV c_215 ⟨by omega, by omega⟩ hrn2) t_655 (q_callB hK 654 14 656 t_654 t_14 t_656 f_yL_cuts ⟨Nat.le_of_ble_eq_true rfl, Nat.le_of_ble_eq_true rfl⟩) rfl rfl (Nat.le_of_ble_eq_true rfl) dL_acts_587 (c2 := 2968) (s2 := 18547) ⟨by first | rfl | (dsimp only; omega), by first | rfl | (dsimp only; omega)⟩ ⟨by show 2968 ≤ 2970; omega, by show 18547 ≤ 18559; omega⟩ (fun rr ad' S' H locs hQ hP hS => ?_)
                          obtain ⟨⟨hr9, ek9⟩, hI9, hV9⟩ := hQ
                          subst hr9
                          obtain ⟨S243, hS243⟩ : ∃ s9 : St, s9 = S' := ⟨_, rfl⟩
                          rw [← hS243] at hI9 hV9 hP
                          obtain ⟨ad243, had243⟩ : ∃ a9 : Nat → Nat → Nat, a9 = ad' := ⟨_, rfl⟩
                          rw [← had243] at ek9 hP
                          have ek_ad243 : ∀ x q, x < 4 → ad243 x q = ad x q := fun x q h => (ek9 x q h)
                          have el_ad243 : ∀ x q, x < 4 → ad243 x q = ad x q := ek9
                          have hl : lv_has ls 13 [(12, .int (i32 (1))), (11, .int (i32 (0))), (10, .int (i32 (-1))), (9, .int (i32 (y217))), (8, .int (i32 (y213))), (7, .int (i32 (y1))), (0, .ref (ad243 1 0)), (1, .ref (ad243 3 1)), (2, .ref (ad243 3 2)), (3, .ref (ad243 3 3)), (4, .ref (ad243 3 4)), (5, .int (i32 (x))), (6, .int (i32 (y)))] := by
                            have t9 := hl
                            rw [← el_ad243 1 0 (by decide), ← el_ad243 3 1 (by decide), ← el_ad243 3 2 (by decide), ← el_ad243 3 3 (by decide), ← el_ad243 3 4 (by decide)] at t9
                            exact t9
                          skip
                          have ivS243 : IV S243 := hI9
                          have lvS243 : LV S243 := hV9
                          have rS243 : ∀ (a1 b1 : Nat) (i1 : Int), rng (S243 a1 b1 i1) := fun a1 b1 i1 => hP.rg a1 b1 i1
                          refine q_if_eq (tgt := 673) hx hb ⟨by decide, by decide⟩ dL_acts_590 (by decide) (fun h => by omega) (fun _ => ?_)
                          refine lv_goto (tgt := 669) hx hb dL_acts_593 (by decide) ?_
                          refine lv_iconst (v := i32 (1)) hx hb dL_acts_669 rfl ?_
                          refine lv_goto (tgt := 674) hx hb dL_acts_670 (by decide) ?_
                          subst hQm
                          exact q_zret hx hb hr hlocks hP hS (v := 1) (by decide) (by exact ⟨⟨rfl, ek_ad243⟩, ivS243, lvS243⟩) (by show 2968 ≤ 2970; omega) (by show 18547 ≤ 18559; omega) dL_acts_674
                      · -- (S (10 + Int.toNat y213) 0 0) = (S 3 2 (2 * y217))
                        refine lv_aload_n hx hb dL_acts_492 rfl (lv_at hl 4 rfl) ?_
                        refine lv_iload hx hb dL_acts_493 (lv_at hl 2 rfl) ?_
                        refine lv_iconst (v := i32 (1)) hx hb dL_acts_495 rfl ?_
                        refine q_callH2 (As := [.ref (ad 1 0), .int (i32 (y213)), .int (i32 (1))]) (rest := []) hx hb hml hl.1 hown hK hZ hP hS (c_L_pieceIs l g base ad S y213 ((1 : Int)) hfl hI.wc ⟨by omega, by omega⟩ ⟨by decide, by decide⟩) t_266 t_14 t_268 t_267 f_yL_pieceIs ⟨Nat.le_of_ble_eq_true rfl, Nat.le_of_ble_eq_true rfl⟩ rfl rfl (Nat.le_of_ble_eq_true rfl) dL_acts_496 (c2 := 8) (s2 := 48) ⟨by first | rfl | (dsimp only; omega), by first | rfl | (dsimp only; omega)⟩ ⟨by show 8 ≤ 2970; omega, by show 48 ≤ 18559; omega⟩ (q_an (fun H locs hP hS => ?_))
                        refine q_nm (b := S (10 + Int.toNat y213) 0 1) (((lv_0 c_215 (by decide) trivial).trans (pcC_1 rfl))) ?_
                        refine lv_aload_n hx hb dL_acts_499 rfl (lv_at hl 6 rfl) ?_
                        refine lv_iconst (v := i32 (2)) hx hb dL_acts_500 rfl ?_
                        refine lv_iload hx hb dL_acts_501 (lv_at hl 1 rfl) ?_
                        refine q_imul hx hb dL_acts_503 ?_
                        refine lv_iconst (v := i32 (1)) hx hb dL_acts_504 rfl ?_
                        refine q_iadd hx hb dL_acts_505 ?_
                        refine p_iald (k := 3) (r := 2) (n := 10) hx hb hK hP hI.a.2.2 rfl rfl (by decide) (by decide) (by omega) (by omega) dL_acts_506 ?_
                        refine q_icmp_ne (tgt := 514) hx hb (rS _ _ _) (rS _ _ _) dL_acts_507 (by decide) (fun c_244 => ?_) (fun c_244 => (by exfalso; exact h_F ⟨by omega, by omega⟩))
                        refine lv_iconst (v := i32 (0)) hx hb dL_acts_514 rfl ?_
                        refine lv_istore (lv' := [(11, .int (i32 (0))), (10, .int (i32 (-1))), (9, .int (i32 (y217))), (8, .int (i32 (y213))), (7, .int (i32 (y1))), (0, .ref (ad 1 0)), (1, .ref (ad 3 1)), (2, .ref (ad 3 2)), (3, .ref (ad 3 3)), (4, .ref (ad 3 4)), (5, .int (i32 (x))), (6, .int (i32 (y)))]) hx hb dL_acts_515 hl (by decide) rfl (fun ls hl => ?_)
                        refine lv_iload hx hb dL_acts_517 (lv_at hl 0 rfl) ?_
                        refine q_if_eq (tgt := 555) hx hb ⟨by decide, by decide⟩ dL_acts_519 (by decide) (fun _ => ?_) (fun h => by omega)
                        refine lv_iload hx hb dL_acts_555 (lv_at hl 1 rfl) ?_
                        refine lv_iconst (v := i32 (-1)) hx hb dL_acts_557 rfl ?_
                        refine q_icmp_ne (tgt := 565) hx hb ⟨by decide, by decide⟩ ⟨by decide, by decide⟩ dL_acts_558 (by decide) (fun c_245 => (by exfalso; omega)) (fun c_245 => ?_)
                        refine lv_iconst (v := i32 (1)) hx hb dL_acts_561 rfl ?_
                        refine lv_goto (tgt := 566) hx hb dL_acts_562 (by decide) ?_
                        refine lv_istore (lv' := [(12, .int (i32 (1))), (11, .int (i32 (0))), (10, .int (i32 (-1))), (9, .int (i32 (y217))), (8, .int (i32 (y213))), (7, .int (i32 (y1))), (0, .ref (ad 1 0)), (1, .ref (ad 3 1)), (2, .ref (ad 3 2)), (3, .ref (ad 3 3)), (4, .ref (ad 3 4)), (5, .int (i32 (x))), (6, .int (i32 (y)))]) hx hb dL_acts_566 hl (by decide) rfl (fun ls hl => ?_)
                        refine lv_iload hx hb dL_acts_568 (lv_at hl 0 rfl) ?_
                        refine q_if_eq (tgt := 673) hx hb ⟨by decide, by decide⟩ dL_acts_570 (by decide) (fun h => by omega) (fun _ => ?_)
                        refine lv_iload hx hb dL_acts_573 (lv_at hl 5 rfl) ?_
                        refine lv_bipush (v := i32 (12)) hx hb dL_acts_575 (by decide) ?_
                        refine q_icmp_ne (tgt := 596) hx hb ⟨by omega, by omega⟩ ⟨by decide, by decide⟩ dL_acts_577 (by decide) (fun c_246 => ?_) (fun c_246 => ?_)
                        · -- y1 ≠ 12
                          refine lv_iload hx hb dL_acts_596 (lv_at hl 5 rfl) ?_
                          refine lv_bipush (v := i32 (13)) hx hb dL_acts_598 (by decide) ?_
                          refine q_icmp_ne (tgt := 617) hx hb ⟨by omega, by omega⟩ ⟨by decide, by decide⟩ dL_acts_600 (by decide) (fun c_247 => ?_) (fun c_247 => ?_)
                          · -- y1 ≠ 13
                            refine lv_iload hx hb dL_acts_617 (lv_at hl 5 rfl) ?_
                            refine lv_bipush (v := i32 (14)) hx hb dL_acts_619 (by decide) ?_
                            refine q_icmp_ne (tgt := 645) hx hb ⟨by omega, by omega⟩ ⟨by decide, by decide⟩ dL_acts_621 (by decide) (fun c_248 => ?_) (fun c_248 => ?_)
                            · -- y1 ≠ 14
                              refine lv_aload_n hx hb dL_acts_645 rfl (lv_at hl 6 rfl) ?_
                              refine lv_aload_n hx hb dL_acts_646 rfl (lv_at hl 9 rfl) ?_
                              refine lv_iload hx hb dL_acts_647 (lv_at hl 4 rfl) ?_
                              refine q_callS2 (As := [.ref (ad 1 0), .ref (ad 3 3), .int (i32 (y213))]) (rest := []) hx hb hml hl.1 hown hK hZ hP hS (c_L_isPiece l g base ad S y213 hfl hI c_215 hV.2.2.2 ⟨by omega, by omega⟩) t_329 (q_callB hK 328 14 330 t_328 t_14 t_330 f_yL_isPiece ⟨Nat.le_of_ble_eq_true rfl, Nat.le_of_ble_eq_true rfl⟩) rfl rfl (Nat.le_of_ble_eq_true rfl) dL_acts_649 (c2 := 1468) (s2 := 8808) ⟨by first | rfl | (dsimp only; omega), by first | rfl | (dsimp only; omega)⟩ ⟨by show 1468 ≤ 2970; omega, by show 8808 ≤ 18559; omega⟩ (q_an (fun H locs hP hS => ?_))
                              refine q_if_eq (tgt := 673) hx hb ⟨by decide, by decide⟩ dL_acts_652 (by decide) (fun h => by omega) (fun _ => ?_)
                              refine lv_aload_n hx hb dL_acts_655 rfl (lv_at hl 6 rfl) ?_
                              refine q_callV2 (k := 1) (As := []) (rest := []) hx hb hml hl.1 hown hK hZ hP hS hI.a.1 rfl rfl rfl (c_X3_balances l g base ad S  hI.wc) t_91 t_92 (q_callB hK 90 15 93 t_90 t_15 t_93 f_yX3_balances ⟨Nat.le_of_ble_eq_true rfl, Nat.le_of_ble_eq_true rfl⟩) rfl rfl (Nat.le_of_ble_eq_true rfl) dL_acts_656 (c2 := 1468) (s2 := 8808) ⟨by first | rfl | (dsimp only; omega), by first | rfl | (dsimp only; omega)⟩ ⟨by show 1468 ≤ 2970; omega, by show 8808 ≤ 18559; omega⟩ (q_an (fun H locs hP hS => ?_))
                              generalize eS249 : blS S 20 = S249 at hP
                              have rS249 : ∀ (a1 b1 : Nat) (i1 : Int), rng (S249 a1 b1 i1) := fun a1 b1 i1 => hP.rg a1 b1 i1
                              have ivS249 : IV S249 := by rw [← eS249]; exact IV_bl hI
                              have h3S249 : ∀ (b1 : Nat) (i1 : Int), S249 3 b1 i1 = S 3 b1 i1 := by rw [← eS249]; exact fun b i => blS_o (by omega)
                              have lv9 : LV S249 := by rw [← eS249]; exact LV_k hV hI.k.1.2 (fun b i => blS_o (by omega)) (blS_o (by omega)) (blS_o (by omega)) (blS_o (by omega)) (fun j => blS_o (by omega)) (fun a h1 h2 => ⟨blS_o (by omega), blS_o (by omega)⟩)
                              refine q_if_eqb (tgt := 673) hx hb dL_acts_659 (by decide) (fun c_250 => (by exfalso; exact c_250 hI.b)) (fun c_250 => ?_)
                              refine lv_aload_n hx hb dL_acts_662 rfl (lv_at hl 6 rfl) ?_
                              have gdb := gd_b ivS249
                              refine q_callV2 (k := 1) (As := []) (rest := []) hx hb hml hl.1 hown hK hZ hP hS ivS249.a.1 rfl rfl rfl (c_X3_gold l g base ad S249  ivS249.wc) t_707 t_708 (q_callB hK 706 15 709 t_706 t_15 t_709 f_yX3_gold ⟨Nat.le_of_ble_eq_true rfl, Nat.le_of_ble_eq_true rfl⟩) rfl rfl (Nat.le_of_ble_eq_true rfl) dL_acts_663 (c2 := 1468) (s2 := 8808) ⟨by first | rfl | (dsimp only; omega), by first | rfl | (dsimp only; omega)⟩ ⟨by show 1468 ≤ 2970; omega, by show 8808 ≤ 18559; omega⟩ (q_an (fun H locs hP hS => ?_))
                              refine q_if_lt (tgt := 673) hx hb ⟨by omega, by omega⟩ dL_acts_666 (by decide) (fun c_251 => (by exfalso; omega)) (fun c_251 => ?_)
                              refine lv_iconst (v := i32 (1)) hx hb dL_acts_669 rfl ?_
                              refine lv_goto (tgt := 674) hx hb dL_acts_670 (by decide) ?_
                              subst hQm
                              exact q_zret hx hb hr hlocks hP hS (v := 1) (by decide) (by exact ⟨⟨rfl, (fun _ _ _ => rfl)⟩, ivS249, lv9⟩) (by show 1468 ≤ 2970; omega) (by show 8808 ≤ 18559; omega) dL_acts_674
                            · -- y1 = 14
                              refine lv_aload_n hx hb dL_acts_624 rfl (lv_at hl 6 rfl) ?_
                              refine lv_aload hx hb dL_acts_625 (lv_at hl 10 rfl) ?_
                              refine lv_iload hx hb dL_acts_627 (lv_at hl 4 rfl) ?_
                              refine lv_iload hx hb dL_acts_629 (lv_at hl 11 rfl) ?_
                              refine lv_bipush (v := i32 (9)) hx hb dL_acts_631 (by decide) ?_
                              refine lv_ishr hx hb dL_acts_633 ?_
                              obtain ⟨z252, rz252, hz252⟩ := i32_of (i32 (x) >>> (i32 (9) &&& 31))
                              rw [hz252]
                              refine lv_iload hx hb dL_acts_634 (lv_at hl 12 rfl) ?_
                              refine q_callS2 (As := [.ref (ad 1 0), .ref (ad 3 4), .int (i32 (y213)), .int (i32 (z252)), .int (i32 (y))]) (rest := []) hx hb hml hl.1 hown hK hZ hP hS (c_L_wears l g base ad S y213 z252 y hfl hI hV c_215 ⟨by omega, by omega⟩ rz252 hrn2) t_688 (q_callB hK 687 14 689 t_687 t_14 t_689 f_yL_wears ⟨Nat.le_of_ble_eq_true rfl, Nat.le_of_ble_eq_true rfl⟩) rfl rfl (Nat.le_of_ble_eq_true rfl) dL_acts_636 (c2 := 16) (s2 := 96) ⟨by first | rfl | (dsimp only; omega), by first | rfl | (dsimp only; omega)⟩ ⟨by show 16 ≤ 2970; omega, by show 96 ≤ 18559; omega⟩ (fun rr ad' S' H locs hQ hP hS => ?_)
                              obtain ⟨⟨hr9, ek9⟩, hI9, hV9⟩ := hQ
                              subst hr9
                              obtain ⟨S253, hS253⟩ : ∃ s9 : St, s9 = S' := ⟨_, rfl⟩
                              rw [← hS253] at hI9 hV9 hP
                              obtain ⟨ad253, had253⟩ : ∃ a9 : Nat → Nat → Nat, a9 = ad' := ⟨_, rfl⟩
                              rw [← had253] at ek9 hP
                              have ek_ad253 : ∀ x q, x < 4 → ad253 x q = ad x q := fun x q h => (ek9 x q h)
                              have el_ad253 : ∀ x q, x < 4 → ad253 x q = ad x q := ek9
                              have hl : lv_has ls 13 [(12, .int (i32 (1))), (11, .int (i32 (0))), (10, .int (i32 (-1))), (9, .int (i32 (y217))), (8, .int (i32 (y213))), (7, .int (i32 (y1))), (0, .ref (ad253 1 0)), (1, .ref (ad253 3 1)), (2, .ref (ad253 3 2)), (3, .ref (ad253 3 3)), (4, .ref (ad253 3 4)), (5, .int (i32 (x))), (6, .int (i32 (y)))] := by
                                have t9 := hl
                                rw [← el_ad253 1 0 (by decide), ← el_ad253 3 1 (by decide), ← el_ad253 3 2 (by decide), ← el_ad253 3 3 (by decide), ← el_ad253 3 4 (by decide)] at t9
                                exact t9
                              skip
                              have ivS253 : IV S253 := hI9
                              have lvS253 : LV S253 := hV9
                              have rS253 : ∀ (a1 b1 : Nat) (i1 : Int), rng (S253 a1 b1 i1) := fun a1 b1 i1 => hP.rg a1 b1 i1
                              refine q_if_eq (tgt := 673) hx hb ⟨by decide, by decide⟩ dL_acts_639 (by decide) (fun h => by omega) (fun _ => ?_)
                              refine lv_goto (tgt := 669) hx hb dL_acts_642 (by decide) ?_
                              refine lv_iconst (v := i32 (1)) hx hb dL_acts_669 rfl ?_
                              refine lv_goto (tgt := 674) hx hb dL_acts_670 (by decide) ?_
                              subst hQm
                              exact q_zret hx hb hr hlocks hP hS (v := 1) (by decide) (by exact ⟨⟨rfl, ek_ad253⟩, ivS253, lvS253⟩) (by show 16 ≤ 2970; omega) (by show 96 ≤ 18559; omega) dL_acts_674
                          · -- y1 = 13
                            refine lv_aload_n hx hb dL_acts_603 rfl (lv_at hl 6 rfl) ?_
                            refine lv_iload hx hb dL_acts_604 (lv_at hl 4 rfl) ?_
                            refine lv_iload hx hb dL_acts_606 (lv_at hl 12 rfl) ?_
                            refine q_callS2 (As := [.ref (ad 1 0), .int (i32 (y213)), .int (i32 (y))]) (rest := []) hx hb hml hl.1 hown hK hZ hP hS (c_L_sews l g base ad S y213 y hfl hI hV c_215 ⟨by omega, by omega⟩ hrn2) t_673 (q_callB hK 672 14 674 t_672 t_14 t_674 f_yL_sews ⟨Nat.le_of_ble_eq_true rfl, Nat.le_of_ble_eq_true rfl⟩) rfl rfl (Nat.le_of_ble_eq_true rfl) dL_acts_608 (c2 := 22) (s2 := 132) ⟨by first | rfl | (dsimp only; omega), by first | rfl | (dsimp only; omega)⟩ ⟨by show 22 ≤ 2970; omega, by show 132 ≤ 18559; omega⟩ (fun rr ad' S' H locs hQ hP hS => ?_)
                            obtain ⟨⟨hr9, ek9⟩, hI9, hV9⟩ := hQ
                            subst hr9
                            obtain ⟨S254, hS254⟩ : ∃ s9 : St, s9 = S' := ⟨_, rfl⟩
                            rw [← hS254] at hI9 hV9 hP
                            obtain ⟨ad254, had254⟩ : ∃ a9 : Nat → Nat → Nat, a9 = ad' := ⟨_, rfl⟩
                            rw [← had254] at ek9 hP
                            have ek_ad254 : ∀ x q, x < 4 → ad254 x q = ad x q := fun x q h => (ek9 x q h)
                            have el_ad254 : ∀ x q, x < 4 → ad254 x q = ad x q := ek9
                            have hl : lv_has ls 13 [(12, .int (i32 (1))), (11, .int (i32 (0))), (10, .int (i32 (-1))), (9, .int (i32 (y217))), (8, .int (i32 (y213))), (7, .int (i32 (y1))), (0, .ref (ad254 1 0)), (1, .ref (ad254 3 1)), (2, .ref (ad254 3 2)), (3, .ref (ad254 3 3)), (4, .ref (ad254 3 4)), (5, .int (i32 (x))), (6, .int (i32 (y)))] := by
                              have t9 := hl
                              rw [← el_ad254 1 0 (by decide), ← el_ad254 3 1 (by decide), ← el_ad254 3 2 (by decide), ← el_ad254 3 3 (by decide), ← el_ad254 3 4 (by decide)] at t9
                              exact t9
                            skip
                            have ivS254 : IV S254 := hI9
                            have lvS254 : LV S254 := hV9
                            have rS254 : ∀ (a1 b1 : Nat) (i1 : Int), rng (S254 a1 b1 i1) := fun a1 b1 i1 => hP.rg a1 b1 i1
                            refine q_if_eq (tgt := 673) hx hb ⟨by decide, by decide⟩ dL_acts_611 (by decide) (fun h => by omega) (fun _ => ?_)
                            refine lv_goto (tgt := 669) hx hb dL_acts_614 (by decide) ?_
                            refine lv_iconst (v := i32 (1)) hx hb dL_acts_669 rfl ?_
                            refine lv_goto (tgt := 674) hx hb dL_acts_670 (by decide) ?_
                            subst hQm
                            exact q_zret hx hb hr hlocks hP hS (v := 1) (by decide) (by exact ⟨⟨rfl, ek_ad254⟩, ivS254, lvS254⟩) (by show 22 ≤ 2970; omega) (by show 132 ≤ 18559; omega) dL_acts_674
                        · -- y1 = 12
                          refine lv_aload_n hx hb dL_acts_580 rfl (lv_at hl 6 rfl) ?_
                          refine lv_aload_n hx hb dL_acts_581 rfl (lv_at hl 7 rfl) ?_
                          refine lv_aload_n hx hb dL_acts_582 rfl (lv_at hl 9 rfl) ?_
                          refine lv_iload hx hb dL_acts_583 (lv_at hl 4 rfl) ?_
                          refine lv_iload hx hb dL_acts_585 (lv_at hl 12 rfl) ?_
                          refine q_callS2 (As := [.ref (ad 1 0), .ref (ad 3 1), .ref (ad 3 3), .int (i32 (y213)), .int (i32 (y))]) (rest := []) hx hb hml hl.1 hown hK hZ hP hS (c_L_cuts l g base ad S y213 y hfl hI hV c_215 ⟨by omega, by omega⟩ hrn2) t_655 (q_callB hK 654 14 656 t_654 t_14 t_656 f_yL_cuts ⟨Nat.le_of_ble_eq_true rfl, Nat.le_of_ble_eq_true rfl⟩) rfl rfl (Nat.le_of_ble_eq_true rfl) dL_acts_587 (c2 := 2970) (s2 := 18559) ⟨by first | rfl | (dsimp only; omega), by first | rfl | (dsimp only; omega)⟩ ⟨by show 2970 ≤ 2970; omega, by show 18559 ≤ 18559; omega⟩ (fun rr ad' S' H locs hQ hP hS => ?_)
                          obtain ⟨⟨hr9, ek9⟩, hI9, hV9⟩ := hQ
                          subst hr9
                          obtain ⟨S255, hS255⟩ : ∃ s9 : St, s9 = S' := ⟨_, rfl⟩
                          rw [← hS255] at hI9 hV9 hP
                          obtain ⟨ad255, had255⟩ : ∃ a9 : Nat → Nat → Nat, a9 = ad' := ⟨_, rfl⟩
                          rw [← had255] at ek9 hP
                          have ek_ad255 : ∀ x q, x < 4 → ad255 x q = ad x q := fun x q h => (ek9 x q h)
                          have el_ad255 : ∀ x q, x < 4 → ad255 x q = ad x q := ek9
                          have hl : lv_has ls 13 [(12, .int (i32 (1))), (11, .int (i32 (0))), (10, .int (i32 (-1))), (9, .int (i32 (y217))), (8, .int (i32 (y213))), (7, .int (i32 (y1))), (0, .ref (ad255 1 0)), (1, .ref (ad255 3 1)), (2, .ref (ad255 3 2)), (3, .ref (ad255 3 3)), (4, .ref (ad255 3 4)), (5, .int (i32 (x))), (6, .int (i32 (y)))] := by
                            have t9 := hl
                            rw [← el_ad255 1 0 (by decide), ← el_ad255 3 1 (by decide), ← el_ad255 3 2 (by decide), ← el_ad255 3 3 (by decide), ← el_ad255 3 4 (by decide)] at t9
                            exact t9
                          skip
                          have ivS255 : IV S255 := hI9
                          have lvS255 : LV S255 := hV9
                          have rS255 : ∀ (a1 b1 : Nat) (i1 : Int), rng (S255 a1 b1 i1) := fun a1 b1 i1 => hP.rg a1 b1 i1
                          refine q_if_eq (tgt := 673) hx hb ⟨by decide, by decide⟩ dL_acts_590 (by decide) (fun h => by omega) (fun _ => ?_)
                          refine lv_goto (tgt := 669) hx hb dL_acts_593 (by decide) ?_
                          refine lv_iconst (v := i32 (1)) hx hb dL_acts_669 rfl ?_
                          refine lv_goto (tgt := 674) hx hb dL_acts_670 (by decide) ?_
                          subst hQm
                          exact q_zret hx hb hr hlocks hP hS (v := 1) (by decide) (by exact ⟨⟨rfl, ek_ad255⟩, ivS255, lvS255⟩) (by show 2970 ≤ 2970; omega) (by show 18559 ≤ 18559; omega) dL_acts_674
                  · -- ¬ (peC S y213)
                    refine lv_aload_n hx hb dL_acts_414 rfl (lv_at hl 2 rfl) ?_
                    refine lv_iload hx hb dL_acts_415 (lv_at hl 0 rfl) ?_
                    refine lv_iconst (v := i32 (0)) hx hb dL_acts_417 rfl ?_
                    refine q_callH2 (As := [.ref (ad 1 0), .int (i32 (y213)), .int (i32 (0))]) (rest := []) hx hb hml hl.1 hown hK hZ hP hS (c_L_pieceIs l g base ad S y213 ((0 : Int)) hfl hI.wc ⟨by omega, by omega⟩ ⟨by decide, by decide⟩) t_266 t_14 t_268 t_267 f_yL_pieceIs ⟨Nat.le_of_ble_eq_true rfl, Nat.le_of_ble_eq_true rfl⟩ rfl rfl (Nat.le_of_ble_eq_true rfl) dL_acts_418 (c2 := 4) (s2 := 24) ⟨by first | rfl | (dsimp only; omega), by first | rfl | (dsimp only; omega)⟩ ⟨by show 4 ≤ 2970; omega, by show 24 ≤ 18559; omega⟩ (q_an (fun H locs hP hS => ?_))
                    refine q_nm (b := -1000001) (lv_1 c_215) ?_
                    refine q_ldc (z := -1000001) hx hb hown hK t_248 rfl dL_acts_421 ?_
                    refine q_icmp_ne (tgt := 452) hx hb ⟨by decide, by decide⟩ ⟨by decide, by decide⟩ dL_acts_423 (by decide) (fun c_256 => (by exfalso; omega)) (fun c_256 => ?_)
                    refine lv_aload_n hx hb dL_acts_426 rfl (lv_at hl 2 rfl) ?_
                    refine lv_iload hx hb dL_acts_427 (lv_at hl 0 rfl) ?_
                    refine q_callH2 (As := [.ref (ad 1 0), .int (i32 (y213))]) (rest := []) hx hb hml hl.1 hown hK hZ hP hS (c_L_wash l g base ad S y213 hfl hI.wc ⟨by omega, by omega⟩) t_630 t_14 t_632 t_631 f_yL_wash ⟨Nat.le_of_ble_eq_true rfl, Nat.le_of_ble_eq_true rfl⟩ rfl rfl (Nat.le_of_ble_eq_true rfl) dL_acts_429 (c2 := 6) (s2 := 36) ⟨by first | rfl | (dsimp only; omega), by first | rfl | (dsimp only; omega)⟩ ⟨by show 6 ≤ 2970; omega, by show 36 ≤ 18559; omega⟩ (fun rr ad' S' H locs hQ hP hS => ?_)
                    obtain ⟨⟨hr9, ek9⟩, hQ⟩ := hQ
                    have hc9_1 : ¬ (peC S y213) := c_215
                    have hs9 := (hQ.resolve_right (fun y9 => hc9_1 y9.1.1)).2
                    subst hr9
                    rw [ek9] at hP
                    rw [hs9] at hP
                    refine q_nm (lv_1 hc9_1) ?_
                    refine q_ldc (z := -1000001) hx hb hown hK t_248 rfl dL_acts_432 ?_
                    refine q_icmp_ne (tgt := 452) hx hb ⟨by decide, by decide⟩ ⟨by decide, by decide⟩ dL_acts_434 (by decide) (fun h => by first | exact absurd c_256 h | exact absurd h c_256 | omega) (fun _ => ?_)
                    refine lv_aload_n hx hb dL_acts_437 rfl (lv_at hl 2 rfl) ?_
                    refine lv_iload hx hb dL_acts_438 (lv_at hl 0 rfl) ?_
                    refine q_callH2 (As := [.ref (ad 1 0), .int (i32 (y213))]) (rest := []) hx hb hml hl.1 hown hK hZ hP hS (c_L_isTrue l g base ad S y213 hfl hI.wc ⟨by omega, by omega⟩) t_516 t_14 t_518 t_517 f_yL_isTrue ⟨Nat.le_of_ble_eq_true rfl, Nat.le_of_ble_eq_true rfl⟩ rfl rfl (Nat.le_of_ble_eq_true rfl) dL_acts_440 (c2 := 7) (s2 := 42) ⟨by first | rfl | (dsimp only; omega), by first | rfl | (dsimp only; omega)⟩ ⟨by show 7 ≤ 2970; omega, by show 42 ≤ 18559; omega⟩ (q_an (fun H locs hP hS => ?_))
                    refine q_nm (b := -1000001) (lv_1 c_215) ?_
                    refine q_ldc (z := -1000001) hx hb hown hK t_248 rfl dL_acts_443 ?_
                    refine q_icmp_ne (tgt := 452) hx hb ⟨by decide, by decide⟩ ⟨by decide, by decide⟩ dL_acts_445 (by decide) (fun h => by first | exact absurd c_256 h | exact absurd h c_256 | omega) (fun _ => ?_)
                    refine lv_iconst (v := i32 (1)) hx hb dL_acts_448 rfl ?_
                    refine lv_goto (tgt := 453) hx hb dL_acts_449 (by decide) ?_
                    subst hQm
                    exact q_zret hx hb hr hlocks hP hS (v := 1) (by decide) (by exact ⟨⟨rfl, (fun _ _ _ => rfl)⟩, hI, hV⟩) (by show 7 ≤ 2970; omega) (by show 42 ≤ 18559; omega) dL_acts_453
                · -- y1 = 11
                  refine lv_aload_n hx hb dL_acts_389 rfl (lv_at hl 2 rfl) ?_
                  refine lv_aload_n hx hb dL_acts_390 rfl (lv_at hl 5 rfl) ?_
                  refine lv_iload hx hb dL_acts_391 (lv_at hl 0 rfl) ?_
                  refine lv_iload hx hb dL_acts_393 (lv_at hl 8 rfl) ?_
                  refine lv_aload_n hx hb dL_acts_395 rfl (lv_at hl 3 rfl) ?_
                  refine lv_iconst (v := i32 (2)) hx hb dL_acts_396 rfl ?_
                  refine p_iald (k := 3) (r := 1) (n := 4) hx hb hK hP hI.a.2.2 rfl rfl (by decide) (by decide) (by omega) (by omega) dL_acts_397 ?_
                  refine q_callS2 (As := [.int (i32 (y)), .int (i32 (S 3 1 2))]) (rest := [.int (i32 (y213)), .ref (ad 3 3), .ref (ad 1 0)]) hx hb hml hl.1 hown hK hZ hP hS (c_L_low l g base ad S y (S 3 1 2) hrn2 (by omega)) t_122 (q_callB hK 121 14 123 t_121 t_14 t_123 f_yL_low ⟨Nat.le_of_ble_eq_true rfl, Nat.le_of_ble_eq_true rfl⟩) rfl rfl (Nat.le_of_ble_eq_true rfl) dL_acts_398 (c2 := 0) (s2 := 0) ⟨by first | rfl | (dsimp only; omega), by first | rfl | (dsimp only; omega)⟩ ⟨by show 0 ≤ 2970; omega, by show 0 ≤ 18559; omega⟩ (q_an (fun H locs hP hS => ?_))
                  obtain ⟨y257, hy257⟩ : ∃ y99 : Int, loF y (S 3 1 2) = y99 := ⟨_, rfl⟩
                  have by257 := lo_b y (show 1 ≤ (S 3 1 2) by omega)
                  rw [hy257] at by257
                  refine q_nm hy257 ?_
                  refine q_callS2 (As := [.ref (ad 1 0), .ref (ad 3 3), .int (i32 (y213)), .int (i32 (y257))]) (rest := []) hx hb hml hl.1 hown hK hZ hP hS (c_L_joins l g base ad S y213 y257 hfl hI hV ⟨by omega, by omega⟩ ⟨by omega, by omega⟩) t_583 (q_callB hK 582 14 584 t_582 t_14 t_584 f_yL_joins ⟨Nat.le_of_ble_eq_true rfl, Nat.le_of_ble_eq_true rfl⟩) rfl rfl (Nat.le_of_ble_eq_true rfl) dL_acts_401 (c2 := 1498) (s2 := 8988) ⟨by first | rfl | (dsimp only; omega), by first | rfl | (dsimp only; omega)⟩ ⟨by show 1498 ≤ 2970; omega, by show 8988 ≤ 18559; omega⟩ (fun rr ad' S' H locs hQ hP hS => ?_)
                  obtain ⟨⟨hr9, ek9⟩, hI9, hV9⟩ := hQ
                  subst hr9
                  obtain ⟨S258, hS258⟩ : ∃ s9 : St, s9 = S' := ⟨_, rfl⟩
                  rw [← hS258] at hI9 hV9 hP
                  obtain ⟨ad258, had258⟩ : ∃ a9 : Nat → Nat → Nat, a9 = ad' := ⟨_, rfl⟩
                  rw [← had258] at ek9 hP
                  have ek_ad258 : ∀ x q, x < 4 → ad258 x q = ad x q := fun x q h => (ek9 x q h)
                  have el_ad258 : ∀ x q, x < 4 → ad258 x q = ad x q := ek9
                  have hl : lv_has ls 13 [(8, .int (i32 (y213))), (7, .int (i32 (y1))), (0, .ref (ad258 1 0)), (1, .ref (ad258 3 1)), (2, .ref (ad258 3 2)), (3, .ref (ad258 3 3)), (4, .ref (ad258 3 4)), (5, .int (i32 (x))), (6, .int (i32 (y)))] := by
                    have t9 := hl
                    rw [← el_ad258 1 0 (by decide), ← el_ad258 3 1 (by decide), ← el_ad258 3 2 (by decide), ← el_ad258 3 3 (by decide), ← el_ad258 3 4 (by decide)] at t9
                    exact t9
                  skip
                  have ivS258 : IV S258 := hI9
                  have lvS258 : LV S258 := hV9
                  have rS258 : ∀ (a1 b1 : Nat) (i1 : Int), rng (S258 a1 b1 i1) := fun a1 b1 i1 => hP.rg a1 b1 i1
                  subst hQm
                  exact q_zret hx hb hr hlocks hP hS (v := 1) (by decide) (by exact ⟨⟨rfl, ek_ad258⟩, ivS258, lvS258⟩) (by show 1498 ≤ 2970; omega) (by show 8988 ≤ 18559; omega) dL_acts_404
              · -- y1 < 11
                refine lv_aload_n hx hb dL_acts_323 rfl (lv_at hl 1 rfl) ?_
                refine lv_aload_n hx hb dL_acts_324 rfl (lv_at hl 2 rfl) ?_
                refine lv_iload hx hb dL_acts_325 (lv_at hl 6 rfl) ?_
                refine lv_iconst (v := i32 (4)) hx hb dL_acts_327 rfl ?_
                refine lv_ishr hx hb dL_acts_328 ?_
                obtain ⟨z259, rz259, hz259⟩ := i32_of (i32 (x) >>> (i32 (4) &&& 31))
                rw [hz259]
                refine lv_iload hx hb dL_acts_329 (lv_at hl 7 rfl) ?_
                refine q_callS2 (As := [.ref (ad 1 0), .ref (ad 3 1), .int (i32 (z259)), .int (i32 (y))]) (rest := []) hx hb hml hl.1 hown hK hZ hP hS (c_L_weaves l g base ad S z259 y hfl hI hV (by omega) rz259 hrn2) t_532 (q_callB hK 531 14 533 t_531 t_14 t_533 f_yL_weaves ⟨Nat.le_of_ble_eq_true rfl, Nat.le_of_ble_eq_true rfl⟩) rfl rfl (Nat.le_of_ble_eq_true rfl) dL_acts_331 (c2 := 8) (s2 := 48) ⟨by first | rfl | (dsimp only; omega), by first | rfl | (dsimp only; omega)⟩ ⟨by show 8 ≤ 2970; omega, by show 48 ≤ 18559; omega⟩ (fun rr ad' S' H locs hQ hP hS => ?_)
                obtain ⟨⟨⟨hr9, ek9⟩, hI9, hV9⟩, hW9⟩ := hQ
                subst hr9
                obtain ⟨S260, hS260⟩ : ∃ s9 : St, s9 = S' := ⟨_, rfl⟩
                rw [← hS260] at hI9 hV9 hP hW9
                obtain ⟨ad260, had260⟩ : ∃ a9 : Nat → Nat → Nat, a9 = ad' := ⟨_, rfl⟩
                rw [← had260] at ek9 hP
                have ek_ad260 : ∀ x q, x < 4 → ad260 x q = ad x q := fun x q h => (ek9 x q h)
                have el_ad260 : ∀ x q, x < 4 → ad260 x q = ad x q := ek9
                have hl : lv_has ls 13 [(7, .int (i32 (y1))), (0, .ref (ad260 1 0)), (1, .ref (ad260 3 1)), (2, .ref (ad260 3 2)), (3, .ref (ad260 3 3)), (4, .ref (ad260 3 4)), (5, .int (i32 (x))), (6, .int (i32 (y)))] := by
                  have t9 := hl
                  rw [← el_ad260 1 0 (by decide), ← el_ad260 3 1 (by decide), ← el_ad260 3 2 (by decide), ← el_ad260 3 3 (by decide), ← el_ad260 3 4 (by decide)] at t9
                  exact t9
                skip
                have ivS260 : IV S260 := hI9
                have lvS260 : LV S260 := hV9
                have hwS260 := hW9
                have rS260 : ∀ (a1 b1 : Nat) (i1 : Int), rng (S260 a1 b1 i1) := fun a1 b1 i1 => hP.rg a1 b1 i1
                refine q_if_eq (tgt := 368) hx hb ⟨by decide, by decide⟩ dL_acts_334 (by decide) (fun h => by omega) (fun _ => ?_)
                refine lv_iload hx hb dL_acts_337 (lv_at hl 7 rfl) ?_
                refine lv_iconst (v := i32 (3)) hx hb dL_acts_339 rfl ?_
                refine lv_ishr hx hb dL_acts_340 ?_
                obtain ⟨z261, rz261, hz261⟩ := i32_of (i32 (y) >>> (i32 (3) &&& 31))
                rw [hz261]
                refine lv_iconst (v := i32 (3)) hx hb dL_acts_341 rfl ?_
                refine q_callS2 (As := [.int (i32 (z261)), .int (i32 (3))]) (rest := []) hx hb hml hl.1 hown hK hZ hP hS (c_L_low l g base ad260 S260 z261 ((3 : Int)) rz261 (by omega)) t_122 (q_callB hK 121 14 123 t_121 t_14 t_123 f_yL_low ⟨Nat.le_of_ble_eq_true rfl, Nat.le_of_ble_eq_true rfl⟩) rfl rfl (Nat.le_of_ble_eq_true rfl) dL_acts_342 (c2 := 8) (s2 := 48) ⟨by first | rfl | (dsimp only; omega), by first | rfl | (dsimp only; omega)⟩ ⟨by show 8 ≤ 2970; omega, by show 48 ≤ 18559; omega⟩ (q_an (fun H locs hP hS => ?_))
                obtain ⟨y262, hy262⟩ : ∃ y99 : Int, loF z261 ((3 : Int)) = y99 := ⟨_, rfl⟩
                have by262 := lo_b z261 (show 1 ≤ ((3 : Int)) by omega)
                rw [hy262] at by262
                refine q_nm hy262 ?_
                refine q_if_gt (tgt := 364) hx hb ⟨by omega, by omega⟩ dL_acts_345 (by decide) (fun c_263 => ?_) (fun c_263 => ?_)
                · -- 0 < y262
                  refine lv_iconst (v := i32 (1)) hx hb dL_acts_364 rfl ?_
                  refine lv_goto (tgt := 369) hx hb dL_acts_365 (by decide) ?_
                  subst hQm
                  exact q_zret hx hb hr hlocks hP hS (v := 1) (by decide) (by exact ⟨⟨rfl, ek_ad260⟩, ivS260, lvS260⟩) (by show 8 ≤ 2970; omega) (by show 48 ≤ 18559; omega) dL_acts_369
                · -- y262 ≤ 0
                  refine lv_aload_n hx hb dL_acts_348 rfl (lv_at hl 1 rfl) ?_
                  refine lv_aload_n hx hb dL_acts_349 rfl (lv_at hl 2 rfl) ?_
                  refine lv_iload hx hb dL_acts_350 (lv_at hl 6 rfl) ?_
                  refine lv_iconst (v := i32 (4)) hx hb dL_acts_352 rfl ?_
                  refine lv_ishr hx hb dL_acts_353 ?_
                  obtain ⟨z264, rz264, hz264⟩ := i32_of (i32 (x) >>> (i32 (4) &&& 31))
                  rw [hz264]
                  refine lv_iload hx hb dL_acts_354 (lv_at hl 7 rfl) ?_
                  refine lv_iconst (v := i32 (1)) hx hb dL_acts_356 rfl ?_
                  refine q_iadd hx hb dL_acts_357 ?_
                  obtain ⟨yw, ryw, hyw⟩ := i32_any (y + 1)
                  rw [hyw]
                  refine q_callS2 (As := [.ref (ad260 1 0), .ref (ad260 3 1), .int (i32 (z264)), .int (i32 (yw))]) (rest := []) hx hb hml hl.1 hown hK hZ hP hS (c_L_weaves l g base ad260 S260 z264 yw hfl ivS260 lvS260 (by rw [hwS260]; omega) rz264 ryw) t_532 (q_callB hK 531 14 533 t_531 t_14 t_533 f_yL_weaves ⟨Nat.le_of_ble_eq_true rfl, Nat.le_of_ble_eq_true rfl⟩) rfl rfl (Nat.le_of_ble_eq_true rfl) dL_acts_358 (c2 := 16) (s2 := 96) ⟨by first | rfl | (dsimp only; omega), by first | rfl | (dsimp only; omega)⟩ ⟨by show 16 ≤ 2970; omega, by show 96 ≤ 18559; omega⟩ (fun rr ad' S' H locs hQ hP hS => ?_)
                  obtain ⟨⟨⟨hr9, ek9⟩, hI9, hV9⟩, hW9⟩ := hQ
                  subst hr9
                  obtain ⟨S265, hS265⟩ : ∃ s9 : St, s9 = S' := ⟨_, rfl⟩
                  rw [← hS265] at hI9 hV9 hP hW9
                  obtain ⟨ad265, had265⟩ : ∃ a9 : Nat → Nat → Nat, a9 = ad' := ⟨_, rfl⟩
                  rw [← had265] at ek9 hP
                  have ek_ad265 : ∀ x q, x < 4 → ad265 x q = ad x q := fun x q h => (ek9 x q h).trans (ek_ad260 x q h)
                  have el_ad265 : ∀ x q, x < 4 → ad265 x q = ad260 x q := ek9
                  have hl : lv_has ls 13 [(7, .int (i32 (y1))), (0, .ref (ad265 1 0)), (1, .ref (ad265 3 1)), (2, .ref (ad265 3 2)), (3, .ref (ad265 3 3)), (4, .ref (ad265 3 4)), (5, .int (i32 (x))), (6, .int (i32 (y)))] := by
                    have t9 := hl
                    rw [← el_ad265 1 0 (by decide), ← el_ad265 3 1 (by decide), ← el_ad265 3 2 (by decide), ← el_ad265 3 3 (by decide), ← el_ad265 3 4 (by decide)] at t9
                    exact t9
                  skip
                  have ivS265 : IV S265 := hI9
                  have lvS265 : LV S265 := hV9
                  have hwS265 := hW9
                  have rS265 : ∀ (a1 b1 : Nat) (i1 : Int), rng (S265 a1 b1 i1) := fun a1 b1 i1 => hP.rg a1 b1 i1
                  refine q_if_eq (tgt := 368) hx hb ⟨by decide, by decide⟩ dL_acts_361 (by decide) (fun h => by omega) (fun _ => ?_)
                  refine lv_iconst (v := i32 (1)) hx hb dL_acts_364 rfl ?_
                  refine lv_goto (tgt := 369) hx hb dL_acts_365 (by decide) ?_
                  subst hQm
                  exact q_zret hx hb hr hlocks hP hS (v := 1) (by decide) (by exact ⟨⟨rfl, ek_ad265⟩, ivS265, lvS265⟩) (by show 16 ≤ 2970; omega) (by show 96 ≤ 18559; omega) dL_acts_369
            · -- (S 3 1 2) = 0
              refine lv_iload hx hb dL_acts_143 (lv_at hl 6 rfl) ?_
              refine lv_iconst (v := i32 (4)) hx hb dL_acts_145 rfl ?_
              refine lv_ishr hx hb dL_acts_146 ?_
              obtain ⟨z266, rz266, hz266⟩ := i32_of (i32 (x) >>> (i32 (4) &&& 31))
              rw [hz266]
              refine lv_aload_n hx hb dL_acts_147 rfl (lv_at hl 2 rfl) ?_
              refine lv_iconst (v := i32 (0)) hx hb dL_acts_148 rfl ?_
              refine p_iald (k := 3) (r := 1) (n := 4) hx hb hK hP hI.a.2.2 rfl rfl (by decide) (by decide) (by omega) (by omega) dL_acts_149 ?_
              refine q_callS2 (As := [.int (i32 (z266)), .int (i32 (S 3 1 0))]) (rest := []) hx hb hml hl.1 hown hK hZ hP hS (c_L_low l g base ad S z266 (S 3 1 0) rz266 (by omega)) t_122 (q_callB hK 121 14 123 t_121 t_14 t_123 f_yL_low ⟨Nat.le_of_ble_eq_true rfl, Nat.le_of_ble_eq_true rfl⟩) rfl rfl (Nat.le_of_ble_eq_true rfl) dL_acts_150 (c2 := 0) (s2 := 0) ⟨by first | rfl | (dsimp only; omega), by first | rfl | (dsimp only; omega)⟩ ⟨by show 0 ≤ 2970; omega, by show 0 ≤ 18559; omega⟩ (q_an (fun H locs hP hS => ?_))
              obtain ⟨y267, hy267⟩ : ∃ y99 : Int, loF z266 (S 3 1 0) = y99 := ⟨_, rfl⟩
              have by267 := lo_b z266 (show 1 ≤ (S 3 1 0) by omega)
              rw [hy267] at by267
              refine q_nm hy267 ?_
              refine lv_istore (lv' := [(8, .int (i32 (y267))), (7, .int (i32 (y1))), (0, .ref (ad 1 0)), (1, .ref (ad 3 1)), (2, .ref (ad 3 2)), (3, .ref (ad 3 3)), (4, .ref (ad 3 4)), (5, .int (i32 (x))), (6, .int (i32 (y)))]) hx hb dL_acts_153 hl (by decide) rfl (fun ls hl => ?_)
              refine lv_iconst (v := i32 (1)) hx hb dL_acts_155 rfl ?_
              refine lv_iload hx hb dL_acts_156 (lv_at hl 8 rfl) ?_
              refine lv_iconst (v := i32 (4)) hx hb dL_acts_158 rfl ?_
              refine q_callS2 (As := [.int (i32 (y)), .int (i32 (4))]) (rest := [.int (i32 (1))]) hx hb hml hl.1 hown hK hZ hP hS (c_L_low l g base ad S y ((4 : Int)) hrn2 (by omega)) t_122 (q_callB hK 121 14 123 t_121 t_14 t_123 f_yL_low ⟨Nat.le_of_ble_eq_true rfl, Nat.le_of_ble_eq_true rfl⟩) rfl rfl (Nat.le_of_ble_eq_true rfl) dL_acts_159 (c2 := 0) (s2 := 0) ⟨by first | rfl | (dsimp only; omega), by first | rfl | (dsimp only; omega)⟩ ⟨by show 0 ≤ 2970; omega, by show 0 ≤ 18559; omega⟩ (q_an (fun H locs hP hS => ?_))
              obtain ⟨y268, hy268⟩ : ∃ y99 : Int, loF y ((4 : Int)) = y99 := ⟨_, rfl⟩
              have by268 := lo_b y (show 1 ≤ ((4 : Int)) by omega)
              rw [hy268] at by268
              refine q_nm hy268 ?_
              refine q_iadd hx hb dL_acts_162 ?_
              refine lv_istore (lv' := [(9, .int (i32 (1 + y268))), (8, .int (i32 (y267))), (7, .int (i32 (y1))), (0, .ref (ad 1 0)), (1, .ref (ad 3 1)), (2, .ref (ad 3 2)), (3, .ref (ad 3 3)), (4, .ref (ad 3 4)), (5, .int (i32 (x))), (6, .int (i32 (y)))]) hx hb dL_acts_163 hl (by decide) rfl (fun ls hl => ?_)
              by_cases h_B : 1 ≤ 1 + y268 ∧ 1 + y268 ≤ 4 ∧ 1 + y268 ≤ S (4 + Int.toNat y267) 0 0
              · skip
                by_cases h_C : 1 ≤ S (4 + Int.toNat y267) 0 1 ∧ S 1 0 6 < 20
                · skip
                  obtain ⟨hd1, hd2, hd3⟩ := vd y267 (by omega) (by omega)
                  obtain ⟨⟨-, hcw1, hcw2⟩, -⟩ := hI.k.2.2 y267 (by omega) (by omega)
                  refine lv_aload_n hx hb dL_acts_165 rfl (lv_at hl 3 rfl) ?_
                  refine lv_iload hx hb dL_acts_166 (lv_at hl 1 rfl) ?_
                  refine lv_iload hx hb dL_acts_168 (lv_at hl 0 rfl) ?_
                  refine lv_iload hx hb dL_acts_170 (lv_at hl 9 rfl) ?_
                  refine lv_iconst (v := i32 (2)) hx hb dL_acts_172 rfl ?_
                  refine lv_ishr hx hb dL_acts_173 ?_
                  obtain ⟨z269, rz269, hz269⟩ := i32_of (i32 (y) >>> (i32 (2) &&& 31))
                  rw [hz269]
                  refine lv_iconst (v := i32 (2)) hx hb dL_acts_174 rfl ?_
                  refine q_callS2 (As := [.int (i32 (z269)), .int (i32 (2))]) (rest := [.int (i32 (1 + y268)), .int (i32 (y267)), .ref (ad 1 0)]) hx hb hml hl.1 hown hK hZ hP hS (c_L_low l g base ad S z269 ((2 : Int)) rz269 (by omega)) t_122 (q_callB hK 121 14 123 t_121 t_14 t_123 f_yL_low ⟨Nat.le_of_ble_eq_true rfl, Nat.le_of_ble_eq_true rfl⟩) rfl rfl (Nat.le_of_ble_eq_true rfl) dL_acts_175 (c2 := 0) (s2 := 0) ⟨by first | rfl | (dsimp only; omega), by first | rfl | (dsimp only; omega)⟩ ⟨by show 0 ≤ 2970; omega, by show 0 ≤ 18559; omega⟩ (q_an (fun H locs hP hS => ?_))
                  obtain ⟨y270, hy270⟩ : ∃ y99 : Int, loF z269 ((2 : Int)) = y99 := ⟨_, rfl⟩
                  have by270 := lo_b z269 (show 1 ≤ ((2 : Int)) by omega)
                  rw [hy270] at by270
                  refine q_nm hy270 ?_
                  refine q_if_ne (tgt := 185) hx hb ⟨by omega, by omega⟩ dL_acts_178 (by decide) (fun c_271 => ?_) (fun c_271 => ?_)
                  · -- y270 ≠ 0
                    refine lv_iconst (v := i32 (0)) hx hb dL_acts_185 rfl ?_
                    have w9 := IV_loom (mir := False) hI (hI.ce.mpr (show 0 ≤ y267 ∧ y267 < S 1 0 3 by omega)) h_B h_C
                    refine W.eq (g2 := F0 m 186 ls (Value.int (i32 (b2 (False))) :: Value.int (i32 (1 + y268)) :: Value.int (i32 (y267)) :: Value.ref (ad 1 0) :: [])) (by simp only [b2_t trivial, b2_f not_false] <;> rfl) ?_
                    refine q_callH2 (As := [.ref (ad 1 0), .int (i32 (y267)), .int (i32 (1 + y268)), .int (i32 (b2 (False)))]) (rest := []) hx hb hml hl.1 hown hK hZ hP hS (c_L_loom l g base ad S y267 (1 + y268) False hfl hI.wc ⟨by omega, by omega⟩ ⟨by omega, by omega⟩ hI.hcf hI.hpf) t_442 t_14 t_444 t_443 f_yL_loom ⟨Nat.le_of_ble_eq_true rfl, Nat.le_of_ble_eq_true rfl⟩ rfl rfl (Nat.le_of_ble_eq_true rfl) dL_acts_186 (c2 := 9) (s2 := 793) ⟨by first | rfl | (dsimp only; omega), by first | rfl | (dsimp only; omega)⟩ ⟨by show 9 ≤ 2970; omega, by show 793 ≤ 18559; omega⟩ (fun rr ad' S' H locs hQ hP hS => ?_)
                    have hc9 : (ceC S y267) ∧ (1 ≤ (1 + y268) ∧ (1 + y268) ≤ 4 ∧ (1 + y268) ≤ S (4 + y267.toNat) 0 0) ∧ (1 ≤ S (4 + y267.toNat) 0 1 ∧ S 1 0 6 < 20) := ⟨hI.ce.mpr (by omega), h_B, h_C⟩
                    obtain ⟨⟨hr9, ek9⟩, hQ⟩ := hQ
                    have hs9 := (hQ.resolve_left (fun y9 => y9.1 hc9)).2
                    subst hr9
                    rw [hs9] at hP
                    refine q_nm (b := S 1 0 6) ((lv_0 hc9.1 hc9.2.1 hc9.2.2).trans (rfl)) ?_
                    obtain ⟨ad272, had272⟩ : ∃ a9 : Nat → Nat → Nat, a9 = ad' := ⟨_, rfl⟩
                    rw [← had272] at ek9 hP
                    have ek_ad272 : ∀ x q, x < 4 → ad272 x q = ad x q := fun x q h => (ek9 x q h)
                    have el_ad272 : ∀ x q, x < 4 → ad272 x q = ad x q := ek9
                    have hl : lv_has ls 13 [(9, .int (i32 (1 + y268))), (8, .int (i32 (y267))), (7, .int (i32 (y1))), (0, .ref (ad272 1 0)), (1, .ref (ad272 3 1)), (2, .ref (ad272 3 2)), (3, .ref (ad272 3 3)), (4, .ref (ad272 3 4)), (5, .int (i32 (x))), (6, .int (i32 (y)))] := by
                      have t9 := hl
                      rw [← el_ad272 1 0 (by decide), ← el_ad272 3 1 (by decide), ← el_ad272 3 2 (by decide), ← el_ad272 3 3 (by decide), ← el_ad272 3 4 (by decide)] at t9
                      exact t9
                    skip
                    generalize eS273 : lmS S y267 (1 + y268) False = S273 at hP
                    have rS273 : ∀ (a1 b1 : Nat) (i1 : Int), rng (S273 a1 b1 i1) := fun a1 b1 i1 => hP.rg a1 b1 i1
                    have ivS273 : IV S273 := by rw [← eS273]; exact w9.1
                    have h3S273 : ∀ (b1 : Nat) (i1 : Int), S273 3 b1 i1 = S 3 b1 i1 := by rw [← eS273]; exact fun b i => w9.2.1.2.2 3 b i (by omega) (by omega)
                    rw [eS273] at w9
                    obtain ⟨-, ⟨g6, g7, fr9⟩, gtr, gln⟩ := w9
                    refine lv_istore (lv' := [(10, .int (i32 (S 1 0 6))), (9, .int (i32 (1 + y268))), (8, .int (i32 (y267))), (7, .int (i32 (y1))), (0, .ref (ad272 1 0)), (1, .ref (ad272 3 1)), (2, .ref (ad272 3 2)), (3, .ref (ad272 3 3)), (4, .ref (ad272 3 4)), (5, .int (i32 (x))), (6, .int (i32 (y)))]) hx hb dL_acts_189 hl (by decide) rfl (fun ls hl => ?_)
                    refine lv_iload hx hb dL_acts_191 (lv_at hl 1 rfl) ?_
                    refine lv_aload_n hx hb dL_acts_193 rfl (lv_at hl 6 rfl) ?_
                    refine lv_iconst (v := i32 (2)) hx hb dL_acts_194 rfl ?_
                    refine lv_iload hx hb dL_acts_195 (lv_at hl 2 rfl) ?_
                    refine q_imul hx hb dL_acts_197 ?_
                    refine p_iald (k := 3) (r := 2) (n := 10) hx hb hK hP ivS273.a.2.2 rfl rfl (by decide) (by decide) (by omega) (by omega) dL_acts_198 ?_
                    refine q_nm (show S273 3 2 (2 * y267) = S 3 2 (2 * y267) from by rw [h3S273]) ?_
                    refine q_icmp_le (tgt := 215) hx hb ⟨by omega, by omega⟩ (rS _ _ _) dL_acts_199 (by decide) (fun c_274 => ?_) (fun c_274 => (by exfalso; omega))
                    refine lv_aload_n hx hb dL_acts_215 rfl (lv_at hl 6 rfl) ?_
                    refine lv_iconst (v := i32 (2)) hx hb dL_acts_216 rfl ?_
                    refine lv_iload hx hb dL_acts_217 (lv_at hl 2 rfl) ?_
                    refine q_imul hx hb dL_acts_219 ?_
                    refine lv_iconst (v := i32 (1)) hx hb dL_acts_220 rfl ?_
                    refine q_iadd hx hb dL_acts_221 ?_
                    refine p_iald (k := 3) (r := 2) (n := 10) hx hb hK hP ivS273.a.2.2 rfl rfl (by decide) (by decide) (by omega) (by omega) dL_acts_222 ?_
                    refine q_nm (show S273 3 2 ((2 * y267) + 1) = S 3 2 ((2 * y267) + 1) from by rw [h3S273]) ?_
                    refine q_if_eq (tgt := 234) hx hb (rS _ _ _) dL_acts_223 (by decide) (fun c_275 => (by exfalso; omega)) (fun c_275 => ?_)
                    refine lv_aload_n hx hb dL_acts_226 rfl (lv_at hl 5 rfl) ?_
                    refine lv_iconst (v := i32 (2)) hx hb dL_acts_227 rfl ?_
                    refine p_iald (k := 3) (r := 1) (n := 4) hx hb hK hP ivS273.a.2.2 rfl rfl (by decide) (by decide) (by omega) (by omega) dL_acts_228 ?_
                    refine q_nm (show S273 3 1 2 = S 3 1 2 from by rw [h3S273]) ?_
                    refine lv_bipush (v := i32 (20)) hx hb dL_acts_229 (by decide) ?_
                    refine q_icmp_ne (tgt := 247) hx hb (rS _ _ _) ⟨by decide, by decide⟩ dL_acts_231 (by decide) (fun c_276 => ?_) (fun c_276 => (by exfalso; omega))
                    refine lv_aload_n hx hb dL_acts_247 rfl (lv_at hl 5 rfl) ?_
                    refine lv_iconst (v := i32 (2)) hx hb dL_acts_248 rfl ?_
                    refine lv_dup2_11 hx hb dL_acts_249 rfl rfl ?_
                    refine p_iald (k := 3) (r := 1) (n := 4) hx hb hK hP ivS273.a.2.2 rfl rfl (by decide) (by decide) (by omega) (by omega) dL_acts_250 ?_
                    refine q_nm (show S273 3 1 2 = S 3 1 2 from by rw [h3S273]) ?_
                    refine lv_iconst (v := i32 (1)) hx hb dL_acts_251 rfl ?_
                    refine q_iadd hx hb dL_acts_252 ?_
                    refine p_iast (k := 3) (r := 1) (n := 4) hx hb hK hP hS ivS273.a.2.2 rfl rfl (by decide) (by decide) (by omega) (by omega) ⟨by omega, by omega⟩ dL_acts_253 (fun H locs hP hS => ?_)
                    generalize eS277 : st S273 3 1 2 ((S 3 1 2) + 1) = S277 at hP
                    have qS277 : ∀ (a1 b1 : Nat) (i1 : Int), S277 a1 b1 i1 = if a1 = 3 ∧ b1 = 1 ∧ i1 = 2 then (S 3 1 2) + 1 else S273 a1 b1 i1 := fun a1 b1 i1 => by rw [← eS277]; exact st_at _ _ _ _ _ _ _ _
                    have rS277 : ∀ (a1 b1 : Nat) (i1 : Int), rng (S277 a1 b1 i1) := fun a1 b1 i1 => hP.rg a1 b1 i1
                    have aS277_1 : S277 1 0 (-1) = 1 := by rw [qS277, if_neg (by omega)]; exact ivS273.a.1
                    have aS277_2 : S277 2 0 (-1) = 1 := by rw [qS277, if_neg (by omega)]; exact ivS273.a.2.1
                    have aS277_3 : S277 3 0 (-1) = 1 := by rw [qS277, if_neg (by omega)]; exact ivS273.a.2.2
                    have ivS277 : IV S277 := by rw [← eS277]; exact IV_3 ivS273 (by decide)
                    have en : ∀ a : Nat, a ≠ 3 → S277 a = S273 a := fun a h => fe (fun b i => by rw [qS277, if_neg (by omega)])
                    have kN2 : peC S277 (S 1 0 6) := ⟨hp20.1, by omega, by rw [en 1 (by decide)]; exact g7⟩
                    obtain ⟨na1, na2, na3⟩ := ob_k (en (10 + Int.toNat (S 1 0 6)) (by omega))
                    have lv9 : LV S277 := LV_n hV hI.k.1.2 (fun b i h => by rw [qS277, if_neg (by omega), fr9 _ _ _ (by omega) (by omega)]) (by rw [qS277, if_pos ⟨rfl, rfl, rfl⟩, en 1 (by decide), g6, v2]) (by rw [en 1 (by decide), fr9 _ _ _ (by omega) (by omega)]) (by rw [en 2 (by decide)]; exact fe (fun b i => fr9 _ _ _ (by omega) (by omega))) (fun a h1 h2 => by rw [en a (by omega)]; exact fe (fun b i => fr9 _ _ _ (by omega) (by omega)))
                    have hcc : ceC S277 y267 := ivS277.ce.mpr (by rw [en 1 (by decide), fr9 _ _ _ (by omega) (by omega)]; omega)
                    have hm0 : 0 ≤ (S 3 2 (2 * y267)) * (S 3 2 ((2 * y267) + 1)) := Int.mul_nonneg (by omega) (by omega)
                    have hm1 : (S 3 2 (2 * y267)) * (S 3 2 ((2 * y267) + 1)) ≤ 240 := mul240 (by omega) (by omega) (by omega) (by omega)
                    refine lv_iload hx hb dL_acts_254 (lv_at hl 0 rfl) ?_
                    refine lv_aload_n hx hb dL_acts_256 rfl (lv_at hl 5 rfl) ?_
                    refine lv_iconst (v := i32 (2)) hx hb dL_acts_257 rfl ?_
                    refine p_iald (k := 3) (r := 1) (n := 4) hx hb hK hP aS277_3 rfl rfl (by decide) (by decide) (by omega) (by omega) dL_acts_258 ?_
                    refine q_nm (show S277 3 1 2 = (S 3 1 2) + 1 from by rw [qS277, if_pos ⟨rfl, rfl, rfl⟩]) ?_
                    refine lv_iconst (v := i32 (1)) hx hb dL_acts_259 rfl ?_
                    refine q_isub hx hb dL_acts_260 ?_
                    refine q_icmp_ne (tgt := 314) hx hb (rS _ _ _) ⟨by omega, by omega⟩ dL_acts_261 (by decide) (fun c_278 => (by exfalso; omega)) (fun c_278 => ?_)
                    refine lv_aload_n hx hb dL_acts_264 rfl (lv_at hl 4 rfl) ?_
                    refine lv_iload hx hb dL_acts_265 (lv_at hl 0 rfl) ?_
                    refine lv_iload hx hb dL_acts_267 (lv_at hl 2 rfl) ?_
                    refine q_callH2 (As := [.ref (ad272 1 0), .int (i32 (S 1 0 6)), .int (i32 (y267))]) (rest := []) hx hb hml hl.1 hown hK hZ hP hS (c_L_likeness l g base ad272 S277 (S 1 0 6) y267 hfl ivS277.wc (rS _ _ _) ⟨by omega, by omega⟩) t_504 t_14 t_506 t_505 f_yL_likeness ⟨Nat.le_of_ble_eq_true rfl, Nat.le_of_ble_eq_true rfl⟩ rfl rfl (Nat.le_of_ble_eq_true rfl) dL_acts_269 (c2 := 11) (s2 := 805) ⟨by first | rfl | (dsimp only; omega), by first | rfl | (dsimp only; omega)⟩ ⟨by show 11 ≤ 2970; omega, by show 805 ≤ 18559; omega⟩ (q_an (fun H locs hP hS => ?_))
                    refine q_nm (b := S 3 2 (2 * y267) * S 3 2 ((2 * y267) + 1)) ((lv_0 ⟨kN2, hcc⟩ trivial trivial).trans (by rw [ln_k (en _ (by omega)) (en _ (by omega)), gln, ← hd1, ← hd3])) ?_
                    refine lv_aload_n hx hb dL_acts_272 rfl (lv_at hl 6 rfl) ?_
                    refine lv_iconst (v := i32 (2)) hx hb dL_acts_273 rfl ?_
                    refine lv_iload hx hb dL_acts_274 (lv_at hl 2 rfl) ?_
                    refine q_imul hx hb dL_acts_276 ?_
                    refine p_iald (k := 3) (r := 2) (n := 10) hx hb hK hP aS277_3 rfl rfl (by decide) (by decide) (by omega) (by omega) dL_acts_277 ?_
                    refine q_nm (show S277 3 2 (2 * y267) = S 3 2 (2 * y267) from by rw [qS277, if_neg (by omega), h3S273]) ?_
                    refine lv_aload_n hx hb dL_acts_278 rfl (lv_at hl 6 rfl) ?_
                    refine lv_iconst (v := i32 (2)) hx hb dL_acts_279 rfl ?_
                    refine lv_iload hx hb dL_acts_280 (lv_at hl 2 rfl) ?_
                    refine q_imul hx hb dL_acts_282 ?_
                    refine lv_iconst (v := i32 (1)) hx hb dL_acts_283 rfl ?_
                    refine q_iadd hx hb dL_acts_284 ?_
                    refine p_iald (k := 3) (r := 2) (n := 10) hx hb hK hP aS277_3 rfl rfl (by decide) (by decide) (by omega) (by omega) dL_acts_285 ?_
                    refine q_nm (show S277 3 2 ((2 * y267) + 1) = S 3 2 ((2 * y267) + 1) from by rw [qS277, if_neg (by omega), h3S273]) ?_
                    refine q_imul hx hb dL_acts_286 ?_
                    refine q_icmp_ne (tgt := 314) hx hb ⟨by omega, by omega⟩ ⟨by omega, by omega⟩ dL_acts_287 (by decide) (fun c_279 => (by exfalso; omega)) (fun c_279 => ?_)
                    refine lv_aload_n hx hb dL_acts_290 rfl (lv_at hl 4 rfl) ?_
                    refine lv_iload hx hb dL_acts_291 (lv_at hl 0 rfl) ?_
                    refine q_callH2 (As := [.ref (ad272 1 0), .int (i32 (S 1 0 6))]) (rest := []) hx hb hml hl.1 hown hK hZ hP hS (c_L_isTrue l g base ad272 S277 (S 1 0 6) hfl ivS277.wc (rS _ _ _)) t_516 t_14 t_518 t_517 f_yL_isTrue ⟨Nat.le_of_ble_eq_true rfl, Nat.le_of_ble_eq_true rfl⟩ rfl rfl (Nat.le_of_ble_eq_true rfl) dL_acts_293 (c2 := 12) (s2 := 811) ⟨by first | rfl | (dsimp only; omega), by first | rfl | (dsimp only; omega)⟩ ⟨by show 12 ≤ 2970; omega, by show 811 ≤ 18559; omega⟩ (q_an (fun H locs hP hS => ?_))
                    refine q_nm (b := 1) ((lv_0 kN2 trivial trivial).trans (b2_t (na3.mpr gtr))) ?_
                    refine lv_iconst (v := i32 (1)) hx hb dL_acts_296 rfl ?_
                    refine q_icmp_ne (tgt := 314) hx hb ⟨by decide, by decide⟩ ⟨by decide, by decide⟩ dL_acts_297 (by decide) (fun c_280 => (by exfalso; omega)) (fun c_280 => ?_)
                    refine lv_aload_n hx hb dL_acts_300 rfl (lv_at hl 4 rfl) ?_
                    refine lv_aload_n hx hb dL_acts_301 rfl (lv_at hl 7 rfl) ?_
                    refine lv_iload hx hb dL_acts_302 (lv_at hl 0 rfl) ?_
                    refine q_callS2 (As := [.ref (ad272 1 0), .ref (ad272 3 3), .int (i32 (S 1 0 6))]) (rest := []) hx hb hml hl.1 hown hK hZ hP hS (c_L_isPiece l g base ad272 S277 (S 1 0 6) hfl ivS277 kN2 lv9.2.2.2 (rS _ _ _)) t_329 (q_callB hK 328 14 330 t_328 t_14 t_330 f_yL_isPiece ⟨Nat.le_of_ble_eq_true rfl, Nat.le_of_ble_eq_true rfl⟩) rfl rfl (Nat.le_of_ble_eq_true rfl) dL_acts_304 (c2 := 1472) (s2 := 9571) ⟨by first | rfl | (dsimp only; omega), by first | rfl | (dsimp only; omega)⟩ ⟨by show 1472 ≤ 2970; omega, by show 9571 ≤ 18559; omega⟩ (q_an (fun H locs hP hS => ?_))
                    refine q_if_eq (tgt := 314) hx hb ⟨by decide, by decide⟩ dL_acts_307 (by decide) (fun h => by omega) (fun _ => ?_)
                    refine lv_iconst (v := i32 (1)) hx hb dL_acts_310 rfl ?_
                    refine lv_goto (tgt := 315) hx hb dL_acts_311 (by decide) ?_
                    subst hQm
                    exact q_zret hx hb hr hlocks hP hS (v := 1) (by decide) (by exact ⟨⟨rfl, ek_ad272⟩, ivS277, lv9⟩) (by show 1472 ≤ 2970; omega) (by show 9571 ≤ 18559; omega) dL_acts_315
                  · -- y270 = 0
                    refine lv_iconst (v := i32 (1)) hx hb dL_acts_181 rfl ?_
                    refine lv_goto (tgt := 186) hx hb dL_acts_182 (by decide) ?_
                    have w9 := IV_loom (mir := True) hI (hI.ce.mpr (show 0 ≤ y267 ∧ y267 < S 1 0 3 by omega)) h_B h_C
                    refine W.eq (g2 := F0 m 186 ls (Value.int (i32 (b2 (True))) :: Value.int (i32 (1 + y268)) :: Value.int (i32 (y267)) :: Value.ref (ad 1 0) :: [])) (by simp only [b2_t trivial, b2_f not_false] <;> rfl) ?_
                    refine q_callH2 (As := [.ref (ad 1 0), .int (i32 (y267)), .int (i32 (1 + y268)), .int (i32 (b2 (True)))]) (rest := []) hx hb hml hl.1 hown hK hZ hP hS (c_L_loom l g base ad S y267 (1 + y268) True hfl hI.wc ⟨by omega, by omega⟩ ⟨by omega, by omega⟩ hI.hcf hI.hpf) t_442 t_14 t_444 t_443 f_yL_loom ⟨Nat.le_of_ble_eq_true rfl, Nat.le_of_ble_eq_true rfl⟩ rfl rfl (Nat.le_of_ble_eq_true rfl) dL_acts_186 (c2 := 9) (s2 := 793) ⟨by first | rfl | (dsimp only; omega), by first | rfl | (dsimp only; omega)⟩ ⟨by show 9 ≤ 2970; omega, by show 793 ≤ 18559; omega⟩ (fun rr ad' S' H locs hQ hP hS => ?_)
                    have hc9 : (ceC S y267) ∧ (1 ≤ (1 + y268) ∧ (1 + y268) ≤ 4 ∧ (1 + y268) ≤ S (4 + y267.toNat) 0 0) ∧ (1 ≤ S (4 + y267.toNat) 0 1 ∧ S 1 0 6 < 20) := ⟨hI.ce.mpr (by omega), h_B, h_C⟩
                    obtain ⟨⟨hr9, ek9⟩, hQ⟩ := hQ
                    have hs9 := (hQ.resolve_left (fun y9 => y9.1 hc9)).2
                    subst hr9
                    rw [hs9] at hP
                    refine q_nm (b := S 1 0 6) ((lv_0 hc9.1 hc9.2.1 hc9.2.2).trans (rfl)) ?_
                    obtain ⟨ad281, had281⟩ : ∃ a9 : Nat → Nat → Nat, a9 = ad' := ⟨_, rfl⟩
                    rw [← had281] at ek9 hP
                    have ek_ad281 : ∀ x q, x < 4 → ad281 x q = ad x q := fun x q h => (ek9 x q h)
                    have el_ad281 : ∀ x q, x < 4 → ad281 x q = ad x q := ek9
                    have hl : lv_has ls 13 [(9, .int (i32 (1 + y268))), (8, .int (i32 (y267))), (7, .int (i32 (y1))), (0, .ref (ad281 1 0)), (1, .ref (ad281 3 1)), (2, .ref (ad281 3 2)), (3, .ref (ad281 3 3)), (4, .ref (ad281 3 4)), (5, .int (i32 (x))), (6, .int (i32 (y)))] := by
                      have t9 := hl
                      rw [← el_ad281 1 0 (by decide), ← el_ad281 3 1 (by decide), ← el_ad281 3 2 (by decide), ← el_ad281 3 3 (by decide), ← el_ad281 3 4 (by decide)] at t9
                      exact t9
                    skip
                    generalize eS282 : lmS S y267 (1 + y268) True = S282 at hP
                    have rS282 : ∀ (a1 b1 : Nat) (i1 : Int), rng (S282 a1 b1 i1) := fun a1 b1 i1 => hP.rg a1 b1 i1
                    have ivS282 : IV S282 := by rw [← eS282]; exact w9.1
                    have h3S282 : ∀ (b1 : Nat) (i1 : Int), S282 3 b1 i1 = S 3 b1 i1 := by rw [← eS282]; exact fun b i => w9.2.1.2.2 3 b i (by omega) (by omega)
                    rw [eS282] at w9
                    obtain ⟨-, ⟨g6, g7, fr9⟩, gtr, gln⟩ := w9
                    refine lv_istore (lv' := [(10, .int (i32 (S 1 0 6))), (9, .int (i32 (1 + y268))), (8, .int (i32 (y267))), (7, .int (i32 (y1))), (0, .ref (ad281 1 0)), (1, .ref (ad281 3 1)), (2, .ref (ad281 3 2)), (3, .ref (ad281 3 3)), (4, .ref (ad281 3 4)), (5, .int (i32 (x))), (6, .int (i32 (y)))]) hx hb dL_acts_189 hl (by decide) rfl (fun ls hl => ?_)
                    refine lv_iload hx hb dL_acts_191 (lv_at hl 1 rfl) ?_
                    refine lv_aload_n hx hb dL_acts_193 rfl (lv_at hl 6 rfl) ?_
                    refine lv_iconst (v := i32 (2)) hx hb dL_acts_194 rfl ?_
                    refine lv_iload hx hb dL_acts_195 (lv_at hl 2 rfl) ?_
                    refine q_imul hx hb dL_acts_197 ?_
                    refine p_iald (k := 3) (r := 2) (n := 10) hx hb hK hP ivS282.a.2.2 rfl rfl (by decide) (by decide) (by omega) (by omega) dL_acts_198 ?_
                    refine q_nm (show S282 3 2 (2 * y267) = S 3 2 (2 * y267) from by rw [h3S282]) ?_
                    refine q_icmp_le (tgt := 215) hx hb ⟨by omega, by omega⟩ (rS _ _ _) dL_acts_199 (by decide) (fun c_283 => ?_) (fun c_283 => (by exfalso; omega))
                    refine lv_aload_n hx hb dL_acts_215 rfl (lv_at hl 6 rfl) ?_
                    refine lv_iconst (v := i32 (2)) hx hb dL_acts_216 rfl ?_
                    refine lv_iload hx hb dL_acts_217 (lv_at hl 2 rfl) ?_
                    refine q_imul hx hb dL_acts_219 ?_
                    refine lv_iconst (v := i32 (1)) hx hb dL_acts_220 rfl ?_
                    refine q_iadd hx hb dL_acts_221 ?_
                    refine p_iald (k := 3) (r := 2) (n := 10) hx hb hK hP ivS282.a.2.2 rfl rfl (by decide) (by decide) (by omega) (by omega) dL_acts_222 ?_
                    refine q_nm (show S282 3 2 ((2 * y267) + 1) = S 3 2 ((2 * y267) + 1) from by rw [h3S282]) ?_
                    refine q_if_eq (tgt := 234) hx hb (rS _ _ _) dL_acts_223 (by decide) (fun c_284 => (by exfalso; omega)) (fun c_284 => ?_)
                    refine lv_aload_n hx hb dL_acts_226 rfl (lv_at hl 5 rfl) ?_
                    refine lv_iconst (v := i32 (2)) hx hb dL_acts_227 rfl ?_
                    refine p_iald (k := 3) (r := 1) (n := 4) hx hb hK hP ivS282.a.2.2 rfl rfl (by decide) (by decide) (by omega) (by omega) dL_acts_228 ?_
                    refine q_nm (show S282 3 1 2 = S 3 1 2 from by rw [h3S282]) ?_
                    refine lv_bipush (v := i32 (20)) hx hb dL_acts_229 (by decide) ?_
                    refine q_icmp_ne (tgt := 247) hx hb (rS _ _ _) ⟨by decide, by decide⟩ dL_acts_231 (by decide) (fun c_285 => ?_) (fun c_285 => (by exfalso; omega))
                    refine lv_aload_n hx hb dL_acts_247 rfl (lv_at hl 5 rfl) ?_
                    refine lv_iconst (v := i32 (2)) hx hb dL_acts_248 rfl ?_
                    refine lv_dup2_11 hx hb dL_acts_249 rfl rfl ?_
                    refine p_iald (k := 3) (r := 1) (n := 4) hx hb hK hP ivS282.a.2.2 rfl rfl (by decide) (by decide) (by omega) (by omega) dL_acts_250 ?_
                    refine q_nm (show S282 3 1 2 = S 3 1 2 from by rw [h3S282]) ?_
                    refine lv_iconst (v := i32 (1)) hx hb dL_acts_251 rfl ?_
                    refine q_iadd hx hb dL_acts_252 ?_
                    refine p_iast (k := 3) (r := 1) (n := 4) hx hb hK hP hS ivS282.a.2.2 rfl rfl (by decide) (by decide) (by omega) (by omega) ⟨by omega, by omega⟩ dL_acts_253 (fun H locs hP hS => ?_)
                    generalize eS286 : st S282 3 1 2 ((S 3 1 2) + 1) = S286 at hP
                    have qS286 : ∀ (a1 b1 : Nat) (i1 : Int), S286 a1 b1 i1 = if a1 = 3 ∧ b1 = 1 ∧ i1 = 2 then (S 3 1 2) + 1 else S282 a1 b1 i1 := fun a1 b1 i1 => by rw [← eS286]; exact st_at _ _ _ _ _ _ _ _
                    have rS286 : ∀ (a1 b1 : Nat) (i1 : Int), rng (S286 a1 b1 i1) := fun a1 b1 i1 => hP.rg a1 b1 i1
                    have aS286_1 : S286 1 0 (-1) = 1 := by rw [qS286, if_neg (by omega)]; exact ivS282.a.1
                    have aS286_2 : S286 2 0 (-1) = 1 := by rw [qS286, if_neg (by omega)]; exact ivS282.a.2.1
                    have aS286_3 : S286 3 0 (-1) = 1 := by rw [qS286, if_neg (by omega)]; exact ivS282.a.2.2
                    have ivS286 : IV S286 := by rw [← eS286]; exact IV_3 ivS282 (by decide)
                    have en : ∀ a : Nat, a ≠ 3 → S286 a = S282 a := fun a h => fe (fun b i => by rw [qS286, if_neg (by omega)])
                    have kN2 : peC S286 (S 1 0 6) := ⟨hp20.1, by omega, by rw [en 1 (by decide)]; exact g7⟩
                    obtain ⟨na1, na2, na3⟩ := ob_k (en (10 + Int.toNat (S 1 0 6)) (by omega))
                    have lv9 : LV S286 := LV_n hV hI.k.1.2 (fun b i h => by rw [qS286, if_neg (by omega), fr9 _ _ _ (by omega) (by omega)]) (by rw [qS286, if_pos ⟨rfl, rfl, rfl⟩, en 1 (by decide), g6, v2]) (by rw [en 1 (by decide), fr9 _ _ _ (by omega) (by omega)]) (by rw [en 2 (by decide)]; exact fe (fun b i => fr9 _ _ _ (by omega) (by omega))) (fun a h1 h2 => by rw [en a (by omega)]; exact fe (fun b i => fr9 _ _ _ (by omega) (by omega)))
                    have hcc : ceC S286 y267 := ivS286.ce.mpr (by rw [en 1 (by decide), fr9 _ _ _ (by omega) (by omega)]; omega)
                    have hm0 : 0 ≤ (S 3 2 (2 * y267)) * (S 3 2 ((2 * y267) + 1)) := Int.mul_nonneg (by omega) (by omega)
                    have hm1 : (S 3 2 (2 * y267)) * (S 3 2 ((2 * y267) + 1)) ≤ 240 := mul240 (by omega) (by omega) (by omega) (by omega)
                    refine lv_iload hx hb dL_acts_254 (lv_at hl 0 rfl) ?_
                    refine lv_aload_n hx hb dL_acts_256 rfl (lv_at hl 5 rfl) ?_
                    refine lv_iconst (v := i32 (2)) hx hb dL_acts_257 rfl ?_
                    refine p_iald (k := 3) (r := 1) (n := 4) hx hb hK hP aS286_3 rfl rfl (by decide) (by decide) (by omega) (by omega) dL_acts_258 ?_
                    refine q_nm (show S286 3 1 2 = (S 3 1 2) + 1 from by rw [qS286, if_pos ⟨rfl, rfl, rfl⟩]) ?_
                    refine lv_iconst (v := i32 (1)) hx hb dL_acts_259 rfl ?_
                    refine q_isub hx hb dL_acts_260 ?_
                    refine q_icmp_ne (tgt := 314) hx hb (rS _ _ _) ⟨by omega, by omega⟩ dL_acts_261 (by decide) (fun c_287 => (by exfalso; omega)) (fun c_287 => ?_)
                    refine lv_aload_n hx hb dL_acts_264 rfl (lv_at hl 4 rfl) ?_
                    refine lv_iload hx hb dL_acts_265 (lv_at hl 0 rfl) ?_
                    refine lv_iload hx hb dL_acts_267 (lv_at hl 2 rfl) ?_
                    refine q_callH2 (As := [.ref (ad281 1 0), .int (i32 (S 1 0 6)), .int (i32 (y267))]) (rest := []) hx hb hml hl.1 hown hK hZ hP hS (c_L_likeness l g base ad281 S286 (S 1 0 6) y267 hfl ivS286.wc (rS _ _ _) ⟨by omega, by omega⟩) t_504 t_14 t_506 t_505 f_yL_likeness ⟨Nat.le_of_ble_eq_true rfl, Nat.le_of_ble_eq_true rfl⟩ rfl rfl (Nat.le_of_ble_eq_true rfl) dL_acts_269 (c2 := 11) (s2 := 805) ⟨by first | rfl | (dsimp only; omega), by first | rfl | (dsimp only; omega)⟩ ⟨by show 11 ≤ 2970; omega, by show 805 ≤ 18559; omega⟩ (q_an (fun H locs hP hS => ?_))
                    refine q_nm (b := S 3 2 (2 * y267) * S 3 2 ((2 * y267) + 1)) ((lv_0 ⟨kN2, hcc⟩ trivial trivial).trans (by rw [ln_k (en _ (by omega)) (en _ (by omega)), gln, ← hd1, ← hd3])) ?_
                    refine lv_aload_n hx hb dL_acts_272 rfl (lv_at hl 6 rfl) ?_
                    refine lv_iconst (v := i32 (2)) hx hb dL_acts_273 rfl ?_
                    refine lv_iload hx hb dL_acts_274 (lv_at hl 2 rfl) ?_
                    refine q_imul hx hb dL_acts_276 ?_
                    refine p_iald (k := 3) (r := 2) (n := 10) hx hb hK hP aS286_3 rfl rfl (by decide) (by decide) (by omega) (by omega) dL_acts_277 ?_
                    refine q_nm (show S286 3 2 (2 * y267) = S 3 2 (2 * y267) from by rw [qS286, if_neg (by omega), h3S282]) ?_
                    refine lv_aload_n hx hb dL_acts_278 rfl (lv_at hl 6 rfl) ?_
                    refine lv_iconst (v := i32 (2)) hx hb dL_acts_279 rfl ?_
                    refine lv_iload hx hb dL_acts_280 (lv_at hl 2 rfl) ?_
                    refine q_imul hx hb dL_acts_282 ?_
                    refine lv_iconst (v := i32 (1)) hx hb dL_acts_283 rfl ?_
                    refine q_iadd hx hb dL_acts_284 ?_
                    refine p_iald (k := 3) (r := 2) (n := 10) hx hb hK hP aS286_3 rfl rfl (by decide) (by decide) (by omega) (by omega) dL_acts_285 ?_
                    refine q_nm (show S286 3 2 ((2 * y267) + 1) = S 3 2 ((2 * y267) + 1) from by rw [qS286, if_neg (by omega), h3S282]) ?_
                    refine q_imul hx hb dL_acts_286 ?_
                    refine q_icmp_ne (tgt := 314) hx hb ⟨by omega, by omega⟩ ⟨by omega, by omega⟩ dL_acts_287 (by decide) (fun c_288 => (by exfalso; omega)) (fun c_288 => ?_)
                    refine lv_aload_n hx hb dL_acts_290 rfl (lv_at hl 4 rfl) ?_
                    refine lv_iload hx hb dL_acts_291 (lv_at hl 0 rfl) ?_
                    refine q_callH2 (As := [.ref (ad281 1 0), .int (i32 (S 1 0 6))]) (rest := []) hx hb hml hl.1 hown hK hZ hP hS (c_L_isTrue l g base ad281 S286 (S 1 0 6) hfl ivS286.wc (rS _ _ _)) t_516 t_14 t_518 t_517 f_yL_isTrue ⟨Nat.le_of_ble_eq_true rfl, Nat.le_of_ble_eq_true rfl⟩ rfl rfl (Nat.le_of_ble_eq_true rfl) dL_acts_293 (c2 := 12) (s2 := 811) ⟨by first | rfl | (dsimp only; omega), by first | rfl | (dsimp only; omega)⟩ ⟨by show 12 ≤ 2970; omega, by show 811 ≤ 18559; omega⟩ (q_an (fun H locs hP hS => ?_))
                    refine q_nm (b := 1) ((lv_0 kN2 trivial trivial).trans (b2_t (na3.mpr gtr))) ?_
                    refine lv_iconst (v := i32 (1)) hx hb dL_acts_296 rfl ?_
                    refine q_icmp_ne (tgt := 314) hx hb ⟨by decide, by decide⟩ ⟨by decide, by decide⟩ dL_acts_297 (by decide) (fun c_289 => (by exfalso; omega)) (fun c_289 => ?_)
                    refine lv_aload_n hx hb dL_acts_300 rfl (lv_at hl 4 rfl) ?_
                    refine lv_aload_n hx hb dL_acts_301 rfl (lv_at hl 7 rfl) ?_
                    refine lv_iload hx hb dL_acts_302 (lv_at hl 0 rfl) ?_
                    refine q_callS2 (As := [.ref (ad281 1 0), .ref (ad281 3 3), .int (i32 (S 1 0 6))]) (rest := []) hx hb hml hl.1 hown hK hZ hP hS (c_L_isPiece l g base ad281 S286 (S 1 0 6) hfl ivS286 kN2 lv9.2.2.2 (rS _ _ _)) t_329 (q_callB hK 328 14 330 t_328 t_14 t_330 f_yL_isPiece ⟨Nat.le_of_ble_eq_true rfl, Nat.le_of_ble_eq_true rfl⟩) rfl rfl (Nat.le_of_ble_eq_true rfl) dL_acts_304 (c2 := 1472) (s2 := 9571) ⟨by first | rfl | (dsimp only; omega), by first | rfl | (dsimp only; omega)⟩ ⟨by show 1472 ≤ 2970; omega, by show 9571 ≤ 18559; omega⟩ (q_an (fun H locs hP hS => ?_))
                    refine q_if_eq (tgt := 314) hx hb ⟨by decide, by decide⟩ dL_acts_307 (by decide) (fun h => by omega) (fun _ => ?_)
                    refine lv_iconst (v := i32 (1)) hx hb dL_acts_310 rfl ?_
                    refine lv_goto (tgt := 315) hx hb dL_acts_311 (by decide) ?_
                    subst hQm
                    exact q_zret hx hb hr hlocks hP hS (v := 1) (by decide) (by exact ⟨⟨rfl, ek_ad281⟩, ivS286, lv9⟩) (by show 1472 ≤ 2970; omega) (by show 9571 ≤ 18559; omega) dL_acts_315
                · skip
                  obtain ⟨hd1, hd2, hd3⟩ := vd y267 (by omega) (by omega)
                  obtain ⟨⟨-, hcw1, hcw2⟩, -⟩ := hI.k.2.2 y267 (by omega) (by omega)
                  refine lv_aload_n hx hb dL_acts_165 rfl (lv_at hl 3 rfl) ?_
                  refine lv_iload hx hb dL_acts_166 (lv_at hl 1 rfl) ?_
                  refine lv_iload hx hb dL_acts_168 (lv_at hl 0 rfl) ?_
                  refine lv_iload hx hb dL_acts_170 (lv_at hl 9 rfl) ?_
                  refine lv_iconst (v := i32 (2)) hx hb dL_acts_172 rfl ?_
                  refine lv_ishr hx hb dL_acts_173 ?_
                  obtain ⟨z290, rz290, hz290⟩ := i32_of (i32 (y) >>> (i32 (2) &&& 31))
                  rw [hz290]
                  refine lv_iconst (v := i32 (2)) hx hb dL_acts_174 rfl ?_
                  refine q_callS2 (As := [.int (i32 (z290)), .int (i32 (2))]) (rest := [.int (i32 (1 + y268)), .int (i32 (y267)), .ref (ad 1 0)]) hx hb hml hl.1 hown hK hZ hP hS (c_L_low l g base ad S z290 ((2 : Int)) rz290 (by omega)) t_122 (q_callB hK 121 14 123 t_121 t_14 t_123 f_yL_low ⟨Nat.le_of_ble_eq_true rfl, Nat.le_of_ble_eq_true rfl⟩) rfl rfl (Nat.le_of_ble_eq_true rfl) dL_acts_175 (c2 := 0) (s2 := 0) ⟨by first | rfl | (dsimp only; omega), by first | rfl | (dsimp only; omega)⟩ ⟨by show 0 ≤ 2970; omega, by show 0 ≤ 18559; omega⟩ (q_an (fun H locs hP hS => ?_))
                  obtain ⟨y291, hy291⟩ : ∃ y99 : Int, loF z290 ((2 : Int)) = y99 := ⟨_, rfl⟩
                  have by291 := lo_b z290 (show 1 ≤ ((2 : Int)) by omega)
                  rw [hy291] at by291
                  refine q_nm hy291 ?_
                  refine q_if_ne (tgt := 185) hx hb ⟨by omega, by omega⟩ dL_acts_178 (by decide) (fun c_292 => ?_) (fun c_292 => ?_)
                  · -- y291 ≠ 0
                    refine lv_iconst (v := i32 (0)) hx hb dL_acts_185 rfl ?_
                    refine W.eq (g2 := F0 m 186 ls (Value.int (i32 (b2 (False))) :: Value.int (i32 (1 + y268)) :: Value.int (i32 (y267)) :: Value.ref (ad 1 0) :: [])) (by simp only [b2_t trivial, b2_f not_false] <;> rfl) ?_
                    refine q_callH2 (As := [.ref (ad 1 0), .int (i32 (y267)), .int (i32 (1 + y268)), .int (i32 (b2 (False)))]) (rest := []) hx hb hml hl.1 hown hK hZ hP hS (c_L_loom l g base ad S y267 (1 + y268) False hfl hI.wc ⟨by omega, by omega⟩ ⟨by omega, by omega⟩ hI.hcf hI.hpf) t_442 t_14 t_444 t_443 f_yL_loom ⟨Nat.le_of_ble_eq_true rfl, Nat.le_of_ble_eq_true rfl⟩ rfl rfl (Nat.le_of_ble_eq_true rfl) dL_acts_186 (c2 := 9) (s2 := 793) ⟨by first | rfl | (dsimp only; omega), by first | rfl | (dsimp only; omega)⟩ ⟨by show 9 ≤ 2970; omega, by show 793 ≤ 18559; omega⟩ (fun rr ad' S' H locs hQ hP hS => ?_)
                    obtain ⟨⟨hr9, ek9⟩, hQ⟩ := hQ
                    have hc9_1 : ceC S y267 := hI.ce.mpr (by omega)
                    have hc9_2 : 1 ≤ (1 + y268) ∧ (1 + y268) ≤ 4 ∧ (1 + y268) ≤ S (4 + y267.toNat) 0 0 := h_B
                    have hc9_3 : ¬ (1 ≤ S (4 + y267.toNat) 0 1 ∧ S 1 0 6 < 20) := h_C
                    have hs9 := (hQ.resolve_right (fun y9 => hc9_3 y9.1.2.2)).2
                    subst hr9
                    rw [hs9] at hP
                    obtain ⟨ad293, had293⟩ : ∃ a9 : Nat → Nat → Nat, a9 = ad' := ⟨_, rfl⟩
                    rw [← had293] at ek9 hP
                    have ek_ad293 : ∀ x q, x < 4 → ad293 x q = ad x q := fun x q h => (ek9 x q h)
                    have el_ad293 : ∀ x q, x < 4 → ad293 x q = ad x q := ek9
                    have hl : lv_has ls 13 [(9, .int (i32 (1 + y268))), (8, .int (i32 (y267))), (7, .int (i32 (y1))), (0, .ref (ad293 1 0)), (1, .ref (ad293 3 1)), (2, .ref (ad293 3 2)), (3, .ref (ad293 3 3)), (4, .ref (ad293 3 4)), (5, .int (i32 (x))), (6, .int (i32 (y)))] := by
                      have t9 := hl
                      rw [← el_ad293 1 0 (by decide), ← el_ad293 3 1 (by decide), ← el_ad293 3 2 (by decide), ← el_ad293 3 3 (by decide), ← el_ad293 3 4 (by decide)] at t9
                      exact t9
                    skip
                    refine q_nm (lv_3 hc9_1 hc9_2 hc9_3) ?_
                    refine lv_istore (lv' := [(10, .int (i32 (-1000003))), (9, .int (i32 (1 + y268))), (8, .int (i32 (y267))), (7, .int (i32 (y1))), (0, .ref (ad293 1 0)), (1, .ref (ad293 3 1)), (2, .ref (ad293 3 2)), (3, .ref (ad293 3 3)), (4, .ref (ad293 3 4)), (5, .int (i32 (x))), (6, .int (i32 (y)))]) hx hb dL_acts_189 hl (by decide) rfl (fun ls hl => ?_)
                    refine lv_iload hx hb dL_acts_191 (lv_at hl 1 rfl) ?_
                    refine lv_aload_n hx hb dL_acts_193 rfl (lv_at hl 6 rfl) ?_
                    refine lv_iconst (v := i32 (2)) hx hb dL_acts_194 rfl ?_
                    refine lv_iload hx hb dL_acts_195 (lv_at hl 2 rfl) ?_
                    refine q_imul hx hb dL_acts_197 ?_
                    refine p_iald (k := 3) (r := 2) (n := 10) hx hb hK hP hI.a.2.2 rfl rfl (by decide) (by decide) (by omega) (by omega) dL_acts_198 ?_
                    refine q_icmp_le (tgt := 215) hx hb ⟨by omega, by omega⟩ (rS _ _ _) dL_acts_199 (by decide) (fun c_294 => ?_) (fun c_294 => (by exfalso; omega))
                    refine lv_aload_n hx hb dL_acts_215 rfl (lv_at hl 6 rfl) ?_
                    refine lv_iconst (v := i32 (2)) hx hb dL_acts_216 rfl ?_
                    refine lv_iload hx hb dL_acts_217 (lv_at hl 2 rfl) ?_
                    refine q_imul hx hb dL_acts_219 ?_
                    refine lv_iconst (v := i32 (1)) hx hb dL_acts_220 rfl ?_
                    refine q_iadd hx hb dL_acts_221 ?_
                    refine p_iald (k := 3) (r := 2) (n := 10) hx hb hK hP hI.a.2.2 rfl rfl (by decide) (by decide) (by omega) (by omega) dL_acts_222 ?_
                    refine q_if_eq (tgt := 234) hx hb (rS _ _ _) dL_acts_223 (by decide) (fun c_295 => ?_) (fun c_295 => ?_)
                    · -- (S 3 2 ((2 * y267) + 1)) = 0
                      refine lv_iload hx hb dL_acts_234 (lv_at hl 0 rfl) ?_
                      refine q_ldc (z := -1000003) hx hb hown hK t_250 rfl dL_acts_236 ?_
                      refine q_icmp_ne (tgt := 245) hx hb ⟨by decide, by decide⟩ ⟨by decide, by decide⟩ dL_acts_238 (by decide) (fun c_296 => (by exfalso; omega)) (fun c_296 => ?_)
                      refine lv_iconst (v := i32 (1)) hx hb dL_acts_241 rfl ?_
                      refine lv_goto (tgt := 246) hx hb dL_acts_242 (by decide) ?_
                      subst hQm
                      exact q_zret hx hb hr hlocks hP hS (v := 1) (by decide) (by exact ⟨⟨rfl, ek_ad293⟩, hI, hV⟩) (by show 9 ≤ 2970; omega) (by show 793 ≤ 18559; omega) dL_acts_246
                    · -- (S 3 2 ((2 * y267) + 1)) ≠ 0
                      refine lv_aload_n hx hb dL_acts_226 rfl (lv_at hl 5 rfl) ?_
                      refine lv_iconst (v := i32 (2)) hx hb dL_acts_227 rfl ?_
                      refine p_iald (k := 3) (r := 1) (n := 4) hx hb hK hP hI.a.2.2 rfl rfl (by decide) (by decide) (by omega) (by omega) dL_acts_228 ?_
                      refine lv_bipush (v := i32 (20)) hx hb dL_acts_229 (by decide) ?_
                      refine q_icmp_ne (tgt := 247) hx hb (rS _ _ _) ⟨by decide, by decide⟩ dL_acts_231 (by decide) (fun c_297 => (by exfalso; exact h_C ⟨by omega, by omega⟩)) (fun c_297 => ?_)
                      refine lv_iload hx hb dL_acts_234 (lv_at hl 0 rfl) ?_
                      refine q_ldc (z := -1000003) hx hb hown hK t_250 rfl dL_acts_236 ?_
                      refine q_icmp_ne (tgt := 245) hx hb ⟨by decide, by decide⟩ ⟨by decide, by decide⟩ dL_acts_238 (by decide) (fun c_298 => (by exfalso; omega)) (fun c_298 => ?_)
                      refine lv_iconst (v := i32 (1)) hx hb dL_acts_241 rfl ?_
                      refine lv_goto (tgt := 246) hx hb dL_acts_242 (by decide) ?_
                      subst hQm
                      exact q_zret hx hb hr hlocks hP hS (v := 1) (by decide) (by exact ⟨⟨rfl, ek_ad293⟩, hI, hV⟩) (by show 9 ≤ 2970; omega) (by show 793 ≤ 18559; omega) dL_acts_246
                  · -- y291 = 0
                    refine lv_iconst (v := i32 (1)) hx hb dL_acts_181 rfl ?_
                    refine lv_goto (tgt := 186) hx hb dL_acts_182 (by decide) ?_
                    refine W.eq (g2 := F0 m 186 ls (Value.int (i32 (b2 (True))) :: Value.int (i32 (1 + y268)) :: Value.int (i32 (y267)) :: Value.ref (ad 1 0) :: [])) (by simp only [b2_t trivial, b2_f not_false] <;> rfl) ?_
                    refine q_callH2 (As := [.ref (ad 1 0), .int (i32 (y267)), .int (i32 (1 + y268)), .int (i32 (b2 (True)))]) (rest := []) hx hb hml hl.1 hown hK hZ hP hS (c_L_loom l g base ad S y267 (1 + y268) True hfl hI.wc ⟨by omega, by omega⟩ ⟨by omega, by omega⟩ hI.hcf hI.hpf) t_442 t_14 t_444 t_443 f_yL_loom ⟨Nat.le_of_ble_eq_true rfl, Nat.le_of_ble_eq_true rfl⟩ rfl rfl (Nat.le_of_ble_eq_true rfl) dL_acts_186 (c2 := 9) (s2 := 793) ⟨by first | rfl | (dsimp only; omega), by first | rfl | (dsimp only; omega)⟩ ⟨by show 9 ≤ 2970; omega, by show 793 ≤ 18559; omega⟩ (fun rr ad' S' H locs hQ hP hS => ?_)
                    obtain ⟨⟨hr9, ek9⟩, hQ⟩ := hQ
                    have hc9_1 : ceC S y267 := hI.ce.mpr (by omega)
                    have hc9_2 : 1 ≤ (1 + y268) ∧ (1 + y268) ≤ 4 ∧ (1 + y268) ≤ S (4 + y267.toNat) 0 0 := h_B
                    have hc9_3 : ¬ (1 ≤ S (4 + y267.toNat) 0 1 ∧ S 1 0 6 < 20) := h_C
                    have hs9 := (hQ.resolve_right (fun y9 => hc9_3 y9.1.2.2)).2
                    subst hr9
                    rw [hs9] at hP
                    obtain ⟨ad299, had299⟩ : ∃ a9 : Nat → Nat → Nat, a9 = ad' := ⟨_, rfl⟩
                    rw [← had299] at ek9 hP
                    have ek_ad299 : ∀ x q, x < 4 → ad299 x q = ad x q := fun x q h => (ek9 x q h)
                    have el_ad299 : ∀ x q, x < 4 → ad299 x q = ad x q := ek9
                    have hl : lv_has ls 13 [(9, .int (i32 (1 + y268))), (8, .int (i32 (y267))), (7, .int (i32 (y1))), (0, .ref (ad299 1 0)), (1, .ref (ad299 3 1)), (2, .ref (ad299 3 2)), (3, .ref (ad299 3 3)), (4, .ref (ad299 3 4)), (5, .int (i32 (x))), (6, .int (i32 (y)))] := by
                      have t9 := hl
                      rw [← el_ad299 1 0 (by decide), ← el_ad299 3 1 (by decide), ← el_ad299 3 2 (by decide), ← el_ad299 3 3 (by decide), ← el_ad299 3 4 (by decide)] at t9
                      exact t9
                    skip
                    refine q_nm (lv_3 hc9_1 hc9_2 hc9_3) ?_
                    refine lv_istore (lv' := [(10, .int (i32 (-1000003))), (9, .int (i32 (1 + y268))), (8, .int (i32 (y267))), (7, .int (i32 (y1))), (0, .ref (ad299 1 0)), (1, .ref (ad299 3 1)), (2, .ref (ad299 3 2)), (3, .ref (ad299 3 3)), (4, .ref (ad299 3 4)), (5, .int (i32 (x))), (6, .int (i32 (y)))]) hx hb dL_acts_189 hl (by decide) rfl (fun ls hl => ?_)
                    refine lv_iload hx hb dL_acts_191 (lv_at hl 1 rfl) ?_
                    refine lv_aload_n hx hb dL_acts_193 rfl (lv_at hl 6 rfl) ?_
                    refine lv_iconst (v := i32 (2)) hx hb dL_acts_194 rfl ?_
                    refine lv_iload hx hb dL_acts_195 (lv_at hl 2 rfl) ?_
                    refine q_imul hx hb dL_acts_197 ?_
                    refine p_iald (k := 3) (r := 2) (n := 10) hx hb hK hP hI.a.2.2 rfl rfl (by decide) (by decide) (by omega) (by omega) dL_acts_198 ?_
                    refine q_icmp_le (tgt := 215) hx hb ⟨by omega, by omega⟩ (rS _ _ _) dL_acts_199 (by decide) (fun c_300 => ?_) (fun c_300 => (by exfalso; omega))
                    refine lv_aload_n hx hb dL_acts_215 rfl (lv_at hl 6 rfl) ?_
                    refine lv_iconst (v := i32 (2)) hx hb dL_acts_216 rfl ?_
                    refine lv_iload hx hb dL_acts_217 (lv_at hl 2 rfl) ?_
                    refine q_imul hx hb dL_acts_219 ?_
                    refine lv_iconst (v := i32 (1)) hx hb dL_acts_220 rfl ?_
                    refine q_iadd hx hb dL_acts_221 ?_
                    refine p_iald (k := 3) (r := 2) (n := 10) hx hb hK hP hI.a.2.2 rfl rfl (by decide) (by decide) (by omega) (by omega) dL_acts_222 ?_
                    refine q_if_eq (tgt := 234) hx hb (rS _ _ _) dL_acts_223 (by decide) (fun c_301 => ?_) (fun c_301 => ?_)
                    · -- (S 3 2 ((2 * y267) + 1)) = 0
                      refine lv_iload hx hb dL_acts_234 (lv_at hl 0 rfl) ?_
                      refine q_ldc (z := -1000003) hx hb hown hK t_250 rfl dL_acts_236 ?_
                      refine q_icmp_ne (tgt := 245) hx hb ⟨by decide, by decide⟩ ⟨by decide, by decide⟩ dL_acts_238 (by decide) (fun c_302 => (by exfalso; omega)) (fun c_302 => ?_)
                      refine lv_iconst (v := i32 (1)) hx hb dL_acts_241 rfl ?_
                      refine lv_goto (tgt := 246) hx hb dL_acts_242 (by decide) ?_
                      subst hQm
                      exact q_zret hx hb hr hlocks hP hS (v := 1) (by decide) (by exact ⟨⟨rfl, ek_ad299⟩, hI, hV⟩) (by show 9 ≤ 2970; omega) (by show 793 ≤ 18559; omega) dL_acts_246
                    · -- (S 3 2 ((2 * y267) + 1)) ≠ 0
                      refine lv_aload_n hx hb dL_acts_226 rfl (lv_at hl 5 rfl) ?_
                      refine lv_iconst (v := i32 (2)) hx hb dL_acts_227 rfl ?_
                      refine p_iald (k := 3) (r := 1) (n := 4) hx hb hK hP hI.a.2.2 rfl rfl (by decide) (by decide) (by omega) (by omega) dL_acts_228 ?_
                      refine lv_bipush (v := i32 (20)) hx hb dL_acts_229 (by decide) ?_
                      refine q_icmp_ne (tgt := 247) hx hb (rS _ _ _) ⟨by decide, by decide⟩ dL_acts_231 (by decide) (fun c_303 => (by exfalso; exact h_C ⟨by omega, by omega⟩)) (fun c_303 => ?_)
                      refine lv_iload hx hb dL_acts_234 (lv_at hl 0 rfl) ?_
                      refine q_ldc (z := -1000003) hx hb hown hK t_250 rfl dL_acts_236 ?_
                      refine q_icmp_ne (tgt := 245) hx hb ⟨by decide, by decide⟩ ⟨by decide, by decide⟩ dL_acts_238 (by decide) (fun c_304 => (by exfalso; omega)) (fun c_304 => ?_)
                      refine lv_iconst (v := i32 (1)) hx hb dL_acts_241 rfl ?_
                      refine lv_goto (tgt := 246) hx hb dL_acts_242 (by decide) ?_
                      subst hQm
                      exact q_zret hx hb hr hlocks hP hS (v := 1) (by decide) (by exact ⟨⟨rfl, ek_ad299⟩, hI, hV⟩) (by show 9 ≤ 2970; omega) (by show 793 ≤ 18559; omega) dL_acts_246
              · skip
                obtain ⟨hd1, hd2, hd3⟩ := vd y267 (by omega) (by omega)
                obtain ⟨⟨-, hcw1, hcw2⟩, -⟩ := hI.k.2.2 y267 (by omega) (by omega)
                refine lv_aload_n hx hb dL_acts_165 rfl (lv_at hl 3 rfl) ?_
                refine lv_iload hx hb dL_acts_166 (lv_at hl 1 rfl) ?_
                refine lv_iload hx hb dL_acts_168 (lv_at hl 0 rfl) ?_
                refine lv_iload hx hb dL_acts_170 (lv_at hl 9 rfl) ?_
                refine lv_iconst (v := i32 (2)) hx hb dL_acts_172 rfl ?_
                refine lv_ishr hx hb dL_acts_173 ?_
                obtain ⟨z305, rz305, hz305⟩ := i32_of (i32 (y) >>> (i32 (2) &&& 31))
                rw [hz305]
                refine lv_iconst (v := i32 (2)) hx hb dL_acts_174 rfl ?_
                refine q_callS2 (As := [.int (i32 (z305)), .int (i32 (2))]) (rest := [.int (i32 (1 + y268)), .int (i32 (y267)), .ref (ad 1 0)]) hx hb hml hl.1 hown hK hZ hP hS (c_L_low l g base ad S z305 ((2 : Int)) rz305 (by omega)) t_122 (q_callB hK 121 14 123 t_121 t_14 t_123 f_yL_low ⟨Nat.le_of_ble_eq_true rfl, Nat.le_of_ble_eq_true rfl⟩) rfl rfl (Nat.le_of_ble_eq_true rfl) dL_acts_175 (c2 := 0) (s2 := 0) ⟨by first | rfl | (dsimp only; omega), by first | rfl | (dsimp only; omega)⟩ ⟨by show 0 ≤ 2970; omega, by show 0 ≤ 18559; omega⟩ (q_an (fun H locs hP hS => ?_))
                obtain ⟨y306, hy306⟩ : ∃ y99 : Int, loF z305 ((2 : Int)) = y99 := ⟨_, rfl⟩
                have by306 := lo_b z305 (show 1 ≤ ((2 : Int)) by omega)
                rw [hy306] at by306
                refine q_nm hy306 ?_
                refine q_if_ne (tgt := 185) hx hb ⟨by omega, by omega⟩ dL_acts_178 (by decide) (fun c_307 => ?_) (fun c_307 => ?_)
                · -- y306 ≠ 0
                  refine lv_iconst (v := i32 (0)) hx hb dL_acts_185 rfl ?_
                  refine W.eq (g2 := F0 m 186 ls (Value.int (i32 (b2 (False))) :: Value.int (i32 (1 + y268)) :: Value.int (i32 (y267)) :: Value.ref (ad 1 0) :: [])) (by simp only [b2_t trivial, b2_f not_false] <;> rfl) ?_
                  refine q_callH2 (As := [.ref (ad 1 0), .int (i32 (y267)), .int (i32 (1 + y268)), .int (i32 (b2 (False)))]) (rest := []) hx hb hml hl.1 hown hK hZ hP hS (c_L_loom l g base ad S y267 (1 + y268) False hfl hI.wc ⟨by omega, by omega⟩ ⟨by omega, by omega⟩ hI.hcf hI.hpf) t_442 t_14 t_444 t_443 f_yL_loom ⟨Nat.le_of_ble_eq_true rfl, Nat.le_of_ble_eq_true rfl⟩ rfl rfl (Nat.le_of_ble_eq_true rfl) dL_acts_186 (c2 := 9) (s2 := 793) ⟨by first | rfl | (dsimp only; omega), by first | rfl | (dsimp only; omega)⟩ ⟨by show 9 ≤ 2970; omega, by show 793 ≤ 18559; omega⟩ (fun rr ad' S' H locs hQ hP hS => ?_)
                  obtain ⟨⟨hr9, ek9⟩, hQ⟩ := hQ
                  have hc9_1 : ceC S y267 := hI.ce.mpr (by omega)
                  have hc9_2 : ¬ (1 ≤ (1 + y268) ∧ (1 + y268) ≤ 4 ∧ (1 + y268) ≤ S (4 + y267.toNat) 0 0) := h_B
                  have hs9 := (hQ.resolve_right (fun y9 => hc9_2 y9.1.2.1)).2
                  subst hr9
                  rw [hs9] at hP
                  obtain ⟨ad308, had308⟩ : ∃ a9 : Nat → Nat → Nat, a9 = ad' := ⟨_, rfl⟩
                  rw [← had308] at ek9 hP
                  have ek_ad308 : ∀ x q, x < 4 → ad308 x q = ad x q := fun x q h => (ek9 x q h)
                  have el_ad308 : ∀ x q, x < 4 → ad308 x q = ad x q := ek9
                  have hl : lv_has ls 13 [(9, .int (i32 (1 + y268))), (8, .int (i32 (y267))), (7, .int (i32 (y1))), (0, .ref (ad308 1 0)), (1, .ref (ad308 3 1)), (2, .ref (ad308 3 2)), (3, .ref (ad308 3 3)), (4, .ref (ad308 3 4)), (5, .int (i32 (x))), (6, .int (i32 (y)))] := by
                    have t9 := hl
                    rw [← el_ad308 1 0 (by decide), ← el_ad308 3 1 (by decide), ← el_ad308 3 2 (by decide), ← el_ad308 3 3 (by decide), ← el_ad308 3 4 (by decide)] at t9
                    exact t9
                  skip
                  refine q_nm (lv_2 hc9_1 hc9_2) ?_
                  refine lv_istore (lv' := [(10, .int (i32 (-1000002))), (9, .int (i32 (1 + y268))), (8, .int (i32 (y267))), (7, .int (i32 (y1))), (0, .ref (ad308 1 0)), (1, .ref (ad308 3 1)), (2, .ref (ad308 3 2)), (3, .ref (ad308 3 3)), (4, .ref (ad308 3 4)), (5, .int (i32 (x))), (6, .int (i32 (y)))]) hx hb dL_acts_189 hl (by decide) rfl (fun ls hl => ?_)
                  refine lv_iload hx hb dL_acts_191 (lv_at hl 1 rfl) ?_
                  refine lv_aload_n hx hb dL_acts_193 rfl (lv_at hl 6 rfl) ?_
                  refine lv_iconst (v := i32 (2)) hx hb dL_acts_194 rfl ?_
                  refine lv_iload hx hb dL_acts_195 (lv_at hl 2 rfl) ?_
                  refine q_imul hx hb dL_acts_197 ?_
                  refine p_iald (k := 3) (r := 2) (n := 10) hx hb hK hP hI.a.2.2 rfl rfl (by decide) (by decide) (by omega) (by omega) dL_acts_198 ?_
                  refine q_icmp_le (tgt := 215) hx hb ⟨by omega, by omega⟩ (rS _ _ _) dL_acts_199 (by decide) (fun c_309 => (by exfalso; exact h_B ⟨by omega, by omega, by omega⟩)) (fun c_309 => ?_)
                  refine lv_iload hx hb dL_acts_202 (lv_at hl 0 rfl) ?_
                  refine q_ldc (z := -1000002) hx hb hown hK t_249 rfl dL_acts_204 ?_
                  refine q_icmp_ne (tgt := 213) hx hb ⟨by decide, by decide⟩ ⟨by decide, by decide⟩ dL_acts_206 (by decide) (fun c_310 => (by exfalso; omega)) (fun c_310 => ?_)
                  refine lv_iconst (v := i32 (1)) hx hb dL_acts_209 rfl ?_
                  refine lv_goto (tgt := 214) hx hb dL_acts_210 (by decide) ?_
                  subst hQm
                  exact q_zret hx hb hr hlocks hP hS (v := 1) (by decide) (by exact ⟨⟨rfl, ek_ad308⟩, hI, hV⟩) (by show 9 ≤ 2970; omega) (by show 793 ≤ 18559; omega) dL_acts_214
                · -- y306 = 0
                  refine lv_iconst (v := i32 (1)) hx hb dL_acts_181 rfl ?_
                  refine lv_goto (tgt := 186) hx hb dL_acts_182 (by decide) ?_
                  refine W.eq (g2 := F0 m 186 ls (Value.int (i32 (b2 (True))) :: Value.int (i32 (1 + y268)) :: Value.int (i32 (y267)) :: Value.ref (ad 1 0) :: [])) (by simp only [b2_t trivial, b2_f not_false] <;> rfl) ?_
                  refine q_callH2 (As := [.ref (ad 1 0), .int (i32 (y267)), .int (i32 (1 + y268)), .int (i32 (b2 (True)))]) (rest := []) hx hb hml hl.1 hown hK hZ hP hS (c_L_loom l g base ad S y267 (1 + y268) True hfl hI.wc ⟨by omega, by omega⟩ ⟨by omega, by omega⟩ hI.hcf hI.hpf) t_442 t_14 t_444 t_443 f_yL_loom ⟨Nat.le_of_ble_eq_true rfl, Nat.le_of_ble_eq_true rfl⟩ rfl rfl (Nat.le_of_ble_eq_true rfl) dL_acts_186 (c2 := 9) (s2 := 793) ⟨by first | rfl | (dsimp only; omega), by first | rfl | (dsimp only; omega)⟩ ⟨by show 9 ≤ 2970; omega, by show 793 ≤ 18559; omega⟩ (fun rr ad' S' H locs hQ hP hS => ?_)
                  obtain ⟨⟨hr9, ek9⟩, hQ⟩ := hQ
                  have hc9_1 : ceC S y267 := hI.ce.mpr (by omega)
                  have hc9_2 : ¬ (1 ≤ (1 + y268) ∧ (1 + y268) ≤ 4 ∧ (1 + y268) ≤ S (4 + y267.toNat) 0 0) := h_B
                  have hs9 := (hQ.resolve_right (fun y9 => hc9_2 y9.1.2.1)).2
                  subst hr9
                  rw [hs9] at hP
                  obtain ⟨ad311, had311⟩ : ∃ a9 : Nat → Nat → Nat, a9 = ad' := ⟨_, rfl⟩
                  rw [← had311] at ek9 hP
                  have ek_ad311 : ∀ x q, x < 4 → ad311 x q = ad x q := fun x q h => (ek9 x q h)
                  have el_ad311 : ∀ x q, x < 4 → ad311 x q = ad x q := ek9
                  have hl : lv_has ls 13 [(9, .int (i32 (1 + y268))), (8, .int (i32 (y267))), (7, .int (i32 (y1))), (0, .ref (ad311 1 0)), (1, .ref (ad311 3 1)), (2, .ref (ad311 3 2)), (3, .ref (ad311 3 3)), (4, .ref (ad311 3 4)), (5, .int (i32 (x))), (6, .int (i32 (y)))] := by
                    have t9 := hl
                    rw [← el_ad311 1 0 (by decide), ← el_ad311 3 1 (by decide), ← el_ad311 3 2 (by decide), ← el_ad311 3 3 (by decide), ← el_ad311 3 4 (by decide)] at t9
                    exact t9
                  skip
                  refine q_nm (lv_2 hc9_1 hc9_2) ?_
                  refine lv_istore (lv' := [(10, .int (i32 (-1000002))), (9, .int (i32 (1 + y268))), (8, .int (i32 (y267))), (7, .int (i32 (y1))), (0, .ref (ad311 1 0)), (1, .ref (ad311 3 1)), (2, .ref (ad311 3 2)), (3, .ref (ad311 3 3)), (4, .ref (ad311 3 4)), (5, .int (i32 (x))), (6, .int (i32 (y)))]) hx hb dL_acts_189 hl (by decide) rfl (fun ls hl => ?_)
                  refine lv_iload hx hb dL_acts_191 (lv_at hl 1 rfl) ?_
                  refine lv_aload_n hx hb dL_acts_193 rfl (lv_at hl 6 rfl) ?_
                  refine lv_iconst (v := i32 (2)) hx hb dL_acts_194 rfl ?_
                  refine lv_iload hx hb dL_acts_195 (lv_at hl 2 rfl) ?_
                  refine q_imul hx hb dL_acts_197 ?_
                  refine p_iald (k := 3) (r := 2) (n := 10) hx hb hK hP hI.a.2.2 rfl rfl (by decide) (by decide) (by omega) (by omega) dL_acts_198 ?_
                  refine q_icmp_le (tgt := 215) hx hb ⟨by omega, by omega⟩ (rS _ _ _) dL_acts_199 (by decide) (fun c_312 => (by exfalso; exact h_B ⟨by omega, by omega, by omega⟩)) (fun c_312 => ?_)
                  refine lv_iload hx hb dL_acts_202 (lv_at hl 0 rfl) ?_
                  refine q_ldc (z := -1000002) hx hb hown hK t_249 rfl dL_acts_204 ?_
                  refine q_icmp_ne (tgt := 213) hx hb ⟨by decide, by decide⟩ ⟨by decide, by decide⟩ dL_acts_206 (by decide) (fun c_313 => (by exfalso; omega)) (fun c_313 => ?_)
                  refine lv_iconst (v := i32 (1)) hx hb dL_acts_209 rfl ?_
                  refine lv_goto (tgt := 214) hx hb dL_acts_210 (by decide) ?_
                  subst hQm
                  exact q_zret hx hb hr hlocks hP hS (v := 1) (by decide) (by exact ⟨⟨rfl, ek_ad311⟩, hI, hV⟩) (by show 9 ≤ 2970; omega) (by show 793 ≤ 18559; omega) dL_acts_214
        · -- (S 3 1 1) < 20
          refine lv_aload_n hx hb dL_acts_48 rfl (lv_at hl 4 rfl) ?_
          refine lv_aload_n hx hb dL_acts_49 rfl (lv_at hl 2 rfl) ?_
          refine lv_iconst (v := i32 (1)) hx hb dL_acts_50 rfl ?_
          refine p_iald (k := 3) (r := 1) (n := 4) hx hb hK hP hI.a.2.2 rfl rfl (by decide) (by decide) (by omega) (by omega) dL_acts_51 ?_
          refine lv_iload hx hb dL_acts_52 (lv_at hl 7 rfl) ?_
          refine lv_bipush (v := i32 (6)) hx hb dL_acts_54 (by decide) ?_
          refine q_callS2 (As := [.int (i32 (y)), .int (i32 (6))]) (rest := [.int (i32 (S 3 1 1)), .ref (ad 3 3)]) hx hb hml hl.1 hown hK hZ hP hS (c_L_low l g base ad S y ((6 : Int)) hrn2 (by omega)) t_122 (q_callB hK 121 14 123 t_121 t_14 t_123 f_yL_low ⟨Nat.le_of_ble_eq_true rfl, Nat.le_of_ble_eq_true rfl⟩) rfl rfl (Nat.le_of_ble_eq_true rfl) dL_acts_56 (c2 := 0) (s2 := 0) ⟨by first | rfl | (dsimp only; omega), by first | rfl | (dsimp only; omega)⟩ ⟨by show 0 ≤ 2970; omega, by show 0 ≤ 18559; omega⟩ (q_an (fun H locs hP hS => ?_))
          obtain ⟨y314, hy314⟩ : ∃ y99 : Int, loF y ((6 : Int)) = y99 := ⟨_, rfl⟩
          have by314 := lo_b y (show 1 ≤ ((6 : Int)) by omega)
          rw [hy314] at by314
          refine q_nm hy314 ?_
          refine p_iast (k := 3) (r := 3) (n := 20) hx hb hK hP hS hI.a.2.2 rfl rfl (by decide) (by decide) (by omega) (by omega) ⟨by omega, by omega⟩ dL_acts_59 (fun H locs hP hS => ?_)
          generalize eS315 : st S 3 3 (S 3 1 1) y314 = S315 at hP
          have qS315 : ∀ (a1 b1 : Nat) (i1 : Int), S315 a1 b1 i1 = if a1 = 3 ∧ b1 = 3 ∧ i1 = S 3 1 1 then y314 else S a1 b1 i1 := fun a1 b1 i1 => by rw [← eS315]; exact st_at _ _ _ _ _ _ _ _
          have rS315 : ∀ (a1 b1 : Nat) (i1 : Int), rng (S315 a1 b1 i1) := fun a1 b1 i1 => hP.rg a1 b1 i1
          have aS315_1 : S315 1 0 (-1) = 1 := by rw [qS315, if_neg (by omega)]; exact hI.a.1
          have aS315_2 : S315 2 0 (-1) = 1 := by rw [qS315, if_neg (by omega)]; exact hI.a.2.1
          have aS315_3 : S315 3 0 (-1) = 1 := by rw [qS315, if_neg (by omega)]; exact hI.a.2.2
          have ivS315 : IV S315 := by rw [← eS315]; exact IV_3 hI (by decide)
          refine lv_aload_n hx hb dL_acts_60 rfl (lv_at hl 2 rfl) ?_
          refine lv_iconst (v := i32 (1)) hx hb dL_acts_61 rfl ?_
          refine lv_dup2_11 hx hb dL_acts_62 rfl rfl ?_
          refine p_iald (k := 3) (r := 1) (n := 4) hx hb hK hP aS315_3 rfl rfl (by decide) (by decide) (by omega) (by omega) dL_acts_63 ?_
          refine q_nm (show S315 3 1 1 = S 3 1 1 from by rw [qS315, if_neg (by omega)]) ?_
          refine lv_iconst (v := i32 (1)) hx hb dL_acts_64 rfl ?_
          refine q_iadd hx hb dL_acts_65 ?_
          refine p_iast (k := 3) (r := 1) (n := 4) hx hb hK hP hS aS315_3 rfl rfl (by decide) (by decide) (by omega) (by omega) ⟨by omega, by omega⟩ dL_acts_66 (fun H locs hP hS => ?_)
          generalize eS316 : st S315 3 1 1 ((S 3 1 1) + 1) = S316 at hP
          have qS316 : ∀ (a1 b1 : Nat) (i1 : Int), S316 a1 b1 i1 = if a1 = 3 ∧ b1 = 1 ∧ i1 = 1 then (S 3 1 1) + 1 else S315 a1 b1 i1 := fun a1 b1 i1 => by rw [← eS316]; exact st_at _ _ _ _ _ _ _ _
          have rS316 : ∀ (a1 b1 : Nat) (i1 : Int), rng (S316 a1 b1 i1) := fun a1 b1 i1 => hP.rg a1 b1 i1
          have aS316_1 : S316 1 0 (-1) = 1 := by rw [qS316, if_neg (by omega)]; exact aS315_1
          have aS316_2 : S316 2 0 (-1) = 1 := by rw [qS316, if_neg (by omega)]; exact aS315_2
          have aS316_3 : S316 3 0 (-1) = 1 := by rw [qS316, if_neg (by omega)]; exact aS315_3
          have ivS316 : IV S316 := by rw [← eS316]; exact IV_3 ivS315 (by decide)
          refine lv_aload_n hx hb dL_acts_67 rfl (lv_at hl 1 rfl) ?_
          refine lv_aload_n hx hb dL_acts_68 rfl (lv_at hl 4 rfl) ?_
          refine lv_aload_n hx hb dL_acts_69 rfl (lv_at hl 2 rfl) ?_
          refine lv_iconst (v := i32 (1)) hx hb dL_acts_70 rfl ?_
          refine p_iald (k := 3) (r := 1) (n := 4) hx hb hK hP aS316_3 rfl rfl (by decide) (by decide) (by omega) (by omega) dL_acts_71 ?_
          refine q_nm (show S316 3 1 1 = (S 3 1 1) + 1 from by rw [qS316, if_pos ⟨rfl, rfl, rfl⟩]) ?_
          refine lv_iconst (v := i32 (1)) hx hb dL_acts_72 rfl ?_
          refine q_isub hx hb dL_acts_73 ?_
          refine p_iald (k := 3) (r := 3) (n := 20) hx hb hK hP aS316_3 rfl rfl (by decide) (by decide) (by omega) (by omega) dL_acts_74 ?_
          refine q_nm (show S316 3 3 (((S 3 1 1) + 1) - 1) = S315 3 3 (((S 3 1 1) + 1) - 1) from by rw [qS316, if_neg (by omega)]) ?_
          refine q_nm (b := y314) (by rw [show ((((S 3 1 1) + 1) - 1) : Int) = S 3 1 1 from by omega, qS315, if_pos ⟨rfl, rfl, rfl⟩]) ?_
          refine lv_iconst (v := i32 (1)) hx hb dL_acts_75 rfl ?_
          refine lv_iload hx hb dL_acts_76 (lv_at hl 7 rfl) ?_
          refine lv_iconst (v := i32 (3)) hx hb dL_acts_78 rfl ?_
          refine lv_ishr hx hb dL_acts_79 ?_
          obtain ⟨z317, rz317, hz317⟩ := i32_of (i32 (y) >>> (i32 (3) &&& 31))
          rw [hz317]
          refine lv_sipush (v := i32 (200)) hx hb dL_acts_80 (by decide) ?_
          refine q_callS2 (As := [.int (i32 (z317)), .int (i32 (200))]) (rest := [.int (i32 (1)), .int (i32 (y314)), .ref (ad 1 0)]) hx hb hml hl.1 hown hK hZ hP hS (c_L_low l g base ad S316 z317 ((200 : Int)) rz317 (by omega)) t_122 (q_callB hK 121 14 123 t_121 t_14 t_123 f_yL_low ⟨Nat.le_of_ble_eq_true rfl, Nat.le_of_ble_eq_true rfl⟩) rfl rfl (Nat.le_of_ble_eq_true rfl) dL_acts_83 (c2 := 0) (s2 := 0) ⟨by first | rfl | (dsimp only; omega), by first | rfl | (dsimp only; omega)⟩ ⟨by show 0 ≤ 2970; omega, by show 0 ≤ 18559; omega⟩ (q_an (fun H locs hP hS => ?_))
          obtain ⟨y318, hy318⟩ : ∃ y99 : Int, loF z317 ((200 : Int)) = y99 := ⟨_, rfl⟩
          have by318 := lo_b z317 (show 1 ≤ ((200 : Int)) by omega)
          rw [hy318] at by318
          refine q_nm hy318 ?_
          refine q_iadd hx hb dL_acts_86 ?_
          refine lv_iload hx hb dL_acts_87 (lv_at hl 7 rfl) ?_
          refine lv_bipush (v := i32 (11)) hx hb dL_acts_89 (by decide) ?_
          refine lv_ishr hx hb dL_acts_91 ?_
          obtain ⟨z319, rz319, hz319⟩ := i32_of (i32 (y) >>> (i32 (11) &&& 31))
          rw [hz319]
          refine lv_bipush (v := i32 (10)) hx hb dL_acts_92 (by decide) ?_
          refine q_callS2 (As := [.int (i32 (z319)), .int (i32 (10))]) (rest := [.int (i32 (1 + y318)), .int (i32 (y314)), .ref (ad 1 0)]) hx hb hml hl.1 hown hK hZ hP hS (c_L_low l g base ad S316 z319 ((10 : Int)) rz319 (by omega)) t_122 (q_callB hK 121 14 123 t_121 t_14 t_123 f_yL_low ⟨Nat.le_of_ble_eq_true rfl, Nat.le_of_ble_eq_true rfl⟩) rfl rfl (Nat.le_of_ble_eq_true rfl) dL_acts_94 (c2 := 0) (s2 := 0) ⟨by first | rfl | (dsimp only; omega), by first | rfl | (dsimp only; omega)⟩ ⟨by show 0 ≤ 2970; omega, by show 0 ≤ 18559; omega⟩ (q_an (fun H locs hP hS => ?_))
          obtain ⟨y320, hy320⟩ : ∃ y99 : Int, loF z319 ((10 : Int)) = y99 := ⟨_, rfl⟩
          have by320 := lo_b z319 (show 1 ≤ ((10 : Int)) by omega)
          rw [hy320] at by320
          refine q_nm hy320 ?_
          refine lv_iload hx hb dL_acts_97 (lv_at hl 7 rfl) ?_
          refine lv_bipush (v := i32 (15)) hx hb dL_acts_99 (by decide) ?_
          refine lv_ishr hx hb dL_acts_101 ?_
          obtain ⟨z321, rz321, hz321⟩ := i32_of (i32 (y) >>> (i32 (15) &&& 31))
          rw [hz321]
          refine lv_iconst (v := i32 (2)) hx hb dL_acts_102 rfl ?_
          refine q_callS2 (As := [.int (i32 (z321)), .int (i32 (2))]) (rest := [.int (i32 (y320)), .int (i32 (1 + y318)), .int (i32 (y314)), .ref (ad 1 0)]) hx hb hml hl.1 hown hK hZ hP hS (c_L_low l g base ad S316 z321 ((2 : Int)) rz321 (by omega)) t_122 (q_callB hK 121 14 123 t_121 t_14 t_123 f_yL_low ⟨Nat.le_of_ble_eq_true rfl, Nat.le_of_ble_eq_true rfl⟩) rfl rfl (Nat.le_of_ble_eq_true rfl) dL_acts_103 (c2 := 0) (s2 := 0) ⟨by first | rfl | (dsimp only; omega), by first | rfl | (dsimp only; omega)⟩ ⟨by show 0 ≤ 2970; omega, by show 0 ≤ 18559; omega⟩ (q_an (fun H locs hP hS => ?_))
          obtain ⟨y322, hy322⟩ : ∃ y99 : Int, loF z321 ((2 : Int)) = y99 := ⟨_, rfl⟩
          have by322 := lo_b z321 (show 1 ≤ ((2 : Int)) by omega)
          rw [hy322] at by322
          refine q_nm hy322 ?_
          refine q_if_ne (tgt := 113) hx hb ⟨by omega, by omega⟩ dL_acts_106 (by decide) (fun c_323 => ?_) (fun c_323 => ?_)
          · -- y322 ≠ 0
            refine lv_iconst (v := i32 (0)) hx hb dL_acts_113 rfl ?_
            refine W.eq (g2 := F0 m 114 ls (Value.int (i32 (b2 (False))) :: Value.int (i32 (y320)) :: Value.int (i32 (1 + y318)) :: Value.int (i32 (y314)) :: Value.ref (ad 1 0) :: [])) (by simp only [b2_t trivial, b2_f not_false] <;> rfl) ?_
            refine q_callH2 (As := [.ref (ad 1 0), .int (i32 (y314)), .int (i32 (1 + y318)), .int (i32 (y320)), .int (i32 (b2 (False)))]) (rest := []) hx hb hml hl.1 hown hK hZ hP hS (c_L_dye l g base ad S316 y314 (1 + y318) y320 False hfl ivS316.wc ⟨by omega, by omega⟩ ⟨by omega, by omega⟩ ⟨by omega, by omega⟩) t_125 t_14 t_127 t_126 f_yL_dye ⟨Nat.le_of_ble_eq_true rfl, Nat.le_of_ble_eq_true rfl⟩ rfl rfl (Nat.le_of_ble_eq_true rfl) dL_acts_114 (c2 := 2) (s2 := 12) ⟨by first | rfl | (dsimp only; omega), by first | rfl | (dsimp only; omega)⟩ ⟨by show 2 ≤ 2970; omega, by show 12 ≤ 18559; omega⟩ (fun rr ad' S' H locs hQ hP hS => ?_)
            have hc9 : (0 ≤ y314 ∧ y314 < 6) ∧ ((1 ≤ (1 + y318) ∧ (1 + y318) ≤ 999) ∧ (0 ≤ y320 ∧ y320 ≤ 9)) ∧ (S316 2 0 0 < 20) := ⟨by omega, ⟨by omega, by omega⟩, by rw [qS316, if_neg (by omega), qS315, if_neg (by omega)]; omega⟩
            obtain ⟨⟨hr9, ek9⟩, hQ⟩ := hQ
            have hs9 := (hQ.resolve_left (fun y9 => y9.1 hc9)).2
            subst hr9
            rw [ek9] at hP
            rw [hs9] at hP
            refine q_nm (b := S 3 1 1) ((lv_0 hc9.1 hc9.2.1 hc9.2.2).trans (by rw [qS316, if_neg (by omega), qS315, if_neg (by omega), v1])) ?_
            generalize eS324 : st (st (st (st (st (st S316 2 2 (S316 2 0 0) y314) 2 3 (S316 2 0 0) (1 + y318)) 2 4 (S316 2 0 0) (1 + y318)) 2 5 (S316 2 0 0) y320) 2 6 (S316 2 0 0) (b2 False)) 2 0 0 (S316 2 0 0 + 1) = S324 at hP
            have rS324 : ∀ (a1 b1 : Nat) (i1 : Int), rng (S324 a1 b1 i1) := fun a1 b1 i1 => hP.rg a1 b1 i1
            have ivS324 : IV S324 := by rw [← eS324]; exact IV_dye ivS316 hc9.2.1.1 hc9.2.1.2 hc9.2.2
            have h3S324 : ∀ (b1 : Nat) (i1 : Int), S324 3 b1 i1 = S316 3 b1 i1 := by rw [← eS324]; exact fun b i => dy_3 b i
            have lv9 : LV S324 := by rw [← eS324]; exact LV_dye hV (fun a b i => by rw [qS316, qS315])
            refine lv_aload_n hx hb dL_acts_117 rfl (lv_at hl 2 rfl) ?_
            refine lv_iconst (v := i32 (1)) hx hb dL_acts_118 rfl ?_
            refine p_iald (k := 3) (r := 1) (n := 4) hx hb hK hP ivS324.a.2.2 rfl rfl (by decide) (by decide) (by omega) (by omega) dL_acts_119 ?_
            refine q_nm (show S324 3 1 1 = (S 3 1 1) + 1 from by rw [h3S324, qS316, if_pos ⟨rfl, rfl, rfl⟩]) ?_
            refine lv_iconst (v := i32 (1)) hx hb dL_acts_120 rfl ?_
            refine q_isub hx hb dL_acts_121 ?_
            refine q_icmp_ne (tgt := 129) hx hb (rS _ _ _) ⟨by omega, by omega⟩ dL_acts_122 (by decide) (fun c_325 => (by exfalso; omega)) (fun c_325 => ?_)
            refine lv_iconst (v := i32 (1)) hx hb dL_acts_125 rfl ?_
            refine lv_goto (tgt := 130) hx hb dL_acts_126 (by decide) ?_
            subst hQm
            exact q_zret hx hb hr hlocks hP hS (v := 1) (by decide) (by exact ⟨⟨rfl, (fun _ _ _ => rfl)⟩, ivS324, lv9⟩) (by show 2 ≤ 2970; omega) (by show 12 ≤ 18559; omega) dL_acts_130
          · -- y322 = 0
            refine lv_iconst (v := i32 (1)) hx hb dL_acts_109 rfl ?_
            refine lv_goto (tgt := 114) hx hb dL_acts_110 (by decide) ?_
            refine W.eq (g2 := F0 m 114 ls (Value.int (i32 (b2 (True))) :: Value.int (i32 (y320)) :: Value.int (i32 (1 + y318)) :: Value.int (i32 (y314)) :: Value.ref (ad 1 0) :: [])) (by simp only [b2_t trivial, b2_f not_false] <;> rfl) ?_
            refine q_callH2 (As := [.ref (ad 1 0), .int (i32 (y314)), .int (i32 (1 + y318)), .int (i32 (y320)), .int (i32 (b2 (True)))]) (rest := []) hx hb hml hl.1 hown hK hZ hP hS (c_L_dye l g base ad S316 y314 (1 + y318) y320 True hfl ivS316.wc ⟨by omega, by omega⟩ ⟨by omega, by omega⟩ ⟨by omega, by omega⟩) t_125 t_14 t_127 t_126 f_yL_dye ⟨Nat.le_of_ble_eq_true rfl, Nat.le_of_ble_eq_true rfl⟩ rfl rfl (Nat.le_of_ble_eq_true rfl) dL_acts_114 (c2 := 2) (s2 := 12) ⟨by first | rfl | (dsimp only; omega), by first | rfl | (dsimp only; omega)⟩ ⟨by show 2 ≤ 2970; omega, by show 12 ≤ 18559; omega⟩ (fun rr ad' S' H locs hQ hP hS => ?_)
            have hc9 : (0 ≤ y314 ∧ y314 < 6) ∧ ((1 ≤ (1 + y318) ∧ (1 + y318) ≤ 999) ∧ (0 ≤ y320 ∧ y320 ≤ 9)) ∧ (S316 2 0 0 < 20) := ⟨by omega, ⟨by omega, by omega⟩, by rw [qS316, if_neg (by omega), qS315, if_neg (by omega)]; omega⟩
            obtain ⟨⟨hr9, ek9⟩, hQ⟩ := hQ
            have hs9 := (hQ.resolve_left (fun y9 => y9.1 hc9)).2
            subst hr9
            rw [ek9] at hP
            rw [hs9] at hP
            refine q_nm (b := S 3 1 1) ((lv_0 hc9.1 hc9.2.1 hc9.2.2).trans (by rw [qS316, if_neg (by omega), qS315, if_neg (by omega), v1])) ?_
            generalize eS326 : st (st (st (st (st (st S316 2 2 (S316 2 0 0) y314) 2 3 (S316 2 0 0) (1 + y318)) 2 4 (S316 2 0 0) (1 + y318)) 2 5 (S316 2 0 0) y320) 2 6 (S316 2 0 0) (b2 True)) 2 0 0 (S316 2 0 0 + 1) = S326 at hP
            have rS326 : ∀ (a1 b1 : Nat) (i1 : Int), rng (S326 a1 b1 i1) := fun a1 b1 i1 => hP.rg a1 b1 i1
            have ivS326 : IV S326 := by rw [← eS326]; exact IV_dye ivS316 hc9.2.1.1 hc9.2.1.2 hc9.2.2
            have h3S326 : ∀ (b1 : Nat) (i1 : Int), S326 3 b1 i1 = S316 3 b1 i1 := by rw [← eS326]; exact fun b i => dy_3 b i
            have lv9 : LV S326 := by rw [← eS326]; exact LV_dye hV (fun a b i => by rw [qS316, qS315])
            refine lv_aload_n hx hb dL_acts_117 rfl (lv_at hl 2 rfl) ?_
            refine lv_iconst (v := i32 (1)) hx hb dL_acts_118 rfl ?_
            refine p_iald (k := 3) (r := 1) (n := 4) hx hb hK hP ivS326.a.2.2 rfl rfl (by decide) (by decide) (by omega) (by omega) dL_acts_119 ?_
            refine q_nm (show S326 3 1 1 = (S 3 1 1) + 1 from by rw [h3S326, qS316, if_pos ⟨rfl, rfl, rfl⟩]) ?_
            refine lv_iconst (v := i32 (1)) hx hb dL_acts_120 rfl ?_
            refine q_isub hx hb dL_acts_121 ?_
            refine q_icmp_ne (tgt := 129) hx hb (rS _ _ _) ⟨by omega, by omega⟩ dL_acts_122 (by decide) (fun c_327 => (by exfalso; omega)) (fun c_327 => ?_)
            refine lv_iconst (v := i32 (1)) hx hb dL_acts_125 rfl ?_
            refine lv_goto (tgt := 130) hx hb dL_acts_126 (by decide) ?_
            subst hQm
            exact q_zret hx hb hr hlocks hP hS (v := 1) (by decide) (by exact ⟨⟨rfl, (fun _ _ _ => rfl)⟩, ivS326, lv9⟩) (by show 2 ≤ 2970; omega) (by show 12 ≤ 18559; omega) dL_acts_130
    · -- (S 3 1 0) = 0
      refine lv_aload_n hx hb dL_acts_21 rfl (lv_at hl 1 rfl) ?_
      refine lv_aload_n hx hb dL_acts_22 rfl (lv_at hl 2 rfl) ?_
      refine lv_aload_n hx hb dL_acts_23 rfl (lv_at hl 3 rfl) ?_
      refine lv_iload hx hb dL_acts_24 (lv_at hl 6 rfl) ?_
      refine lv_iconst (v := i32 (4)) hx hb dL_acts_26 rfl ?_
      refine lv_ishr hx hb dL_acts_27 ?_
      obtain ⟨z328, rz328, hz328⟩ := i32_of (i32 (x) >>> (i32 (4) &&& 31))
      rw [hz328]
      refine lv_iload hx hb dL_acts_28 (lv_at hl 7 rfl) ?_
      refine q_callS2 (As := [.ref (ad 1 0), .ref (ad 3 1), .ref (ad 3 2), .int (i32 (z328)), .int (i32 (y))]) (rest := []) hx hb hml hl.1 hown hK hZ hP hS (c_L_draws l g base ad S z328 y hfl hI hV rz328 hrn2) t_348 (q_callB hK 347 14 349 t_347 t_14 t_349 f_yL_draws ⟨Nat.le_of_ble_eq_true rfl, Nat.le_of_ble_eq_true rfl⟩) rfl rfl (Nat.le_of_ble_eq_true rfl) dL_acts_30 (c2 := 10) (s2 := 125) ⟨by first | rfl | (dsimp only; omega), by first | rfl | (dsimp only; omega)⟩ ⟨by show 10 ≤ 2970; omega, by show 125 ≤ 18559; omega⟩ (fun rr ad' S' H locs hQ hP hS => ?_)
      obtain ⟨⟨hr9, ek9⟩, hI9, hV9⟩ := hQ
      subst hr9
      obtain ⟨S329, hS329⟩ : ∃ s9 : St, s9 = S' := ⟨_, rfl⟩
      rw [← hS329] at hI9 hV9 hP
      obtain ⟨ad329, had329⟩ : ∃ a9 : Nat → Nat → Nat, a9 = ad' := ⟨_, rfl⟩
      rw [← had329] at ek9 hP
      have ek_ad329 : ∀ x q, x < 4 → ad329 x q = ad x q := fun x q h => (ek9 x q h)
      have el_ad329 : ∀ x q, x < 4 → ad329 x q = ad x q := ek9
      have hl : lv_has ls 13 [(7, .int (i32 (y1))), (0, .ref (ad329 1 0)), (1, .ref (ad329 3 1)), (2, .ref (ad329 3 2)), (3, .ref (ad329 3 3)), (4, .ref (ad329 3 4)), (5, .int (i32 (x))), (6, .int (i32 (y)))] := by
        have t9 := hl
        rw [← el_ad329 1 0 (by decide), ← el_ad329 3 1 (by decide), ← el_ad329 3 2 (by decide), ← el_ad329 3 3 (by decide), ← el_ad329 3 4 (by decide)] at t9
        exact t9
      skip
      have ivS329 : IV S329 := hI9
      have lvS329 : LV S329 := hV9
      have rS329 : ∀ (a1 b1 : Nat) (i1 : Int), rng (S329 a1 b1 i1) := fun a1 b1 i1 => hP.rg a1 b1 i1
      subst hQm
      exact q_zret hx hb hr hlocks hP hS (v := 1) (by decide) (by exact ⟨⟨rfl, ek_ad329⟩, ivS329, lvS329⟩) (by show 10 ≤ 2970; omega) (by show 125 ≤ 18559; omega) dL_acts_33
