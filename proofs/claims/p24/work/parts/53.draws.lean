/-! ===== the law's own rows are kept beside the class's ===== -/
theorem LV_k {S S' : St} (h : LV S) (hk : S 1 0 3 ≤ 5) (h3 : ∀ (b : Nat) (i : Int), S' 3 b i = S 3 b i) (e1 : S' 1 0 3 = S 1 0 3) (e6 : S' 1 0 6 = S 1 0 6) (e2 : S' 2 0 0 = S 2 0 0) (e22 : ∀ j : Int, S' 2 2 j = S 2 2 j) (ec : ∀ a : Nat, 4 ≤ a → a < 10 → S' a 0 0 = S a 0 0 ∧ S' a 0 1 = S a 0 1) : LV S' := by
  obtain ⟨⟨a0, a1, a2⟩, ad, az, ac⟩ := h
  refine ⟨⟨by rw [h3, e1]; exact a0, by rw [h3, e2]; exact a1, by rw [h3, e6]; exact a2⟩, fun x x0 x1 => ?_, fun x x0 x1 => ?_, fun j j0 j1 => ?_⟩
  · rw [e1] at x1
    obtain ⟨q1, q2⟩ := ec (4 + x.toNat) (by omega) (by omega)
    rw [h3, h3, q1, q2]
    exact ad x x0 x1
  · rw [e1] at x0
    rw [h3]
    exact az x x0 x1
  · rw [e2] at j1
    rw [h3, e22]
    exact ac j j0 j1
theorem ct_3 {S : St} {z : Int} (b : Nat) (i : Int) : ctS S z 3 b i = S 3 b i := by
  unfold ctS
  rw [st_at, if_neg (by omega), st_at, if_neg (by omega), nwS_n (by omega)]
theorem LV_cartoon {S : St} {w : Int} (hI : IV S) (hV : LV S) (hw : w ≤ 6) (hg : S 3 1 0 < 5) : LV (ctS (st (st S 3 2 (2 * S 3 1 0) w) 3 1 0 (S 3 1 0 + 1)) w) := by
  obtain ⟨⟨a0, a1, a2⟩, ad, az, ac⟩ := hV
  have hk := hI.k.1
  obtain ⟨gz, hgz⟩ : ∃ gz : Int, S 3 1 0 = gz := ⟨_, rfl⟩
  rw [hgz] at a0 hg ⊢
  obtain ⟨o, ho⟩ : ∃ o : Nat, 4 + gz.toNat = o := ⟨_, rfl⟩
  have e13 : st (st S 3 2 (2 * gz) w) 3 1 0 (gz + 1) 1 0 3 = gz := by rw [st_at, if_neg (by omega), st_at, if_neg (by omega), ← a0]
  have q : ∀ (a b : Nat) (i : Int), ctS (st (st S 3 2 (2 * gz) w) 3 1 0 (gz + 1)) w a b i = if a = 1 ∧ b = 0 ∧ i = 3 then gz + 1 else if a = 1 ∧ b = 3 ∧ i = gz then 1 else if a = o then (if b = 0 then (if i = -1 then 1 else if i = 0 then w else if i = 4 then 1 else 0) else 0) else if a = 3 ∧ b = 1 ∧ i = 0 then gz + 1 else if a = 3 ∧ b = 2 ∧ i = 2 * gz then w else S a b i := by
    intro a b i
    unfold ctS
    rw [e13, ho, st_at, st_at]
    unfold nwS
    rw [st_at, st_at]
  generalize ctS (st (st S 3 2 (2 * gz) w) 3 1 0 (gz + 1)) w = S' at q
  have e3 : ∀ (b : Nat) (i : Int), ¬ (b = 1 ∧ i = 0) → ¬ (b = 2 ∧ i = 2 * gz) → S' 3 b i = S 3 b i := fun b i h1 h2 => by rw [q, if_neg (by omega), if_neg (by omega), if_neg (by omega), if_neg (by omega), if_neg (by omega)]
  have e30 : S' 3 1 0 = gz + 1 := by rw [q, if_neg (by omega), if_neg (by omega), if_neg (by omega), if_pos ⟨rfl, rfl, rfl⟩]
  have e32 : S' 3 2 (2 * gz) = w := by rw [q, if_neg (by omega), if_neg (by omega), if_neg (by omega), if_neg (by omega), if_pos ⟨rfl, rfl, rfl⟩]
  have e1 : S' 1 0 3 = gz + 1 := by rw [q, if_pos ⟨rfl, rfl, rfl⟩]
  have e6 : S' 1 0 6 = S 1 0 6 := by rw [q, if_neg (by omega), if_neg (by omega), if_neg (by omega), if_neg (by omega), if_neg (by omega)]
  have e2 : ∀ (b : Nat) (i : Int), S' 2 b i = S 2 b i := fun b i => by rw [q, if_neg (by omega), if_neg (by omega), if_neg (by omega), if_neg (by omega), if_neg (by omega)]
  have eo0 : S' o 0 0 = w := by rw [q, if_neg (by omega), if_neg (by omega), if_pos rfl]; rfl
  have eo1 : S' o 0 1 = 0 := by rw [q, if_neg (by omega), if_neg (by omega), if_pos rfl]; rfl
  have ea : ∀ (a : Nat) (i : Int), 4 ≤ a → a ≠ o → S' a 0 i = S a 0 i := fun a i h1 h2 => by rw [q, if_neg (by omega), if_neg (by omega), if_neg h2, if_neg (by omega), if_neg (by omega)]
  clear q
  refine ⟨⟨by rw [e30, e1], by rw [e3 _ _ (by omega) (by omega), e2]; exact a1, by rw [e3 _ _ (by omega) (by omega), e6]; exact a2⟩, fun x x0 x1 => ?_, fun x x0 x1 => ?_, fun j j0 j1 => ?_⟩
  · rw [e1] at x1
    by_cases hx : x = gz
    · rw [hx, ho, e32, eo0, eo1, e3 2 (2 * gz + 1) (by omega) (by omega)]
      exact ⟨rfl, hw, az gz (by omega) hg⟩
    · rw [e3 _ _ (by omega) (by omega), e3 _ _ (by omega) (by omega), ea _ _ (by omega) (by omega), ea _ _ (by omega) (by omega)]
      exact ad x x0 (by omega)
  · rw [e1] at x0
    rw [e3 _ _ (by omega) (by omega)]
    exact az x (by omega) x1
  · rw [e2] at j1
    rw [e3 _ _ (by omega) (by omega), e2]
    exact ac j j0 j1
theorem ro_3 {S : St} {o : Nat} {u v : Int} (h : o ≠ 3) (b : Nat) (i : Int) : st (st (adF S o u) o 0 1 v) 1 0 1 0 3 b i = S 3 b i := by
  rw [st_at, if_neg (by omega), st_at, if_neg (by omega)]
  unfold adF
  rw [if_neg (by omega)]
/-- a row more: in the law's rows, in the class's -/
theorem LV_row {S Sa : St} {x : Int} (hI : IV S) (hV : LV S) (hx : 0 ≤ x ∧ x < S 1 0 3) (zf : ∀ (a b : Nat) (i : Int), ¬ (a = 1 ∧ (b = 1 ∨ (b = 0 ∧ i = 1))) → Sa a b i = S a b i) {S2 : St} (e2 : st Sa 3 2 (2 * x + 1) (S 3 2 (2 * x + 1) + 1) = S2) :
    LV (st (st (st (adF S2 (4 + x.toNat) (S2 (4 + x.toNat) 0 0)) (4 + x.toNat) 0 1 (S2 (4 + x.toNat) 0 1 + 1)) 1 0 1 0) 1 0 1 0) := by
  obtain ⟨⟨a0, a1, a2⟩, ad, az, ac⟩ := hV
  have hk := hI.k.1
  obtain ⟨d1, d2, d3⟩ := ad x hx.1 hx.2
  obtain ⟨o, ho⟩ : ∃ o : Nat, 4 + x.toNat = o := ⟨_, rfl⟩
  have f2 : ∀ (a b : Nat) (i : Int), ¬ (a = 1 ∧ (b = 1 ∨ (b = 0 ∧ i = 1))) → ¬ (a = 3 ∧ b = 2 ∧ i = 2 * x + 1) → S2 a b i = S a b i := fun a b i h1 h2 => by rw [← e2, st_at, if_neg h2]; exact zf a b i h1
  have f21 : S2 3 2 (2 * x + 1) = S 3 2 (2 * x + 1) + 1 := by rw [← e2, st_at, if_pos ⟨rfl, rfl, rfl⟩]
  rw [ho] at d1 d3 ⊢
  have q : ∀ (a b : Nat) (i : Int), ¬ (a = 1 ∧ (b = 1 ∨ (b = 0 ∧ i = 1))) → ¬ (a = o ∧ (b = 3 ∨ (b = 0 ∧ i = 1))) → st (st (st (adF S2 o (S2 o 0 0)) o 0 1 (S2 o 0 1 + 1)) 1 0 1 0) 1 0 1 0 a b i = S2 a b i := fun a b i h1 h2 => by
    rw [st_at, if_neg (by omega), st_at, if_neg (by omega), st_at, if_neg (by omega)]
    unfold adF
    rw [if_neg (by omega)]
  have q1 : st (st (st (adF S2 o (S2 o 0 0)) o 0 1 (S2 o 0 1 + 1)) 1 0 1 0) 1 0 1 0 o 0 1 = S o 0 1 + 1 := by
    rw [st_at, if_neg (by omega), st_at, if_neg (by omega), st_at, if_pos ⟨rfl, rfl, rfl⟩, f2 _ _ _ (by omega) (by omega)]
  generalize st (st (st (adF S2 o (S2 o 0 0)) o 0 1 (S2 o 0 1 + 1)) 1 0 1 0) 1 0 1 0 = S' at q q1
  have g : ∀ (a b : Nat) (i : Int), ¬ (a = 1 ∧ (b = 1 ∨ (b = 0 ∧ i = 1))) → ¬ (a = o ∧ (b = 3 ∨ (b = 0 ∧ i = 1))) → ¬ (a = 3 ∧ b = 2 ∧ i = 2 * x + 1) → S' a b i = S a b i := fun a b i h1 h2 h3 => by rw [q a b i h1 h2, f2 a b i h1 h3]
  have g3 : S' 3 2 (2 * x + 1) = S 3 2 (2 * x + 1) + 1 := by rw [q _ _ _ (by omega) (by omega), f21]
  clear q f2 f21
  refine ⟨⟨by rw [g _ _ _ (by omega) (by omega) (by omega), g _ _ _ (by omega) (by omega) (by omega)]; exact a0, by rw [g _ _ _ (by omega) (by omega) (by omega), g _ _ _ (by omega) (by omega) (by omega)]; exact a1, by rw [g _ _ _ (by omega) (by omega) (by omega), g _ _ _ (by omega) (by omega) (by omega)]; exact a2⟩, fun y y0 y1 => ?_, fun y y0 y1 => ?_, fun j j0 j1 => ?_⟩
  · rw [g _ _ _ (by omega) (by omega) (by omega)] at y1
    obtain ⟨b1, b2, b3⟩ := ad y y0 y1
    by_cases hy : y = x
    · rw [hy, ho, g3, q1, g 3 2 (2 * x) (by omega) (by omega) (by omega), g o 0 0 (by omega) (by omega) (by omega)]
      rw [hy] at b2
      exact ⟨d1, b2, by omega⟩
    · rw [g 3 2 (2 * y) (by omega) (by omega) (by omega), g 3 2 (2 * y + 1) (by omega) (by omega) (by omega), g _ 0 0 (by omega) (by omega) (by omega), g _ 0 1 (by omega) (by omega) (by omega)]
      exact ⟨b1, b2, b3⟩
  · rw [g _ _ _ (by omega) (by omega) (by omega)] at y0
    rw [g 3 2 (2 * y + 1) (by omega) (by omega) (by omega)]
    exact az y y0 y1
  · rw [g _ _ _ (by omega) (by omega) (by omega)] at j1
    rw [g 3 3 j (by omega) (by omega) (by omega), g 2 2 j (by omega) (by omega) (by omega)]
    exact ac j j0 j1
/-- .. and the lots are as many as they were -/
def lmD (ad : Nat → Nat → Nat) (S : St) : Option Value → (Nat → Nat → Nat) → St → Prop := fun r ad' S' => lmP ad r ad' S' ∧ S' 3 1 1 = S 3 1 1
set_option maxHeartbeats 4000000 in
set_option maxRecDepth 100000 in
theorem c_L_draws (l : Launch) (g : GT) (base : Nat) (ad : Nat → Nat → Nat) (S : St) (x y : Int) (hfl : l.stackTraces = false) (hI : IV S) (hV : LV S) (hrn : rng x) (hrn2 : rng y) : Met l yL_draws [Cond.code yL_draws cL_draws 9 (some FieldType.boolean)] ({ frames := 9, cells := 10, slots := 125, locals := 160 }) (va_Pc [.ref (ad 1 0), .ref (ad 3 1), .ref (ad 3 2), .int (i32 (x)), .int (i32 (y))] (PK g base ad S)) (gQ g base (lmD ad S)) 10 125 (fun q => base ≤ q) := by
  refine mk_m (own := RL) (lv0 := [(0, .ref (ad 1 0)), (1, .ref (ad 3 1)), (2, .ref (ad 3 2)), (3, .int (i32 (x))), (4, .int (i32 (y)))]) (by decide) rfl (Nat.le_of_ble_eq_true rfl) rfl ?_
  intro p e s m below meth cz av Qm hx hb hr hml hown hlocks hK hZ hP hQm ls hl
  have hS : va_S (fun q => base ≤ q) s.heap s.heap [] := va_S.rf
  have rS : ∀ (a1 b1 : Nat) (i1 : Int), rng (S a1 b1 i1) := fun a1 b1 i1 => hP.rg a1 b1 i1
  obtain ⟨⟨v0, v1, v2⟩, vd, vz, vc⟩ := id hV
  have hk5 := hI.k.1
  have hw12 := hI.w.1
  have hl20 := hI.l.1
  have hp20 := hI.p.1
  refine lv_iload_n hx hb dL_draws_0 rfl (lv_at hl 3 rfl) ?_
  refine lv_iconst (v := i32 (4)) hx hb dL_draws_1 rfl ?_
  refine q_callS2 (As := [.int (i32 (x)), .int (i32 (4))]) (rest := []) hx hb hml hl.1 hown hK hZ hP hS (c_L_low l g base ad S x ((4 : Int)) hrn (by omega)) t_122 (q_callB hK 121 14 123 t_121 t_14 t_123 f_yL_low ⟨Nat.le_of_ble_eq_true rfl, Nat.le_of_ble_eq_true rfl⟩) rfl rfl (Nat.le_of_ble_eq_true rfl) dL_draws_2 (c2 := 0) (s2 := 0) ⟨by first | rfl | (dsimp only; omega), by first | rfl | (dsimp only; omega)⟩ ⟨by show 0 ≤ 10; omega, by show 0 ≤ 125; omega⟩ (q_an (fun H locs hP hS => ?_))
  obtain ⟨y1, hy1⟩ : ∃ y99 : Int, loF x ((4 : Int)) = y99 := ⟨_, rfl⟩
  have by1 := lo_b x (show 1 ≤ ((4 : Int)) by omega)
  rw [hy1] at by1
  refine q_nm hy1 ?_
  refine lv_istore (lv' := [(5, .int (i32 (y1))), (0, .ref (ad 1 0)), (1, .ref (ad 3 1)), (2, .ref (ad 3 2)), (3, .int (i32 (x))), (4, .int (i32 (y)))]) hx hb dL_draws_5 hl (by decide) rfl (fun ls hl => ?_)
  refine lv_iload hx hb dL_draws_7 (lv_at hl 0 rfl) ?_
  refine q_if_ne (tgt := 65) hx hb ⟨by omega, by omega⟩ dL_draws_9 (by decide) (fun c_2 => ?_) (fun c_2 => ?_)
  · -- y1 ≠ 0
    refine lv_iload hx hb dL_draws_65 (lv_at hl 0 rfl) ?_
    refine lv_iconst (v := i32 (3)) hx hb dL_draws_67 rfl ?_
    refine q_icmp_ge (tgt := 253) hx hb ⟨by omega, by omega⟩ ⟨by decide, by decide⟩ dL_draws_68 (by decide) (fun c_3 => ?_) (fun c_3 => ?_)
    · -- 3 ≤ y1
      refine lv_aload_n hx hb dL_draws_253 rfl (lv_at hl 1 rfl) ?_
      refine lv_aload_n hx hb dL_draws_254 rfl (lv_at hl 2 rfl) ?_
      refine lv_iconst (v := i32 (0)) hx hb dL_draws_255 rfl ?_
      refine p_iald (k := 3) (r := 1) (n := 4) hx hb hK hP hI.a.2.2 rfl rfl (by decide) (by decide) (by omega) (by omega) dL_draws_256 ?_
      refine lv_iconst (v := i32 (0)) hx hb dL_draws_257 rfl ?_
      refine lv_iconst (v := i32 (0)) hx hb dL_draws_258 rfl ?_
      refine q_callH2 (As := [.ref (ad 1 0), .int (i32 (S 3 1 0)), .int (i32 (0)), .int (i32 (0))]) (rest := []) hx hb hml hl.1 hown hK hZ hP hS (c_L_hatch l g base ad S (S 3 1 0) ((0 : Int)) ((0 : Int)) hfl hI.wc (rS _ _ _) ⟨by decide, by decide⟩ ⟨by decide, by decide⟩) t_428 t_14 t_430 t_429 f_yL_hatch ⟨Nat.le_of_ble_eq_true rfl, Nat.le_of_ble_eq_true rfl⟩ rfl rfl (Nat.le_of_ble_eq_true rfl) dL_draws_259 (c2 := 3) (s2 := 18) ⟨by first | rfl | (dsimp only; omega), by first | rfl | (dsimp only; omega)⟩ ⟨by show 3 ≤ 10; omega, by show 18 ≤ 125; omega⟩ (fun rr ad' S' H locs hQ hP hS => ?_)
      obtain ⟨⟨hr9, ek9⟩, hQ⟩ := hQ
      have hc9_1 : ¬ (ceC S (S 3 1 0) ∧ (0 ≤ ((0 : Int)) ∧ ((0 : Int)) < 6) ∧ (0 ≤ ((0 : Int)) ∧ ((0 : Int)) < 6)) := fun y => by have := hI.ce.mp y.1; omega
      have hs9 := (hQ.resolve_right (fun y9 => hc9_1 y9.1.1)).2
      subst hr9
      rw [ek9] at hP
      rw [hs9] at hP
      refine q_nm (lv_1 hc9_1) ?_
      refine q_ldc (z := -1000001) hx hb hown hK t_248 rfl dL_draws_262 ?_
      refine q_icmp_ne (tgt := 309) hx hb ⟨by decide, by decide⟩ ⟨by decide, by decide⟩ dL_draws_264 (by decide) (fun c_4 => (by exfalso; omega)) (fun c_4 => ?_)
      refine lv_aload_n hx hb dL_draws_267 rfl (lv_at hl 2 rfl) ?_
      refine lv_iconst (v := i32 (0)) hx hb dL_draws_268 rfl ?_
      refine p_iald (k := 3) (r := 1) (n := 4) hx hb hK hP hI.a.2.2 rfl rfl (by decide) (by decide) (by omega) (by omega) dL_draws_269 ?_
      refine q_if_eq (tgt := 305) hx hb (rS _ _ _) dL_draws_270 (by decide) (fun c_5 => ?_) (fun c_5 => ?_)
      · -- (S 3 1 0) = 0
        refine lv_iconst (v := i32 (1)) hx hb dL_draws_305 rfl ?_
        refine lv_goto (tgt := 310) hx hb dL_draws_306 (by decide) ?_
        subst hQm
        exact q_zret hx hb hr hlocks hP hS (v := 1) (by decide) (by exact ⟨⟨⟨rfl, (fun _ _ _ => rfl)⟩, hI, hV⟩, rfl⟩) (by show 3 ≤ 10; omega) (by show 18 ≤ 125; omega) dL_draws_310
      · -- (S 3 1 0) ≠ 0
        refine lv_aload_n hx hb dL_draws_273 rfl (lv_at hl 1 rfl) ?_
        refine lv_iload_n hx hb dL_draws_274 rfl (lv_at hl 4 rfl) ?_
        refine lv_iconst (v := i32 (2)) hx hb dL_draws_275 rfl ?_
        refine lv_ishr hx hb dL_draws_276 ?_
        obtain ⟨z6, rz6, hz6⟩ := i32_of (i32 (x) >>> (i32 (2) &&& 31))
        rw [hz6]
        refine lv_aload_n hx hb dL_draws_277 rfl (lv_at hl 2 rfl) ?_
        refine lv_iconst (v := i32 (0)) hx hb dL_draws_278 rfl ?_
        refine p_iald (k := 3) (r := 1) (n := 4) hx hb hK hP hI.a.2.2 rfl rfl (by decide) (by decide) (by omega) (by omega) dL_draws_279 ?_
        refine q_callS2 (As := [.int (i32 (z6)), .int (i32 (S 3 1 0))]) (rest := [.ref (ad 1 0)]) hx hb hml hl.1 hown hK hZ hP hS (c_L_low l g base ad S z6 (S 3 1 0) rz6 (by omega)) t_122 (q_callB hK 121 14 123 t_121 t_14 t_123 f_yL_low ⟨Nat.le_of_ble_eq_true rfl, Nat.le_of_ble_eq_true rfl⟩) rfl rfl (Nat.le_of_ble_eq_true rfl) dL_draws_280 (c2 := 3) (s2 := 18) ⟨by first | rfl | (dsimp only; omega), by first | rfl | (dsimp only; omega)⟩ ⟨by show 3 ≤ 10; omega, by show 18 ≤ 125; omega⟩ (q_an (fun H locs hP hS => ?_))
        obtain ⟨y7, hy7⟩ : ∃ y99 : Int, loF z6 (S 3 1 0) = y99 := ⟨_, rfl⟩
        have by7 := lo_b z6 (show 1 ≤ (S 3 1 0) by omega)
        rw [hy7] at by7
        refine q_nm hy7 ?_
        refine lv_iload hx hb dL_draws_283 (lv_at hl 5 rfl) ?_
        refine lv_bipush (v := i32 (6)) hx hb dL_draws_285 (by decide) ?_
        refine q_callS2 (As := [.int (i32 (y)), .int (i32 (6))]) (rest := [.int (i32 (y7)), .ref (ad 1 0)]) hx hb hml hl.1 hown hK hZ hP hS (c_L_low l g base ad S y ((6 : Int)) hrn2 (by omega)) t_122 (q_callB hK 121 14 123 t_121 t_14 t_123 f_yL_low ⟨Nat.le_of_ble_eq_true rfl, Nat.le_of_ble_eq_true rfl⟩) rfl rfl (Nat.le_of_ble_eq_true rfl) dL_draws_287 (c2 := 3) (s2 := 18) ⟨by first | rfl | (dsimp only; omega), by first | rfl | (dsimp only; omega)⟩ ⟨by show 3 ≤ 10; omega, by show 18 ≤ 125; omega⟩ (q_an (fun H locs hP hS => ?_))
        obtain ⟨y8, hy8⟩ : ∃ y99 : Int, loF y ((6 : Int)) = y99 := ⟨_, rfl⟩
        have by8 := lo_b y (show 1 ≤ ((6 : Int)) by omega)
        rw [hy8] at by8
        refine q_nm hy8 ?_
        refine lv_iload hx hb dL_draws_290 (lv_at hl 5 rfl) ?_
        refine lv_iconst (v := i32 (3)) hx hb dL_draws_292 rfl ?_
        refine lv_ishr hx hb dL_draws_293 ?_
        obtain ⟨z9, rz9, hz9⟩ := i32_of (i32 (y) >>> (i32 (3) &&& 31))
        rw [hz9]
        refine lv_bipush (v := i32 (6)) hx hb dL_draws_294 (by decide) ?_
        refine q_callS2 (As := [.int (i32 (z9)), .int (i32 (6))]) (rest := [.int (i32 (y8)), .int (i32 (y7)), .ref (ad 1 0)]) hx hb hml hl.1 hown hK hZ hP hS (c_L_low l g base ad S z9 ((6 : Int)) rz9 (by omega)) t_122 (q_callB hK 121 14 123 t_121 t_14 t_123 f_yL_low ⟨Nat.le_of_ble_eq_true rfl, Nat.le_of_ble_eq_true rfl⟩) rfl rfl (Nat.le_of_ble_eq_true rfl) dL_draws_296 (c2 := 3) (s2 := 18) ⟨by first | rfl | (dsimp only; omega), by first | rfl | (dsimp only; omega)⟩ ⟨by show 3 ≤ 10; omega, by show 18 ≤ 125; omega⟩ (q_an (fun H locs hP hS => ?_))
        obtain ⟨y10, hy10⟩ : ∃ y99 : Int, loF z9 ((6 : Int)) = y99 := ⟨_, rfl⟩
        have by10 := lo_b z9 (show 1 ≤ ((6 : Int)) by omega)
        rw [hy10] at by10
        refine q_nm hy10 ?_
        refine q_callH2 (As := [.ref (ad 1 0), .int (i32 (y7)), .int (i32 (y8)), .int (i32 (y10))]) (rest := []) hx hb hml hl.1 hown hK hZ hP hS (c_L_hatch l g base ad S y7 y8 y10 hfl hI.wc ⟨by omega, by omega⟩ ⟨by omega, by omega⟩ ⟨by omega, by omega⟩) t_428 t_14 t_430 t_429 f_yL_hatch ⟨Nat.le_of_ble_eq_true rfl, Nat.le_of_ble_eq_true rfl⟩ rfl rfl (Nat.le_of_ble_eq_true rfl) dL_draws_299 (c2 := 6) (s2 := 36) ⟨by first | rfl | (dsimp only; omega), by first | rfl | (dsimp only; omega)⟩ ⟨by show 6 ≤ 10; omega, by show 36 ≤ 125; omega⟩ (fun rr ad' S' H locs hQ hP hS => ?_)
        have hc9 : (ceC S y7 ∧ (0 ≤ y8 ∧ y8 < 6) ∧ (0 ≤ y10 ∧ y10 < 6)) ∧ (True) ∧ (True) := ⟨⟨hI.ce.mpr (by omega), by omega, by omega⟩, trivial, trivial⟩
        obtain ⟨⟨hr9, ek9⟩, hQ⟩ := hQ
        have hs9 := (hQ.resolve_left (fun y9 => y9.1 hc9)).2
        subst hr9
        rw [ek9] at hP
        rw [hs9] at hP
        refine q_nm (b := 0) ((lv_0 hc9.1 hc9.2.1 hc9.2.2).trans (rfl)) ?_
        generalize eS11 : st (st S (4 + y7.toNat) 0 3 y8) (4 + y7.toNat) 0 4 y10 = S11 at hP
        have rS11 : ∀ (a1 b1 : Nat) (i1 : Int), rng (S11 a1 b1 i1) := fun a1 b1 i1 => hP.rg a1 b1 i1
        have ivS11 : IV S11 := by rw [← eS11]; exact IV_hatch hI hc9.1.1 hc9.1.2.1 hc9.1.2.2
        have h3S11 : ∀ (b1 : Nat) (i1 : Int), S11 3 b1 i1 = S 3 b1 i1 := by rw [← eS11]; exact fun b i => by rw [st_at, if_neg (by omega), st_at, if_neg (by omega)]
        refine q_if_ne (tgt := 309) hx hb ⟨by decide, by decide⟩ dL_draws_302 (by decide) (fun h => by omega) (fun _ => ?_)
        refine lv_iconst (v := i32 (1)) hx hb dL_draws_305 rfl ?_
        refine lv_goto (tgt := 310) hx hb dL_draws_306 (by decide) ?_
        subst hQm
        exact q_zret hx hb hr hlocks hP hS (v := 1) (by decide) (by exact ⟨⟨⟨rfl, (fun _ _ _ => rfl)⟩, ivS11, LV_k hV hk5.2 (fun b i => by rw [← eS11, st_at, if_neg (by omega), st_at, if_neg (by omega)]) (by rw [← eS11, st_at, if_neg (by omega), st_at, if_neg (by omega)]) (by rw [← eS11, st_at, if_neg (by omega), st_at, if_neg (by omega)]) (by rw [← eS11, st_at, if_neg (by omega), st_at, if_neg (by omega)]) (fun j => by rw [← eS11, st_at, if_neg (by omega), st_at, if_neg (by omega)]) (fun a _ _ => ⟨by rw [← eS11, st_at, if_neg (by omega), st_at, if_neg (by omega)], by rw [← eS11, st_at, if_neg (by omega), st_at, if_neg (by omega)]⟩)⟩, by rw [h3S11]⟩) (by show 6 ≤ 10; omega) (by show 36 ≤ 125; omega) dL_draws_310
    · -- y1 < 3
      refine lv_aload_n hx hb dL_draws_71 rfl (lv_at hl 2 rfl) ?_
      refine lv_iconst (v := i32 (0)) hx hb dL_draws_72 rfl ?_
      refine p_iald (k := 3) (r := 1) (n := 4) hx hb hK hP hI.a.2.2 rfl rfl (by decide) (by decide) (by omega) (by omega) dL_draws_73 ?_
      refine q_if_le (tgt := 253) hx hb (rS _ _ _) dL_draws_74 (by decide) (fun c_12 => ?_) (fun c_12 => ?_)
      · -- (S 3 1 0) ≤ 0
        refine lv_aload_n hx hb dL_draws_253 rfl (lv_at hl 1 rfl) ?_
        refine lv_aload_n hx hb dL_draws_254 rfl (lv_at hl 2 rfl) ?_
        refine lv_iconst (v := i32 (0)) hx hb dL_draws_255 rfl ?_
        refine p_iald (k := 3) (r := 1) (n := 4) hx hb hK hP hI.a.2.2 rfl rfl (by decide) (by decide) (by omega) (by omega) dL_draws_256 ?_
        refine lv_iconst (v := i32 (0)) hx hb dL_draws_257 rfl ?_
        refine lv_iconst (v := i32 (0)) hx hb dL_draws_258 rfl ?_
        refine q_callH2 (As := [.ref (ad 1 0), .int (i32 (S 3 1 0)), .int (i32 (0)), .int (i32 (0))]) (rest := []) hx hb hml hl.1 hown hK hZ hP hS (c_L_hatch l g base ad S (S 3 1 0) ((0 : Int)) ((0 : Int)) hfl hI.wc (rS _ _ _) ⟨by decide, by decide⟩ ⟨by decide, by decide⟩) t_428 t_14 t_430 t_429 f_yL_hatch ⟨Nat.le_of_ble_eq_true rfl, Nat.le_of_ble_eq_true rfl⟩ rfl rfl (Nat.le_of_ble_eq_true rfl) dL_draws_259 (c2 := 3) (s2 := 18) ⟨by first | rfl | (dsimp only; omega), by first | rfl | (dsimp only; omega)⟩ ⟨by show 3 ≤ 10; omega, by show 18 ≤ 125; omega⟩ (fun rr ad' S' H locs hQ hP hS => ?_)
        obtain ⟨⟨hr9, ek9⟩, hQ⟩ := hQ
        have hc9_1 : ¬ (ceC S (S 3 1 0) ∧ (0 ≤ ((0 : Int)) ∧ ((0 : Int)) < 6) ∧ (0 ≤ ((0 : Int)) ∧ ((0 : Int)) < 6)) := fun y => by have := hI.ce.mp y.1; omega
        have hs9 := (hQ.resolve_right (fun y9 => hc9_1 y9.1.1)).2
        subst hr9
        rw [ek9] at hP
        rw [hs9] at hP
        refine q_nm (lv_1 hc9_1) ?_
        refine q_ldc (z := -1000001) hx hb hown hK t_248 rfl dL_draws_262 ?_
        refine q_icmp_ne (tgt := 309) hx hb ⟨by decide, by decide⟩ ⟨by decide, by decide⟩ dL_draws_264 (by decide) (fun c_13 => (by exfalso; omega)) (fun c_13 => ?_)
        refine lv_aload_n hx hb dL_draws_267 rfl (lv_at hl 2 rfl) ?_
        refine lv_iconst (v := i32 (0)) hx hb dL_draws_268 rfl ?_
        refine p_iald (k := 3) (r := 1) (n := 4) hx hb hK hP hI.a.2.2 rfl rfl (by decide) (by decide) (by omega) (by omega) dL_draws_269 ?_
        refine q_if_eq (tgt := 305) hx hb (rS _ _ _) dL_draws_270 (by decide) (fun c_14 => ?_) (fun c_14 => ?_)
        · -- (S 3 1 0) = 0
          refine lv_iconst (v := i32 (1)) hx hb dL_draws_305 rfl ?_
          refine lv_goto (tgt := 310) hx hb dL_draws_306 (by decide) ?_
          subst hQm
          exact q_zret hx hb hr hlocks hP hS (v := 1) (by decide) (by exact ⟨⟨⟨rfl, (fun _ _ _ => rfl)⟩, hI, hV⟩, rfl⟩) (by show 3 ≤ 10; omega) (by show 18 ≤ 125; omega) dL_draws_310
        · -- (S 3 1 0) ≠ 0
          refine lv_aload_n hx hb dL_draws_273 rfl (lv_at hl 1 rfl) ?_
          refine lv_iload_n hx hb dL_draws_274 rfl (lv_at hl 4 rfl) ?_
          refine lv_iconst (v := i32 (2)) hx hb dL_draws_275 rfl ?_
          refine lv_ishr hx hb dL_draws_276 ?_
          obtain ⟨z15, rz15, hz15⟩ := i32_of (i32 (x) >>> (i32 (2) &&& 31))
          rw [hz15]
          refine lv_aload_n hx hb dL_draws_277 rfl (lv_at hl 2 rfl) ?_
          refine lv_iconst (v := i32 (0)) hx hb dL_draws_278 rfl ?_
          refine p_iald (k := 3) (r := 1) (n := 4) hx hb hK hP hI.a.2.2 rfl rfl (by decide) (by decide) (by omega) (by omega) dL_draws_279 ?_
          refine q_callS2 (As := [.int (i32 (z15)), .int (i32 (S 3 1 0))]) (rest := [.ref (ad 1 0)]) hx hb hml hl.1 hown hK hZ hP hS (c_L_low l g base ad S z15 (S 3 1 0) rz15 (by omega)) t_122 (q_callB hK 121 14 123 t_121 t_14 t_123 f_yL_low ⟨Nat.le_of_ble_eq_true rfl, Nat.le_of_ble_eq_true rfl⟩) rfl rfl (Nat.le_of_ble_eq_true rfl) dL_draws_280 (c2 := 3) (s2 := 18) ⟨by first | rfl | (dsimp only; omega), by first | rfl | (dsimp only; omega)⟩ ⟨by show 3 ≤ 10; omega, by show 18 ≤ 125; omega⟩ (q_an (fun H locs hP hS => ?_))
          obtain ⟨y16, hy16⟩ : ∃ y99 : Int, loF z15 (S 3 1 0) = y99 := ⟨_, rfl⟩
          have by16 := lo_b z15 (show 1 ≤ (S 3 1 0) by omega)
          rw [hy16] at by16
          refine q_nm hy16 ?_
          refine lv_iload hx hb dL_draws_283 (lv_at hl 5 rfl) ?_
          refine lv_bipush (v := i32 (6)) hx hb dL_draws_285 (by decide) ?_
          refine q_callS2 (As := [.int (i32 (y)), .int (i32 (6))]) (rest := [.int (i32 (y16)), .ref (ad 1 0)]) hx hb hml hl.1 hown hK hZ hP hS (c_L_low l g base ad S y ((6 : Int)) hrn2 (by omega)) t_122 (q_callB hK 121 14 123 t_121 t_14 t_123 f_yL_low ⟨Nat.le_of_ble_eq_true rfl, Nat.le_of_ble_eq_true rfl⟩) rfl rfl (Nat.le_of_ble_eq_true rfl) dL_draws_287 (c2 := 3) (s2 := 18) ⟨by first | rfl | (dsimp only; omega), by first | rfl | (dsimp only; omega)⟩ ⟨by show 3 ≤ 10; omega, by show 18 ≤ 125; omega⟩ (q_an (fun H locs hP hS => ?_))
          obtain ⟨y17, hy17⟩ : ∃ y99 : Int, loF y ((6 : Int)) = y99 := ⟨_, rfl⟩
          have by17 := lo_b y (show 1 ≤ ((6 : Int)) by omega)
          rw [hy17] at by17
          refine q_nm hy17 ?_
          refine lv_iload hx hb dL_draws_290 (lv_at hl 5 rfl) ?_
          refine lv_iconst (v := i32 (3)) hx hb dL_draws_292 rfl ?_
          refine lv_ishr hx hb dL_draws_293 ?_
          obtain ⟨z18, rz18, hz18⟩ := i32_of (i32 (y) >>> (i32 (3) &&& 31))
          rw [hz18]
          refine lv_bipush (v := i32 (6)) hx hb dL_draws_294 (by decide) ?_
          refine q_callS2 (As := [.int (i32 (z18)), .int (i32 (6))]) (rest := [.int (i32 (y17)), .int (i32 (y16)), .ref (ad 1 0)]) hx hb hml hl.1 hown hK hZ hP hS (c_L_low l g base ad S z18 ((6 : Int)) rz18 (by omega)) t_122 (q_callB hK 121 14 123 t_121 t_14 t_123 f_yL_low ⟨Nat.le_of_ble_eq_true rfl, Nat.le_of_ble_eq_true rfl⟩) rfl rfl (Nat.le_of_ble_eq_true rfl) dL_draws_296 (c2 := 3) (s2 := 18) ⟨by first | rfl | (dsimp only; omega), by first | rfl | (dsimp only; omega)⟩ ⟨by show 3 ≤ 10; omega, by show 18 ≤ 125; omega⟩ (q_an (fun H locs hP hS => ?_))
          obtain ⟨y19, hy19⟩ : ∃ y99 : Int, loF z18 ((6 : Int)) = y99 := ⟨_, rfl⟩
          have by19 := lo_b z18 (show 1 ≤ ((6 : Int)) by omega)
          rw [hy19] at by19
          refine q_nm hy19 ?_
          refine q_callH2 (As := [.ref (ad 1 0), .int (i32 (y16)), .int (i32 (y17)), .int (i32 (y19))]) (rest := []) hx hb hml hl.1 hown hK hZ hP hS (c_L_hatch l g base ad S y16 y17 y19 hfl hI.wc ⟨by omega, by omega⟩ ⟨by omega, by omega⟩ ⟨by omega, by omega⟩) t_428 t_14 t_430 t_429 f_yL_hatch ⟨Nat.le_of_ble_eq_true rfl, Nat.le_of_ble_eq_true rfl⟩ rfl rfl (Nat.le_of_ble_eq_true rfl) dL_draws_299 (c2 := 6) (s2 := 36) ⟨by first | rfl | (dsimp only; omega), by first | rfl | (dsimp only; omega)⟩ ⟨by show 6 ≤ 10; omega, by show 36 ≤ 125; omega⟩ (fun rr ad' S' H locs hQ hP hS => ?_)
          have hc9 : (ceC S y16 ∧ (0 ≤ y17 ∧ y17 < 6) ∧ (0 ≤ y19 ∧ y19 < 6)) ∧ (True) ∧ (True) := ⟨⟨hI.ce.mpr (by omega), by omega, by omega⟩, trivial, trivial⟩
          obtain ⟨⟨hr9, ek9⟩, hQ⟩ := hQ
          have hs9 := (hQ.resolve_left (fun y9 => y9.1 hc9)).2
          subst hr9
          rw [ek9] at hP
          rw [hs9] at hP
          refine q_nm (b := 0) ((lv_0 hc9.1 hc9.2.1 hc9.2.2).trans (rfl)) ?_
          generalize eS20 : st (st S (4 + y16.toNat) 0 3 y17) (4 + y16.toNat) 0 4 y19 = S20 at hP
          have rS20 : ∀ (a1 b1 : Nat) (i1 : Int), rng (S20 a1 b1 i1) := fun a1 b1 i1 => hP.rg a1 b1 i1
          have ivS20 : IV S20 := by rw [← eS20]; exact IV_hatch hI hc9.1.1 hc9.1.2.1 hc9.1.2.2
          have h3S20 : ∀ (b1 : Nat) (i1 : Int), S20 3 b1 i1 = S 3 b1 i1 := by rw [← eS20]; exact fun b i => by rw [st_at, if_neg (by omega), st_at, if_neg (by omega)]
          refine q_if_ne (tgt := 309) hx hb ⟨by decide, by decide⟩ dL_draws_302 (by decide) (fun h => by omega) (fun _ => ?_)
          refine lv_iconst (v := i32 (1)) hx hb dL_draws_305 rfl ?_
          refine lv_goto (tgt := 310) hx hb dL_draws_306 (by decide) ?_
          subst hQm
          exact q_zret hx hb hr hlocks hP hS (v := 1) (by decide) (by exact ⟨⟨⟨rfl, (fun _ _ _ => rfl)⟩, ivS20, LV_k hV hk5.2 (fun b i => by rw [← eS20, st_at, if_neg (by omega), st_at, if_neg (by omega)]) (by rw [← eS20, st_at, if_neg (by omega), st_at, if_neg (by omega)]) (by rw [← eS20, st_at, if_neg (by omega), st_at, if_neg (by omega)]) (by rw [← eS20, st_at, if_neg (by omega), st_at, if_neg (by omega)]) (fun j => by rw [← eS20, st_at, if_neg (by omega), st_at, if_neg (by omega)]) (fun a _ _ => ⟨by rw [← eS20, st_at, if_neg (by omega), st_at, if_neg (by omega)], by rw [← eS20, st_at, if_neg (by omega), st_at, if_neg (by omega)]⟩)⟩, by rw [h3S20]⟩) (by show 6 ≤ 10; omega) (by show 36 ≤ 125; omega) dL_draws_310
      · -- 0 < (S 3 1 0)
        refine lv_iload_n hx hb dL_draws_77 rfl (lv_at hl 4 rfl) ?_
        refine lv_iconst (v := i32 (2)) hx hb dL_draws_78 rfl ?_
        refine lv_ishr hx hb dL_draws_79 ?_
        obtain ⟨z21, rz21, hz21⟩ := i32_of (i32 (x) >>> (i32 (2) &&& 31))
        rw [hz21]
        refine lv_aload_n hx hb dL_draws_80 rfl (lv_at hl 2 rfl) ?_
        refine lv_iconst (v := i32 (0)) hx hb dL_draws_81 rfl ?_
        refine p_iald (k := 3) (r := 1) (n := 4) hx hb hK hP hI.a.2.2 rfl rfl (by decide) (by decide) (by omega) (by omega) dL_draws_82 ?_
        refine q_callS2 (As := [.int (i32 (z21)), .int (i32 (S 3 1 0))]) (rest := []) hx hb hml hl.1 hown hK hZ hP hS (c_L_low l g base ad S z21 (S 3 1 0) rz21 (by omega)) t_122 (q_callB hK 121 14 123 t_121 t_14 t_123 f_yL_low ⟨Nat.le_of_ble_eq_true rfl, Nat.le_of_ble_eq_true rfl⟩) rfl rfl (Nat.le_of_ble_eq_true rfl) dL_draws_83 (c2 := 0) (s2 := 0) ⟨by first | rfl | (dsimp only; omega), by first | rfl | (dsimp only; omega)⟩ ⟨by show 0 ≤ 10; omega, by show 0 ≤ 125; omega⟩ (q_an (fun H locs hP hS => ?_))
        obtain ⟨y22, hy22⟩ : ∃ y99 : Int, loF z21 (S 3 1 0) = y99 := ⟨_, rfl⟩
        have by22 := lo_b z21 (show 1 ≤ (S 3 1 0) by omega)
        rw [hy22] at by22
        refine q_nm hy22 ?_
        refine lv_istore (lv' := [(6, .int (i32 (y22))), (5, .int (i32 (y1))), (0, .ref (ad 1 0)), (1, .ref (ad 3 1)), (2, .ref (ad 3 2)), (3, .int (i32 (x))), (4, .int (i32 (y)))]) hx hb dL_draws_86 hl (by decide) rfl (fun ls hl => ?_)
        have hits : 0 ≤ y22 ∧ y22 < S 1 0 3 := by omega
        obtain ⟨hd1, hd2, hd3⟩ := vd y22 hits.1 hits.2
        obtain ⟨-, hcw1, hcw2⟩ := (hI.k.2.2 y22 hits.1 hits.2).1
        refine lv_aload_n hx hb dL_draws_88 rfl (lv_at hl 2 rfl) ?_
        refine q_callV2 (k := 1) (As := []) (rest := []) hx hb hml hl.1 hown hK hZ hP hS hI.a.1 rfl rfl rfl (c_X3_empty l g base ad S  hI.wc) t_381 t_382 (q_callB hK 380 15 383 t_380 t_15 t_383 f_yX3_empty ⟨Nat.le_of_ble_eq_true rfl, Nat.le_of_ble_eq_true rfl⟩) rfl rfl (Nat.le_of_ble_eq_true rfl) dL_draws_89 (c2 := 0) (s2 := 0) ⟨by first | rfl | (dsimp only; omega), by first | rfl | (dsimp only; omega)⟩ ⟨by show 0 ≤ 10; omega, by show 0 ≤ 125; omega⟩ (q_an (fun H locs hP hS => ?_))
        generalize eS23 : st S 1 0 1 0 = S23 at hP
        have rS23 : ∀ (a1 b1 : Nat) (i1 : Int), rng (S23 a1 b1 i1) := fun a1 b1 i1 => hP.rg a1 b1 i1
        have ivS23 : IV S23 := by rw [← eS23]; exact IV_empty hI
        have h3S23 : ∀ (b1 : Nat) (i1 : Int), S23 3 b1 i1 = S 3 b1 i1 := by rw [← eS23]; exact fun b i => by rw [st_at, if_neg (by omega)]
        have fS23 : ∀ (a b : Nat) (i : Int), ¬ (a = 1 ∧ (b = 1 ∨ (b = 0 ∧ i = 1))) → S23 a b i = S a b i := fun a b i h => by rw [← eS23, st_at, if_neg (by omega)]
        refine q_if_lt (tgt := 99) hx hb (rS _ _ _) dL_draws_92 (by decide) (fun c_24 => (by exfalso; omega)) (fun c_24 => ?_)
        refine lv_iconst (v := i32 (1)) hx hb dL_draws_95 rfl ?_
        refine lv_goto (tgt := 100) hx hb dL_draws_96 (by decide) ?_
        refine lv_istore (lv' := [(7, .int (i32 (1))), (6, .int (i32 (y22))), (5, .int (i32 (y1))), (0, .ref (ad 1 0)), (1, .ref (ad 3 1)), (2, .ref (ad 3 2)), (3, .int (i32 (x))), (4, .int (i32 (y)))]) hx hb dL_draws_100 hl (by decide) rfl (fun ls hl => ?_)
        refine lv_iconst (v := i32 (0)) hx hb dL_draws_102 rfl ?_
        refine lv_istore (lv' := [(8, .int (i32 (0))), (7, .int (i32 (1))), (6, .int (i32 (y22))), (5, .int (i32 (y1))), (0, .ref (ad 1 0)), (1, .ref (ad 3 1)), (2, .ref (ad 3 2)), (3, .int (i32 (x))), (4, .int (i32 (y)))]) hx hb dL_draws_103 hl (by decide) rfl (fun ls hl => ?_)
        have L105 : ∀ (k : Nat) (kt : Int) (Sa : St) (cc105 sc105 : Nat) (H : Heap) (locs : List Loc) (ls : Array Slot), (IV Sa) → (∀ (a b : Nat) (i : Int), ¬ (a = 1 ∧ (b = 1 ∨ (b = 0 ∧ i = 1))) → Sa a b i = S a b i) → (Sa 1 0 1 = kt) → (0 ≤ kt ∧ kt ≤ S 3 2 (2 * y22)) → S 3 2 (2 * y22) - kt < (k : Int) → (cc105 + 1 * k ≤ 7 ∧ sc105 + 6 * k ≤ 42) → pic g base ad Sa H → va_S (fun q => base ≤ q) s.heap H locs → lv_has ls 9 [(8, .int (i32 (kt))), (7, .int (i32 (1))), (6, .int (i32 (y22))), (5, .int (i32 (y1))), (0, .ref (ad 1 0)), (1, .ref (ad 3 1)), (2, .ref (ad 3 2)), (3, .int (i32 (x))), (4, .int (i32 (y)))] → W p l e ({ frames := 9, cells := 10, slots := 125, locals := 160 } : Room) s m av below meth cz H locs cc105 sc105 Qm (F0 m 105 ls []) := by
          intro k
          induction k with
          | zero => intro kt Sa cc105 sc105 H locs ls zI zf zl zk hmu _ _ _ _; exact absurd hmu (by omega)
          | succ k ih105 =>
            intro kt Sa cc105 sc105 H locs ls zI zf zl zk hmu hcs105 hP hS hl
            have rSa : ∀ (a1 b1 : Nat) (i1 : Int), rng (Sa a1 b1 i1) := fun a1 b1 i1 => hP.rg a1 b1 i1
            refine lv_iload hx hb dL_draws_105 (lv_at hl 0 rfl) ?_
            refine lv_aload_n hx hb dL_draws_107 rfl (lv_at hl 6 rfl) ?_
            refine lv_iconst (v := i32 (2)) hx hb dL_draws_108 rfl ?_
            refine lv_iload hx hb dL_draws_109 (lv_at hl 2 rfl) ?_
            refine q_imul hx hb dL_draws_111 ?_
            refine p_iald (k := 3) (r := 2) (n := 10) hx hb hK hP zI.a.2.2 rfl rfl (by decide) (by decide) (by omega) (by omega) dL_draws_112 ?_
            refine q_nm (show Sa 3 2 (2 * y22) = S 3 2 (2 * y22) from by rw [zf _ _ _ (by omega)]) ?_
            refine q_icmp_ge (tgt := 160) hx hb ⟨by omega, by omega⟩ (rS _ _ _) dL_draws_113 (by decide) (fun c_25 => ?_) (fun c_25 => ?_)
            · -- (S 3 2 (2 * y22)) ≤ kt
              refine lv_aload_n hx hb dL_draws_160 rfl (lv_at hl 6 rfl) ?_
              refine lv_iconst (v := i32 (2)) hx hb dL_draws_161 rfl ?_
              refine lv_iload hx hb dL_draws_162 (lv_at hl 2 rfl) ?_
              refine q_imul hx hb dL_draws_164 ?_
              refine lv_iconst (v := i32 (1)) hx hb dL_draws_165 rfl ?_
              refine q_iadd hx hb dL_draws_166 ?_
              refine p_iald (k := 3) (r := 2) (n := 10) hx hb hK hP zI.a.2.2 rfl rfl (by decide) (by decide) (by omega) (by omega) dL_draws_167 ?_
              refine q_nm (show Sa 3 2 ((2 * y22) + 1) = S 3 2 ((2 * y22) + 1) from by rw [zf _ _ _ (by omega)]) ?_
              refine lv_bipush (v := i32 (10)) hx hb dL_draws_168 (by decide) ?_
              refine q_icmp_ne (tgt := 195) hx hb (rS _ _ _) ⟨by decide, by decide⟩ dL_draws_170 (by decide) (fun c_26 => ?_) (fun c_26 => ?_)
              · -- (S 3 2 ((2 * y22) + 1)) ≠ 10
                refine lv_aload_n hx hb dL_draws_195 rfl (lv_at hl 6 rfl) ?_
                refine lv_iconst (v := i32 (2)) hx hb dL_draws_196 rfl ?_
                refine lv_iload hx hb dL_draws_197 (lv_at hl 2 rfl) ?_
                refine q_imul hx hb dL_draws_199 ?_
                refine lv_iconst (v := i32 (1)) hx hb dL_draws_200 rfl ?_
                refine q_iadd hx hb dL_draws_201 ?_
                refine lv_dup2_11 hx hb dL_draws_202 rfl rfl ?_
                refine p_iald (k := 3) (r := 2) (n := 10) hx hb hK hP zI.a.2.2 rfl rfl (by decide) (by decide) (by omega) (by omega) dL_draws_203 ?_
                refine q_nm (show Sa 3 2 ((2 * y22) + 1) = S 3 2 ((2 * y22) + 1) from by rw [zf _ _ _ (by omega)]) ?_
                refine lv_iconst (v := i32 (1)) hx hb dL_draws_204 rfl ?_
                refine q_iadd hx hb dL_draws_205 ?_
                refine p_iast (k := 3) (r := 2) (n := 10) hx hb hK hP hS zI.a.2.2 rfl rfl (by decide) (by decide) (by omega) (by omega) ⟨by omega, by omega⟩ dL_draws_206 (fun H locs hP hS => ?_)
                generalize eS27 : st Sa 3 2 ((2 * y22) + 1) ((S 3 2 ((2 * y22) + 1)) + 1) = S27 at hP
                have qS27 : ∀ (a1 b1 : Nat) (i1 : Int), S27 a1 b1 i1 = if a1 = 3 ∧ b1 = 2 ∧ i1 = (2 * y22) + 1 then (S 3 2 ((2 * y22) + 1)) + 1 else Sa a1 b1 i1 := fun a1 b1 i1 => by rw [← eS27]; exact st_at _ _ _ _ _ _ _ _
                have rS27 : ∀ (a1 b1 : Nat) (i1 : Int), rng (S27 a1 b1 i1) := fun a1 b1 i1 => hP.rg a1 b1 i1
                have aS27_1 : S27 1 0 (-1) = 1 := by rw [qS27, if_neg (by omega)]; exact zI.a.1
                have aS27_2 : S27 2 0 (-1) = 1 := by rw [qS27, if_neg (by omega)]; exact zI.a.2.1
                have aS27_3 : S27 3 0 (-1) = 1 := by rw [qS27, if_neg (by omega)]; exact zI.a.2.2
                have ivS27 : IV S27 := by rw [← eS27]; exact IV_3 zI (by decide)
                refine lv_iload hx hb dL_draws_207 (lv_at hl 1 rfl) ?_
                refine q_if_eq (tgt := 251) hx hb ⟨by decide, by decide⟩ dL_draws_209 (by decide) (fun h => by omega) (fun _ => ?_)
                refine lv_aload_n hx hb dL_draws_212 rfl (lv_at hl 4 rfl) ?_
                refine lv_iload hx hb dL_draws_213 (lv_at hl 2 rfl) ?_
                refine q_callH2 (As := [.ref (ad 1 0), .int (i32 (y22))]) (rest := []) hx hb hml hl.1 hown hK hZ hP hS (c_L_row l g base ad S27 y22 hfl ivS27.wc ⟨by omega, by omega⟩) t_400 t_14 t_402 t_401 f_yL_row ⟨Nat.le_of_ble_eq_true rfl, Nat.le_of_ble_eq_true rfl⟩ rfl rfl (Nat.le_of_ble_eq_true rfl) dL_draws_215 (c2 := cc105 + 2) (s2 := sc105 + 12) ⟨by first | rfl | (dsimp only; omega), by first | rfl | (dsimp only; omega)⟩ ⟨by show cc105 + 2 ≤ 10; omega, by show sc105 + 12 ≤ 125; omega⟩ (fun rr ad' S' H locs hQ hP hS => ?_)
                have hc9 : (ceC S27 y22) ∧ (S27 1 0 1 = S27 (4 + y22.toNat) 0 0 ∧ S27 (4 + y22.toNat) 0 1 < 10) ∧ (True) := ⟨ivS27.ce.mpr (by rw [qS27, if_neg (by omega), zf _ _ _ (by omega)]; omega), ⟨by rw [qS27, if_neg (by omega), qS27, if_neg (by omega), zl, zf _ _ _ (by omega), ← hd1]; omega, by rw [qS27, if_neg (by omega), zf _ _ _ (by omega), ← hd3]; omega⟩, trivial⟩
                obtain ⟨⟨hr9, ek9⟩, hQ⟩ := hQ
                have hs9 := (hQ.resolve_left (fun y9 => y9.1 hc9)).2
                subst hr9
                rw [ek9] at hP
                rw [hs9] at hP
                refine q_nm (b := S 3 2 (2 * y22 + 1) + 1) ((lv_0 hc9.1 hc9.2.1 hc9.2.2).trans (by rw [qS27, if_neg (by omega), zf _ _ _ (by omega), ← hd3])) ?_
                generalize eS28 : st (st (adF S27 (4 + y22.toNat) (S27 (4 + y22.toNat) 0 0)) (4 + y22.toNat) 0 1 (S27 (4 + y22.toNat) 0 1 + 1)) 1 0 1 0 = S28 at hP
                have rS28 : ∀ (a1 b1 : Nat) (i1 : Int), rng (S28 a1 b1 i1) := fun a1 b1 i1 => hP.rg a1 b1 i1
                have ivS28 : IV S28 := by rw [← eS28]; exact IV_row ivS27 hc9.1 hc9.2.1
                have h3S28 : ∀ (b1 : Nat) (i1 : Int), S28 3 b1 i1 = S27 3 b1 i1 := by rw [← eS28]; exact fun b i => ro_3 (by omega) b i
                refine lv_aload_n hx hb dL_draws_218 rfl (lv_at hl 6 rfl) ?_
                refine lv_iconst (v := i32 (2)) hx hb dL_draws_219 rfl ?_
                refine lv_iload hx hb dL_draws_220 (lv_at hl 2 rfl) ?_
                refine q_imul hx hb dL_draws_222 ?_
                refine lv_iconst (v := i32 (1)) hx hb dL_draws_223 rfl ?_
                refine q_iadd hx hb dL_draws_224 ?_
                refine p_iald (k := 3) (r := 2) (n := 10) hx hb hK hP ivS28.a.2.2 rfl rfl (by decide) (by decide) (by omega) (by omega) dL_draws_225 ?_
                refine q_nm (show S28 3 2 ((2 * y22) + 1) = (S 3 2 ((2 * y22) + 1)) + 1 from by rw [h3S28, qS27, if_pos ⟨rfl, rfl, rfl⟩]) ?_
                refine q_icmp_ne (tgt := 251) hx hb ⟨by omega, by omega⟩ ⟨by omega, by omega⟩ dL_draws_226 (by decide) (fun c_29 => (by exfalso; omega)) (fun c_29 => ?_)
                refine lv_aload_n hx hb dL_draws_229 rfl (lv_at hl 4 rfl) ?_
                refine lv_iload hx hb dL_draws_230 (lv_at hl 2 rfl) ?_
                refine q_callH2 (As := [.ref (ad 1 0), .int (i32 (y22))]) (rest := []) hx hb hml hl.1 hown hK hZ hP hS (c_L_row l g base ad S28 y22 hfl ivS28.wc ⟨by omega, by omega⟩) t_400 t_14 t_402 t_401 f_yL_row ⟨Nat.le_of_ble_eq_true rfl, Nat.le_of_ble_eq_true rfl⟩ rfl rfl (Nat.le_of_ble_eq_true rfl) dL_draws_232 (c2 := cc105 + 4) (s2 := sc105 + 24) ⟨by first | rfl | (dsimp only; omega), by first | rfl | (dsimp only; omega)⟩ ⟨by show cc105 + 4 ≤ 10; omega, by show sc105 + 24 ≤ 125; omega⟩ (fun rr ad' S' H locs hQ hP hS => ?_)
                obtain ⟨⟨hr9, ek9⟩, hQ⟩ := hQ
                have hc9_1 : ceC S28 y22 := ivS28.ce.mpr (by rw [← eS28, st_at, if_neg (by omega), st_at, if_neg (by omega), adF_o (by decide), qS27, if_neg (by omega), zf _ _ _ (by omega)]; omega)
                have hc9_2 : ¬ (S28 1 0 1 = S28 (4 + y22.toNat) 0 0 ∧ S28 (4 + y22.toNat) 0 1 < 10) := fun y => by have h1 := y.1; have h2 := (ivS28.k.2.2 y22 (by omega) (by rw [← eS28, st_at, if_neg (by omega), st_at, if_neg (by omega), adF_o (by decide), qS27, if_neg (by omega), zf _ _ _ (by omega)]; omega)).1.2.1; rw [← h1, ← eS28, st_at, if_pos ⟨rfl, rfl, rfl⟩] at h2; omega
                have hs9 := (hQ.resolve_right (fun y9 => hc9_2 y9.1.2.1)).2
                subst hr9
                rw [ek9] at hP
                rw [hs9] at hP
                refine q_nm (lv_2 hc9_1 hc9_2) ?_
                refine q_ldc (z := -1000003) hx hb hown hK t_250 rfl dL_draws_235 ?_
                refine q_icmp_ne (tgt := 251) hx hb ⟨by decide, by decide⟩ ⟨by decide, by decide⟩ dL_draws_237 (by decide) (fun c_30 => (by exfalso; omega)) (fun c_30 => ?_)
                refine lv_aload_n hx hb dL_draws_240 rfl (lv_at hl 4 rfl) ?_
                refine q_callV2 (k := 1) (As := []) (rest := []) hx hb hml hl.1 hown hK hZ hP hS ivS28.a.1 rfl rfl rfl (c_X3_empty l g base ad S28  ivS28.wc) t_381 t_382 (q_callB hK 380 15 383 t_380 t_15 t_383 f_yX3_empty ⟨Nat.le_of_ble_eq_true rfl, Nat.le_of_ble_eq_true rfl⟩) rfl rfl (Nat.le_of_ble_eq_true rfl) dL_draws_241 (c2 := cc105 + 4) (s2 := sc105 + 24) ⟨by first | rfl | (dsimp only; omega), by first | rfl | (dsimp only; omega)⟩ ⟨by show cc105 + 4 ≤ 10; omega, by show sc105 + 24 ≤ 125; omega⟩ (q_an (fun H locs hP hS => ?_))
                generalize eS31 : st S28 1 0 1 0 = S31 at hP
                have rS31 : ∀ (a1 b1 : Nat) (i1 : Int), rng (S31 a1 b1 i1) := fun a1 b1 i1 => hP.rg a1 b1 i1
                have ivS31 : IV S31 := by rw [← eS31]; exact IV_empty ivS28
                have h3S31 : ∀ (b1 : Nat) (i1 : Int), S31 3 b1 i1 = S28 3 b1 i1 := by rw [← eS31]; exact fun b i => by rw [st_at, if_neg (by omega)]
                have fS31 : ∀ (a b : Nat) (i : Int), ¬ (a = 1 ∧ (b = 1 ∨ (b = 0 ∧ i = 1))) → S31 a b i = S28 a b i := fun a b i h => by rw [← eS31, st_at, if_neg (by omega)]
                refine q_nm (b := 0) (by rw [← eS28, st_at, if_pos ⟨rfl, rfl, rfl⟩]) ?_
                refine q_if_ne (tgt := 251) hx hb ⟨by decide, by decide⟩ dL_draws_244 (by decide) (fun h => by omega) (fun _ => ?_)
                refine lv_iconst (v := i32 (1)) hx hb dL_draws_247 rfl ?_
                refine lv_goto (tgt := 252) hx hb dL_draws_248 (by decide) ?_
                subst hQm
                exact q_zret hx hb hr hlocks hP hS (v := 1) (by decide) (by exact ⟨⟨⟨rfl, (fun _ _ _ => rfl)⟩, ivS31, by rw [← eS31, ← eS28]; exact LV_row hI hV hits zf eS27⟩, by rw [h3S31, h3S28, qS27, if_neg (by omega), zf _ _ _ (by omega)]⟩) (by show cc105 + 4 ≤ 10; omega) (by show sc105 + 24 ≤ 125; omega) dL_draws_252
              · -- (S 3 2 ((2 * y22) + 1)) = 10
                refine lv_iload hx hb dL_draws_173 (lv_at hl 1 rfl) ?_
                refine q_if_eq (tgt := 193) hx hb ⟨by decide, by decide⟩ dL_draws_175 (by decide) (fun h => by omega) (fun _ => ?_)
                refine lv_aload_n hx hb dL_draws_178 rfl (lv_at hl 4 rfl) ?_
                refine lv_iload hx hb dL_draws_179 (lv_at hl 2 rfl) ?_
                refine q_callH2 (As := [.ref (ad 1 0), .int (i32 (y22))]) (rest := []) hx hb hml hl.1 hown hK hZ hP hS (c_L_row l g base ad Sa y22 hfl zI.wc ⟨by omega, by omega⟩) t_400 t_14 t_402 t_401 f_yL_row ⟨Nat.le_of_ble_eq_true rfl, Nat.le_of_ble_eq_true rfl⟩ rfl rfl (Nat.le_of_ble_eq_true rfl) dL_draws_181 (c2 := cc105 + 2) (s2 := sc105 + 12) ⟨by first | rfl | (dsimp only; omega), by first | rfl | (dsimp only; omega)⟩ ⟨by show cc105 + 2 ≤ 10; omega, by show sc105 + 12 ≤ 125; omega⟩ (fun rr ad' S' H locs hQ hP hS => ?_)
                obtain ⟨⟨hr9, ek9⟩, hQ⟩ := hQ
                have hc9_1 : ceC Sa y22 := zI.ce.mpr (by rw [zf _ _ _ (by omega)]; omega)
                have hc9_2 : ¬ (Sa 1 0 1 = Sa (4 + y22.toNat) 0 0 ∧ Sa (4 + y22.toNat) 0 1 < 10) := fun y => by have := y.2; rw [zf _ _ _ (by omega), ← hd3] at this; omega
                have hs9 := (hQ.resolve_right (fun y9 => hc9_2 y9.1.2.1)).2
                subst hr9
                rw [ek9] at hP
                rw [hs9] at hP
                refine q_nm (lv_2 hc9_1 hc9_2) ?_
                refine q_ldc (z := -1000003) hx hb hown hK t_250 rfl dL_draws_184 ?_
                refine q_icmp_ne (tgt := 193) hx hb ⟨by decide, by decide⟩ ⟨by decide, by decide⟩ dL_draws_186 (by decide) (fun c_32 => (by exfalso; omega)) (fun c_32 => ?_)
                refine lv_iconst (v := i32 (1)) hx hb dL_draws_189 rfl ?_
                refine lv_goto (tgt := 194) hx hb dL_draws_190 (by decide) ?_
                subst hQm
                exact q_zret hx hb hr hlocks hP hS (v := 1) (by decide) (by exact ⟨⟨⟨rfl, (fun _ _ _ => rfl)⟩, zI, LV_k hV hk5.2 (fun b i => zf _ _ _ (by omega)) (zf _ _ _ (by omega)) (zf _ _ _ (by omega)) (zf _ _ _ (by omega)) (fun j => zf _ _ _ (by omega)) (fun a _ _ => ⟨zf _ _ _ (by omega), zf _ _ _ (by omega)⟩)⟩, by rw [zf _ _ _ (by omega)]⟩) (by show cc105 + 2 ≤ 10; omega) (by show sc105 + 12 ≤ 125; omega) dL_draws_194
            · -- kt < (S 3 2 (2 * y22))
              refine lv_iload hx hb dL_draws_116 (lv_at hl 1 rfl) ?_
              refine q_if_eq (tgt := 151) hx hb ⟨by decide, by decide⟩ dL_draws_118 (by decide) (fun h => by omega) (fun _ => ?_)
              refine lv_aload_n hx hb dL_draws_121 rfl (lv_at hl 4 rfl) ?_
              refine lv_iload hx hb dL_draws_122 (lv_at hl 8 rfl) ?_
              refine lv_iconst (v := i32 (3)) hx hb dL_draws_124 rfl ?_
              refine lv_iload hx hb dL_draws_125 (lv_at hl 0 rfl) ?_
              refine q_imul hx hb dL_draws_127 ?_
              refine lv_ishr hx hb dL_draws_128 ?_
              obtain ⟨z33, rz33, hz33⟩ := i32_of (i32 (y) >>> (i32 (3 * kt) &&& 31))
              rw [hz33]
              refine lv_bipush (v := i32 (7)) hx hb dL_draws_129 (by decide) ?_
              refine q_callS2 (As := [.int (i32 (z33)), .int (i32 (7))]) (rest := [.ref (ad 1 0)]) hx hb hml hl.1 hown hK hZ hP hS (c_L_low l g base ad Sa z33 ((7 : Int)) rz33 (by omega)) t_122 (q_callB hK 121 14 123 t_121 t_14 t_123 f_yL_low ⟨Nat.le_of_ble_eq_true rfl, Nat.le_of_ble_eq_true rfl⟩) rfl rfl (Nat.le_of_ble_eq_true rfl) dL_draws_131 (c2 := cc105 + 0) (s2 := sc105 + 0) ⟨by first | rfl | (dsimp only; omega), by first | rfl | (dsimp only; omega)⟩ ⟨by show cc105 + 0 ≤ 10; omega, by show sc105 + 0 ≤ 125; omega⟩ (q_an (fun H locs hP hS => ?_))
              obtain ⟨y34, hy34⟩ : ∃ y99 : Int, loF z33 ((7 : Int)) = y99 := ⟨_, rfl⟩
              have by34 := lo_b z33 (show 1 ≤ ((7 : Int)) by omega)
              rw [hy34] at by34
              refine q_nm hy34 ?_
              refine q_callS2 (As := [.int (i32 (y34))]) (rest := [.ref (ad 1 0)]) hx hb hml hl.1 hown hK hZ hP hS (c_L_letter l g base ad Sa y34 ⟨by omega, by omega⟩) t_385 (q_callB hK 384 14 386 t_384 t_14 t_386 f_yL_letter ⟨Nat.le_of_ble_eq_true rfl, Nat.le_of_ble_eq_true rfl⟩) rfl rfl (Nat.le_of_ble_eq_true rfl) dL_draws_134 (c2 := cc105 + 0) (s2 := sc105 + 0) ⟨by first | rfl | (dsimp only; omega), by first | rfl | (dsimp only; omega)⟩ ⟨by show cc105 + 0 ≤ 10; omega, by show sc105 + 0 ≤ 125; omega⟩ (q_an (fun H locs hP hS => ?_))
              refine q_callH2 (As := [.ref (ad 1 0), .int (i32 (leF y34))]) (rest := []) hx hb hml hl.1 hown hK hZ hP hS (c_L_type l g base ad Sa (leF y34) hfl zI.wc (le_r _)) t_387 t_14 t_389 t_388 f_yL_type ⟨Nat.le_of_ble_eq_true rfl, Nat.le_of_ble_eq_true rfl⟩ rfl rfl (Nat.le_of_ble_eq_true rfl) dL_draws_137 (c2 := cc105 + 1) (s2 := sc105 + 6) ⟨by first | rfl | (dsimp only; omega), by first | rfl | (dsimp only; omega)⟩ ⟨by show cc105 + 1 ≤ 10; omega, by show sc105 + 6 ≤ 125; omega⟩ (fun rr ad' S' H locs hQ hP hS => ?_)
              have hc9 : (sg (leF y34) ≠ -1) ∧ (Sa 1 0 1 < 12) ∧ (True) := ⟨le_sg _, by omega, trivial⟩
              obtain ⟨⟨hr9, ek9⟩, hQ⟩ := hQ
              have hs9 := (hQ.resolve_left (fun y9 => y9.1 hc9)).2
              subst hr9
              rw [ek9] at hP
              rw [hs9] at hP
              refine q_nm (b := kt + 1) ((lv_0 hc9.1 hc9.2.1 hc9.2.2).trans (by rw [zl])) ?_
              generalize eS35 : st (st Sa 1 1 (Sa 1 0 1) (sg (leF y34))) 1 0 1 (Sa 1 0 1 + 1) = S35 at hP
              have rS35 : ∀ (a1 b1 : Nat) (i1 : Int), rng (S35 a1 b1 i1) := fun a1 b1 i1 => hP.rg a1 b1 i1
              have ivS35 : IV S35 := by rw [← eS35]; exact IV_type zI (le_sg _) hc9.2.1
              have h3S35 : ∀ (b1 : Nat) (i1 : Int), S35 3 b1 i1 = Sa 3 b1 i1 := by rw [← eS35]; exact fun b i => by rw [st_at, if_neg (by omega), st_at, if_neg (by omega)]
              refine lv_iload hx hb dL_draws_140 (lv_at hl 0 rfl) ?_
              refine lv_iconst (v := i32 (1)) hx hb dL_draws_142 rfl ?_
              refine q_iadd hx hb dL_draws_143 ?_
              refine q_icmp_ne (tgt := 151) hx hb ⟨by omega, by omega⟩ ⟨by omega, by omega⟩ dL_draws_144 (by decide) (fun c_36 => (by exfalso; omega)) (fun c_36 => ?_)
              refine lv_iconst (v := i32 (1)) hx hb dL_draws_147 rfl ?_
              refine lv_goto (tgt := 152) hx hb dL_draws_148 (by decide) ?_
              refine lv_istore (lv' := [(7, .int (i32 (1))), (8, .int (i32 (kt))), (6, .int (i32 (y22))), (5, .int (i32 (y1))), (0, .ref (ad 1 0)), (1, .ref (ad 3 1)), (2, .ref (ad 3 2)), (3, .int (i32 (x))), (4, .int (i32 (y)))]) hx hb dL_draws_152 hl (by decide) rfl (fun ls hl => ?_)
              refine lv_iinc (v := i32 (kt + 1)) (lv' := [(8, .int (i32 (kt + 1))), (7, .int (i32 (1))), (6, .int (i32 (y22))), (5, .int (i32 (y1))), (0, .ref (ad 1 0)), (1, .ref (ad 3 1)), (2, .ref (ad 3 2)), (3, .int (i32 (x))), (4, .int (i32 (y)))]) hx hb dL_draws_154 hl (k := 1) rfl (i32_add _ _) (by decide) rfl (fun ls hl => ?_)
              refine lv_goto (tgt := 105) hx hb dL_draws_157 (by decide) ?_
              exact ih105 (kt + 1) S35 (cc105 + 1) (sc105 + 6) _ _ _ (by exact ivS35) (by exact fun a b i h => by rw [← eS35, st_at, if_neg (by omega), st_at, if_neg (by omega)]; exact zf a b i h) (by rw [← eS35, st_at, if_pos ⟨rfl, rfl, rfl⟩, zl]) (by omega) (by omega) (by omega) hP hS (lv_sub hl [0, 1, 2, 3, 4, 5, 6, 7, 8] rfl)
        exact L105 ((S 3 2 (2 * y22) - 0) + 1).toNat 0 S23 0 0 _ _ _ (by exact ivS23) (by exact fS23) (by rw [← eS23, st_at, if_pos ⟨rfl, rfl, rfl⟩]) (by omega) (by omega) (by omega) hP hS (lv_sub hl [0, 1, 2, 3, 4, 5, 6, 7, 8] rfl)
  · -- y1 = 0
    refine lv_aload_n hx hb dL_draws_12 rfl (lv_at hl 2 rfl) ?_
    refine lv_iconst (v := i32 (0)) hx hb dL_draws_13 rfl ?_
    refine p_iald (k := 3) (r := 1) (n := 4) hx hb hK hP hI.a.2.2 rfl rfl (by decide) (by decide) (by omega) (by omega) dL_draws_14 ?_
    refine lv_iconst (v := i32 (5)) hx hb dL_draws_15 rfl ?_
    refine q_icmp_ge (tgt := 65) hx hb (rS _ _ _) ⟨by decide, by decide⟩ dL_draws_16 (by decide) (fun c_37 => ?_) (fun c_37 => ?_)
    · -- 5 ≤ (S 3 1 0)
      refine lv_iload hx hb dL_draws_65 (lv_at hl 0 rfl) ?_
      refine lv_iconst (v := i32 (3)) hx hb dL_draws_67 rfl ?_
      refine q_icmp_ge (tgt := 253) hx hb ⟨by omega, by omega⟩ ⟨by decide, by decide⟩ dL_draws_68 (by decide) (fun c_38 => ?_) (fun c_38 => ?_)
      · -- 3 ≤ y1
        refine lv_aload_n hx hb dL_draws_253 rfl (lv_at hl 1 rfl) ?_
        refine lv_aload_n hx hb dL_draws_254 rfl (lv_at hl 2 rfl) ?_
        refine lv_iconst (v := i32 (0)) hx hb dL_draws_255 rfl ?_
        refine p_iald (k := 3) (r := 1) (n := 4) hx hb hK hP hI.a.2.2 rfl rfl (by decide) (by decide) (by omega) (by omega) dL_draws_256 ?_
        refine lv_iconst (v := i32 (0)) hx hb dL_draws_257 rfl ?_
        refine lv_iconst (v := i32 (0)) hx hb dL_draws_258 rfl ?_
        refine q_callH2 (As := [.ref (ad 1 0), .int (i32 (S 3 1 0)), .int (i32 (0)), .int (i32 (0))]) (rest := []) hx hb hml hl.1 hown hK hZ hP hS (c_L_hatch l g base ad S (S 3 1 0) ((0 : Int)) ((0 : Int)) hfl hI.wc (rS _ _ _) ⟨by decide, by decide⟩ ⟨by decide, by decide⟩) t_428 t_14 t_430 t_429 f_yL_hatch ⟨Nat.le_of_ble_eq_true rfl, Nat.le_of_ble_eq_true rfl⟩ rfl rfl (Nat.le_of_ble_eq_true rfl) dL_draws_259 (c2 := 3) (s2 := 18) ⟨by first | rfl | (dsimp only; omega), by first | rfl | (dsimp only; omega)⟩ ⟨by show 3 ≤ 10; omega, by show 18 ≤ 125; omega⟩ (fun rr ad' S' H locs hQ hP hS => ?_)
        obtain ⟨⟨hr9, ek9⟩, hQ⟩ := hQ
        have hc9_1 : ¬ (ceC S (S 3 1 0) ∧ (0 ≤ ((0 : Int)) ∧ ((0 : Int)) < 6) ∧ (0 ≤ ((0 : Int)) ∧ ((0 : Int)) < 6)) := fun y => by have := hI.ce.mp y.1; omega
        have hs9 := (hQ.resolve_right (fun y9 => hc9_1 y9.1.1)).2
        subst hr9
        rw [ek9] at hP
        rw [hs9] at hP
        refine q_nm (lv_1 hc9_1) ?_
        refine q_ldc (z := -1000001) hx hb hown hK t_248 rfl dL_draws_262 ?_
        refine q_icmp_ne (tgt := 309) hx hb ⟨by decide, by decide⟩ ⟨by decide, by decide⟩ dL_draws_264 (by decide) (fun c_39 => (by exfalso; omega)) (fun c_39 => ?_)
        refine lv_aload_n hx hb dL_draws_267 rfl (lv_at hl 2 rfl) ?_
        refine lv_iconst (v := i32 (0)) hx hb dL_draws_268 rfl ?_
        refine p_iald (k := 3) (r := 1) (n := 4) hx hb hK hP hI.a.2.2 rfl rfl (by decide) (by decide) (by omega) (by omega) dL_draws_269 ?_
        refine q_if_eq (tgt := 305) hx hb (rS _ _ _) dL_draws_270 (by decide) (fun c_40 => ?_) (fun c_40 => ?_)
        · -- (S 3 1 0) = 0
          refine lv_iconst (v := i32 (1)) hx hb dL_draws_305 rfl ?_
          refine lv_goto (tgt := 310) hx hb dL_draws_306 (by decide) ?_
          subst hQm
          exact q_zret hx hb hr hlocks hP hS (v := 1) (by decide) (by exact ⟨⟨⟨rfl, (fun _ _ _ => rfl)⟩, hI, hV⟩, rfl⟩) (by show 3 ≤ 10; omega) (by show 18 ≤ 125; omega) dL_draws_310
        · -- (S 3 1 0) ≠ 0
          refine lv_aload_n hx hb dL_draws_273 rfl (lv_at hl 1 rfl) ?_
          refine lv_iload_n hx hb dL_draws_274 rfl (lv_at hl 4 rfl) ?_
          refine lv_iconst (v := i32 (2)) hx hb dL_draws_275 rfl ?_
          refine lv_ishr hx hb dL_draws_276 ?_
          obtain ⟨z41, rz41, hz41⟩ := i32_of (i32 (x) >>> (i32 (2) &&& 31))
          rw [hz41]
          refine lv_aload_n hx hb dL_draws_277 rfl (lv_at hl 2 rfl) ?_
          refine lv_iconst (v := i32 (0)) hx hb dL_draws_278 rfl ?_
          refine p_iald (k := 3) (r := 1) (n := 4) hx hb hK hP hI.a.2.2 rfl rfl (by decide) (by decide) (by omega) (by omega) dL_draws_279 ?_
          refine q_callS2 (As := [.int (i32 (z41)), .int (i32 (S 3 1 0))]) (rest := [.ref (ad 1 0)]) hx hb hml hl.1 hown hK hZ hP hS (c_L_low l g base ad S z41 (S 3 1 0) rz41 (by omega)) t_122 (q_callB hK 121 14 123 t_121 t_14 t_123 f_yL_low ⟨Nat.le_of_ble_eq_true rfl, Nat.le_of_ble_eq_true rfl⟩) rfl rfl (Nat.le_of_ble_eq_true rfl) dL_draws_280 (c2 := 3) (s2 := 18) ⟨by first | rfl | (dsimp only; omega), by first | rfl | (dsimp only; omega)⟩ ⟨by show 3 ≤ 10; omega, by show 18 ≤ 125; omega⟩ (q_an (fun H locs hP hS => ?_))
          obtain ⟨y42, hy42⟩ : ∃ y99 : Int, loF z41 (S 3 1 0) = y99 := ⟨_, rfl⟩
          have by42 := lo_b z41 (show 1 ≤ (S 3 1 0) by omega)
          rw [hy42] at by42
          refine q_nm hy42 ?_
          refine lv_iload hx hb dL_draws_283 (lv_at hl 5 rfl) ?_
          refine lv_bipush (v := i32 (6)) hx hb dL_draws_285 (by decide) ?_
          refine q_callS2 (As := [.int (i32 (y)), .int (i32 (6))]) (rest := [.int (i32 (y42)), .ref (ad 1 0)]) hx hb hml hl.1 hown hK hZ hP hS (c_L_low l g base ad S y ((6 : Int)) hrn2 (by omega)) t_122 (q_callB hK 121 14 123 t_121 t_14 t_123 f_yL_low ⟨Nat.le_of_ble_eq_true rfl, Nat.le_of_ble_eq_true rfl⟩) rfl rfl (Nat.le_of_ble_eq_true rfl) dL_draws_287 (c2 := 3) (s2 := 18) ⟨by first | rfl | (dsimp only; omega), by first | rfl | (dsimp only; omega)⟩ ⟨by show 3 ≤ 10; omega, by show 18 ≤ 125; omega⟩ (q_an (fun H locs hP hS => ?_))
          obtain ⟨y43, hy43⟩ : ∃ y99 : Int, loF y ((6 : Int)) = y99 := ⟨_, rfl⟩
          have by43 := lo_b y (show 1 ≤ ((6 : Int)) by omega)
          rw [hy43] at by43
          refine q_nm hy43 ?_
          refine lv_iload hx hb dL_draws_290 (lv_at hl 5 rfl) ?_
          refine lv_iconst (v := i32 (3)) hx hb dL_draws_292 rfl ?_
          refine lv_ishr hx hb dL_draws_293 ?_
          obtain ⟨z44, rz44, hz44⟩ := i32_of (i32 (y) >>> (i32 (3) &&& 31))
          rw [hz44]
          refine lv_bipush (v := i32 (6)) hx hb dL_draws_294 (by decide) ?_
          refine q_callS2 (As := [.int (i32 (z44)), .int (i32 (6))]) (rest := [.int (i32 (y43)), .int (i32 (y42)), .ref (ad 1 0)]) hx hb hml hl.1 hown hK hZ hP hS (c_L_low l g base ad S z44 ((6 : Int)) rz44 (by omega)) t_122 (q_callB hK 121 14 123 t_121 t_14 t_123 f_yL_low ⟨Nat.le_of_ble_eq_true rfl, Nat.le_of_ble_eq_true rfl⟩) rfl rfl (Nat.le_of_ble_eq_true rfl) dL_draws_296 (c2 := 3) (s2 := 18) ⟨by first | rfl | (dsimp only; omega), by first | rfl | (dsimp only; omega)⟩ ⟨by show 3 ≤ 10; omega, by show 18 ≤ 125; omega⟩ (q_an (fun H locs hP hS => ?_))
          obtain ⟨y45, hy45⟩ : ∃ y99 : Int, loF z44 ((6 : Int)) = y99 := ⟨_, rfl⟩
          have by45 := lo_b z44 (show 1 ≤ ((6 : Int)) by omega)
          rw [hy45] at by45
          refine q_nm hy45 ?_
          refine q_callH2 (As := [.ref (ad 1 0), .int (i32 (y42)), .int (i32 (y43)), .int (i32 (y45))]) (rest := []) hx hb hml hl.1 hown hK hZ hP hS (c_L_hatch l g base ad S y42 y43 y45 hfl hI.wc ⟨by omega, by omega⟩ ⟨by omega, by omega⟩ ⟨by omega, by omega⟩) t_428 t_14 t_430 t_429 f_yL_hatch ⟨Nat.le_of_ble_eq_true rfl, Nat.le_of_ble_eq_true rfl⟩ rfl rfl (Nat.le_of_ble_eq_true rfl) dL_draws_299 (c2 := 6) (s2 := 36) ⟨by first | rfl | (dsimp only; omega), by first | rfl | (dsimp only; omega)⟩ ⟨by show 6 ≤ 10; omega, by show 36 ≤ 125; omega⟩ (fun rr ad' S' H locs hQ hP hS => ?_)
          have hc9 : (ceC S y42 ∧ (0 ≤ y43 ∧ y43 < 6) ∧ (0 ≤ y45 ∧ y45 < 6)) ∧ (True) ∧ (True) := ⟨⟨hI.ce.mpr (by omega), by omega, by omega⟩, trivial, trivial⟩
          obtain ⟨⟨hr9, ek9⟩, hQ⟩ := hQ
          have hs9 := (hQ.resolve_left (fun y9 => y9.1 hc9)).2
          subst hr9
          rw [ek9] at hP
          rw [hs9] at hP
          refine q_nm (b := 0) ((lv_0 hc9.1 hc9.2.1 hc9.2.2).trans (rfl)) ?_
          generalize eS46 : st (st S (4 + y42.toNat) 0 3 y43) (4 + y42.toNat) 0 4 y45 = S46 at hP
          have rS46 : ∀ (a1 b1 : Nat) (i1 : Int), rng (S46 a1 b1 i1) := fun a1 b1 i1 => hP.rg a1 b1 i1
          have ivS46 : IV S46 := by rw [← eS46]; exact IV_hatch hI hc9.1.1 hc9.1.2.1 hc9.1.2.2
          have h3S46 : ∀ (b1 : Nat) (i1 : Int), S46 3 b1 i1 = S 3 b1 i1 := by rw [← eS46]; exact fun b i => by rw [st_at, if_neg (by omega), st_at, if_neg (by omega)]
          refine q_if_ne (tgt := 309) hx hb ⟨by decide, by decide⟩ dL_draws_302 (by decide) (fun h => by omega) (fun _ => ?_)
          refine lv_iconst (v := i32 (1)) hx hb dL_draws_305 rfl ?_
          refine lv_goto (tgt := 310) hx hb dL_draws_306 (by decide) ?_
          subst hQm
          exact q_zret hx hb hr hlocks hP hS (v := 1) (by decide) (by exact ⟨⟨⟨rfl, (fun _ _ _ => rfl)⟩, ivS46, LV_k hV hk5.2 (fun b i => by rw [← eS46, st_at, if_neg (by omega), st_at, if_neg (by omega)]) (by rw [← eS46, st_at, if_neg (by omega), st_at, if_neg (by omega)]) (by rw [← eS46, st_at, if_neg (by omega), st_at, if_neg (by omega)]) (by rw [← eS46, st_at, if_neg (by omega), st_at, if_neg (by omega)]) (fun j => by rw [← eS46, st_at, if_neg (by omega), st_at, if_neg (by omega)]) (fun a _ _ => ⟨by rw [← eS46, st_at, if_neg (by omega), st_at, if_neg (by omega)], by rw [← eS46, st_at, if_neg (by omega), st_at, if_neg (by omega)]⟩)⟩, by rw [h3S46]⟩) (by show 6 ≤ 10; omega) (by show 36 ≤ 125; omega) dL_draws_310
      · -- y1 < 3
        refine lv_aload_n hx hb dL_draws_71 rfl (lv_at hl 2 rfl) ?_
        refine lv_iconst (v := i32 (0)) hx hb dL_draws_72 rfl ?_
        refine p_iald (k := 3) (r := 1) (n := 4) hx hb hK hP hI.a.2.2 rfl rfl (by decide) (by decide) (by omega) (by omega) dL_draws_73 ?_
        refine q_if_le (tgt := 253) hx hb (rS _ _ _) dL_draws_74 (by decide) (fun c_47 => ?_) (fun c_47 => ?_)
        · -- (S 3 1 0) ≤ 0
          refine lv_aload_n hx hb dL_draws_253 rfl (lv_at hl 1 rfl) ?_
          refine lv_aload_n hx hb dL_draws_254 rfl (lv_at hl 2 rfl) ?_
          refine lv_iconst (v := i32 (0)) hx hb dL_draws_255 rfl ?_
          refine p_iald (k := 3) (r := 1) (n := 4) hx hb hK hP hI.a.2.2 rfl rfl (by decide) (by decide) (by omega) (by omega) dL_draws_256 ?_
          refine lv_iconst (v := i32 (0)) hx hb dL_draws_257 rfl ?_
          refine lv_iconst (v := i32 (0)) hx hb dL_draws_258 rfl ?_
          refine q_callH2 (As := [.ref (ad 1 0), .int (i32 (S 3 1 0)), .int (i32 (0)), .int (i32 (0))]) (rest := []) hx hb hml hl.1 hown hK hZ hP hS (c_L_hatch l g base ad S (S 3 1 0) ((0 : Int)) ((0 : Int)) hfl hI.wc (rS _ _ _) ⟨by decide, by decide⟩ ⟨by decide, by decide⟩) t_428 t_14 t_430 t_429 f_yL_hatch ⟨Nat.le_of_ble_eq_true rfl, Nat.le_of_ble_eq_true rfl⟩ rfl rfl (Nat.le_of_ble_eq_true rfl) dL_draws_259 (c2 := 3) (s2 := 18) ⟨by first | rfl | (dsimp only; omega), by first | rfl | (dsimp only; omega)⟩ ⟨by show 3 ≤ 10; omega, by show 18 ≤ 125; omega⟩ (fun rr ad' S' H locs hQ hP hS => ?_)
          obtain ⟨⟨hr9, ek9⟩, hQ⟩ := hQ
          have hc9_1 : ¬ (ceC S (S 3 1 0) ∧ (0 ≤ ((0 : Int)) ∧ ((0 : Int)) < 6) ∧ (0 ≤ ((0 : Int)) ∧ ((0 : Int)) < 6)) := fun y => by have := hI.ce.mp y.1; omega
          have hs9 := (hQ.resolve_right (fun y9 => hc9_1 y9.1.1)).2
          subst hr9
          rw [ek9] at hP
          rw [hs9] at hP
          refine q_nm (lv_1 hc9_1) ?_
          refine q_ldc (z := -1000001) hx hb hown hK t_248 rfl dL_draws_262 ?_
          refine q_icmp_ne (tgt := 309) hx hb ⟨by decide, by decide⟩ ⟨by decide, by decide⟩ dL_draws_264 (by decide) (fun c_48 => (by exfalso; omega)) (fun c_48 => ?_)
          refine lv_aload_n hx hb dL_draws_267 rfl (lv_at hl 2 rfl) ?_
          refine lv_iconst (v := i32 (0)) hx hb dL_draws_268 rfl ?_
          refine p_iald (k := 3) (r := 1) (n := 4) hx hb hK hP hI.a.2.2 rfl rfl (by decide) (by decide) (by omega) (by omega) dL_draws_269 ?_
          refine q_if_eq (tgt := 305) hx hb (rS _ _ _) dL_draws_270 (by decide) (fun c_49 => ?_) (fun c_49 => ?_)
          · -- (S 3 1 0) = 0
            refine lv_iconst (v := i32 (1)) hx hb dL_draws_305 rfl ?_
            refine lv_goto (tgt := 310) hx hb dL_draws_306 (by decide) ?_
            subst hQm
            exact q_zret hx hb hr hlocks hP hS (v := 1) (by decide) (by exact ⟨⟨⟨rfl, (fun _ _ _ => rfl)⟩, hI, hV⟩, rfl⟩) (by show 3 ≤ 10; omega) (by show 18 ≤ 125; omega) dL_draws_310
          · -- (S 3 1 0) ≠ 0
            refine lv_aload_n hx hb dL_draws_273 rfl (lv_at hl 1 rfl) ?_
            refine lv_iload_n hx hb dL_draws_274 rfl (lv_at hl 4 rfl) ?_
            refine lv_iconst (v := i32 (2)) hx hb dL_draws_275 rfl ?_
            refine lv_ishr hx hb dL_draws_276 ?_
            obtain ⟨z50, rz50, hz50⟩ := i32_of (i32 (x) >>> (i32 (2) &&& 31))
            rw [hz50]
            refine lv_aload_n hx hb dL_draws_277 rfl (lv_at hl 2 rfl) ?_
            refine lv_iconst (v := i32 (0)) hx hb dL_draws_278 rfl ?_
            refine p_iald (k := 3) (r := 1) (n := 4) hx hb hK hP hI.a.2.2 rfl rfl (by decide) (by decide) (by omega) (by omega) dL_draws_279 ?_
            refine q_callS2 (As := [.int (i32 (z50)), .int (i32 (S 3 1 0))]) (rest := [.ref (ad 1 0)]) hx hb hml hl.1 hown hK hZ hP hS (c_L_low l g base ad S z50 (S 3 1 0) rz50 (by omega)) t_122 (q_callB hK 121 14 123 t_121 t_14 t_123 f_yL_low ⟨Nat.le_of_ble_eq_true rfl, Nat.le_of_ble_eq_true rfl⟩) rfl rfl (Nat.le_of_ble_eq_true rfl) dL_draws_280 (c2 := 3) (s2 := 18) ⟨by first | rfl | (dsimp only; omega), by first | rfl | (dsimp only; omega)⟩ ⟨by show 3 ≤ 10; omega, by show 18 ≤ 125; omega⟩ (q_an (fun H locs hP hS => ?_))
            obtain ⟨y51, hy51⟩ : ∃ y99 : Int, loF z50 (S 3 1 0) = y99 := ⟨_, rfl⟩
            have by51 := lo_b z50 (show 1 ≤ (S 3 1 0) by omega)
            rw [hy51] at by51
            refine q_nm hy51 ?_
            refine lv_iload hx hb dL_draws_283 (lv_at hl 5 rfl) ?_
            refine lv_bipush (v := i32 (6)) hx hb dL_draws_285 (by decide) ?_
            refine q_callS2 (As := [.int (i32 (y)), .int (i32 (6))]) (rest := [.int (i32 (y51)), .ref (ad 1 0)]) hx hb hml hl.1 hown hK hZ hP hS (c_L_low l g base ad S y ((6 : Int)) hrn2 (by omega)) t_122 (q_callB hK 121 14 123 t_121 t_14 t_123 f_yL_low ⟨Nat.le_of_ble_eq_true rfl, Nat.le_of_ble_eq_true rfl⟩) rfl rfl (Nat.le_of_ble_eq_true rfl) dL_draws_287 (c2 := 3) (s2 := 18) ⟨by first | rfl | (dsimp only; omega), by first | rfl | (dsimp only; omega)⟩ ⟨by show 3 ≤ 10; omega, by show 18 ≤ 125; omega⟩ (q_an (fun H locs hP hS => ?_))
            obtain ⟨y52, hy52⟩ : ∃ y99 : Int, loF y ((6 : Int)) = y99 := ⟨_, rfl⟩
            have by52 := lo_b y (show 1 ≤ ((6 : Int)) by omega)
            rw [hy52] at by52
            refine q_nm hy52 ?_
            refine lv_iload hx hb dL_draws_290 (lv_at hl 5 rfl) ?_
            refine lv_iconst (v := i32 (3)) hx hb dL_draws_292 rfl ?_
            refine lv_ishr hx hb dL_draws_293 ?_
            obtain ⟨z53, rz53, hz53⟩ := i32_of (i32 (y) >>> (i32 (3) &&& 31))
            rw [hz53]
            refine lv_bipush (v := i32 (6)) hx hb dL_draws_294 (by decide) ?_
            refine q_callS2 (As := [.int (i32 (z53)), .int (i32 (6))]) (rest := [.int (i32 (y52)), .int (i32 (y51)), .ref (ad 1 0)]) hx hb hml hl.1 hown hK hZ hP hS (c_L_low l g base ad S z53 ((6 : Int)) rz53 (by omega)) t_122 (q_callB hK 121 14 123 t_121 t_14 t_123 f_yL_low ⟨Nat.le_of_ble_eq_true rfl, Nat.le_of_ble_eq_true rfl⟩) rfl rfl (Nat.le_of_ble_eq_true rfl) dL_draws_296 (c2 := 3) (s2 := 18) ⟨by first | rfl | (dsimp only; omega), by first | rfl | (dsimp only; omega)⟩ ⟨by show 3 ≤ 10; omega, by show 18 ≤ 125; omega⟩ (q_an (fun H locs hP hS => ?_))
            obtain ⟨y54, hy54⟩ : ∃ y99 : Int, loF z53 ((6 : Int)) = y99 := ⟨_, rfl⟩
            have by54 := lo_b z53 (show 1 ≤ ((6 : Int)) by omega)
            rw [hy54] at by54
            refine q_nm hy54 ?_
            refine q_callH2 (As := [.ref (ad 1 0), .int (i32 (y51)), .int (i32 (y52)), .int (i32 (y54))]) (rest := []) hx hb hml hl.1 hown hK hZ hP hS (c_L_hatch l g base ad S y51 y52 y54 hfl hI.wc ⟨by omega, by omega⟩ ⟨by omega, by omega⟩ ⟨by omega, by omega⟩) t_428 t_14 t_430 t_429 f_yL_hatch ⟨Nat.le_of_ble_eq_true rfl, Nat.le_of_ble_eq_true rfl⟩ rfl rfl (Nat.le_of_ble_eq_true rfl) dL_draws_299 (c2 := 6) (s2 := 36) ⟨by first | rfl | (dsimp only; omega), by first | rfl | (dsimp only; omega)⟩ ⟨by show 6 ≤ 10; omega, by show 36 ≤ 125; omega⟩ (fun rr ad' S' H locs hQ hP hS => ?_)
            have hc9 : (ceC S y51 ∧ (0 ≤ y52 ∧ y52 < 6) ∧ (0 ≤ y54 ∧ y54 < 6)) ∧ (True) ∧ (True) := ⟨⟨hI.ce.mpr (by omega), by omega, by omega⟩, trivial, trivial⟩
            obtain ⟨⟨hr9, ek9⟩, hQ⟩ := hQ
            have hs9 := (hQ.resolve_left (fun y9 => y9.1 hc9)).2
            subst hr9
            rw [ek9] at hP
            rw [hs9] at hP
            refine q_nm (b := 0) ((lv_0 hc9.1 hc9.2.1 hc9.2.2).trans (rfl)) ?_
            generalize eS55 : st (st S (4 + y51.toNat) 0 3 y52) (4 + y51.toNat) 0 4 y54 = S55 at hP
            have rS55 : ∀ (a1 b1 : Nat) (i1 : Int), rng (S55 a1 b1 i1) := fun a1 b1 i1 => hP.rg a1 b1 i1
            have ivS55 : IV S55 := by rw [← eS55]; exact IV_hatch hI hc9.1.1 hc9.1.2.1 hc9.1.2.2
            have h3S55 : ∀ (b1 : Nat) (i1 : Int), S55 3 b1 i1 = S 3 b1 i1 := by rw [← eS55]; exact fun b i => by rw [st_at, if_neg (by omega), st_at, if_neg (by omega)]
            refine q_if_ne (tgt := 309) hx hb ⟨by decide, by decide⟩ dL_draws_302 (by decide) (fun h => by omega) (fun _ => ?_)
            refine lv_iconst (v := i32 (1)) hx hb dL_draws_305 rfl ?_
            refine lv_goto (tgt := 310) hx hb dL_draws_306 (by decide) ?_
            subst hQm
            exact q_zret hx hb hr hlocks hP hS (v := 1) (by decide) (by exact ⟨⟨⟨rfl, (fun _ _ _ => rfl)⟩, ivS55, LV_k hV hk5.2 (fun b i => by rw [← eS55, st_at, if_neg (by omega), st_at, if_neg (by omega)]) (by rw [← eS55, st_at, if_neg (by omega), st_at, if_neg (by omega)]) (by rw [← eS55, st_at, if_neg (by omega), st_at, if_neg (by omega)]) (by rw [← eS55, st_at, if_neg (by omega), st_at, if_neg (by omega)]) (fun j => by rw [← eS55, st_at, if_neg (by omega), st_at, if_neg (by omega)]) (fun a _ _ => ⟨by rw [← eS55, st_at, if_neg (by omega), st_at, if_neg (by omega)], by rw [← eS55, st_at, if_neg (by omega), st_at, if_neg (by omega)]⟩)⟩, by rw [h3S55]⟩) (by show 6 ≤ 10; omega) (by show 36 ≤ 125; omega) dL_draws_310
        · -- 0 < (S 3 1 0)
          refine lv_iload_n hx hb dL_draws_77 rfl (lv_at hl 4 rfl) ?_
          refine lv_iconst (v := i32 (2)) hx hb dL_draws_78 rfl ?_
          refine lv_ishr hx hb dL_draws_79 ?_
          obtain ⟨z56, rz56, hz56⟩ := i32_of (i32 (x) >>> (i32 (2) &&& 31))
          rw [hz56]
          refine lv_aload_n hx hb dL_draws_80 rfl (lv_at hl 2 rfl) ?_
          refine lv_iconst (v := i32 (0)) hx hb dL_draws_81 rfl ?_
          refine p_iald (k := 3) (r := 1) (n := 4) hx hb hK hP hI.a.2.2 rfl rfl (by decide) (by decide) (by omega) (by omega) dL_draws_82 ?_
          refine q_callS2 (As := [.int (i32 (z56)), .int (i32 (S 3 1 0))]) (rest := []) hx hb hml hl.1 hown hK hZ hP hS (c_L_low l g base ad S z56 (S 3 1 0) rz56 (by omega)) t_122 (q_callB hK 121 14 123 t_121 t_14 t_123 f_yL_low ⟨Nat.le_of_ble_eq_true rfl, Nat.le_of_ble_eq_true rfl⟩) rfl rfl (Nat.le_of_ble_eq_true rfl) dL_draws_83 (c2 := 0) (s2 := 0) ⟨by first | rfl | (dsimp only; omega), by first | rfl | (dsimp only; omega)⟩ ⟨by show 0 ≤ 10; omega, by show 0 ≤ 125; omega⟩ (q_an (fun H locs hP hS => ?_))
          obtain ⟨y57, hy57⟩ : ∃ y99 : Int, loF z56 (S 3 1 0) = y99 := ⟨_, rfl⟩
          have by57 := lo_b z56 (show 1 ≤ (S 3 1 0) by omega)
          rw [hy57] at by57
          refine q_nm hy57 ?_
          refine lv_istore (lv' := [(6, .int (i32 (y57))), (5, .int (i32 (y1))), (0, .ref (ad 1 0)), (1, .ref (ad 3 1)), (2, .ref (ad 3 2)), (3, .int (i32 (x))), (4, .int (i32 (y)))]) hx hb dL_draws_86 hl (by decide) rfl (fun ls hl => ?_)
          have hits : 0 ≤ y57 ∧ y57 < S 1 0 3 := by omega
          obtain ⟨hd1, hd2, hd3⟩ := vd y57 hits.1 hits.2
          obtain ⟨-, hcw1, hcw2⟩ := (hI.k.2.2 y57 hits.1 hits.2).1
          refine lv_aload_n hx hb dL_draws_88 rfl (lv_at hl 2 rfl) ?_
          refine q_callV2 (k := 1) (As := []) (rest := []) hx hb hml hl.1 hown hK hZ hP hS hI.a.1 rfl rfl rfl (c_X3_empty l g base ad S  hI.wc) t_381 t_382 (q_callB hK 380 15 383 t_380 t_15 t_383 f_yX3_empty ⟨Nat.le_of_ble_eq_true rfl, Nat.le_of_ble_eq_true rfl⟩) rfl rfl (Nat.le_of_ble_eq_true rfl) dL_draws_89 (c2 := 0) (s2 := 0) ⟨by first | rfl | (dsimp only; omega), by first | rfl | (dsimp only; omega)⟩ ⟨by show 0 ≤ 10; omega, by show 0 ≤ 125; omega⟩ (q_an (fun H locs hP hS => ?_))
          generalize eS58 : st S 1 0 1 0 = S58 at hP
          have rS58 : ∀ (a1 b1 : Nat) (i1 : Int), rng (S58 a1 b1 i1) := fun a1 b1 i1 => hP.rg a1 b1 i1
          have ivS58 : IV S58 := by rw [← eS58]; exact IV_empty hI
          have h3S58 : ∀ (b1 : Nat) (i1 : Int), S58 3 b1 i1 = S 3 b1 i1 := by rw [← eS58]; exact fun b i => by rw [st_at, if_neg (by omega)]
          have fS58 : ∀ (a b : Nat) (i : Int), ¬ (a = 1 ∧ (b = 1 ∨ (b = 0 ∧ i = 1))) → S58 a b i = S a b i := fun a b i h => by rw [← eS58, st_at, if_neg (by omega)]
          refine q_if_lt (tgt := 99) hx hb (rS _ _ _) dL_draws_92 (by decide) (fun c_59 => (by exfalso; omega)) (fun c_59 => ?_)
          refine lv_iconst (v := i32 (1)) hx hb dL_draws_95 rfl ?_
          refine lv_goto (tgt := 100) hx hb dL_draws_96 (by decide) ?_
          refine lv_istore (lv' := [(7, .int (i32 (1))), (6, .int (i32 (y57))), (5, .int (i32 (y1))), (0, .ref (ad 1 0)), (1, .ref (ad 3 1)), (2, .ref (ad 3 2)), (3, .int (i32 (x))), (4, .int (i32 (y)))]) hx hb dL_draws_100 hl (by decide) rfl (fun ls hl => ?_)
          refine lv_iconst (v := i32 (0)) hx hb dL_draws_102 rfl ?_
          refine lv_istore (lv' := [(8, .int (i32 (0))), (7, .int (i32 (1))), (6, .int (i32 (y57))), (5, .int (i32 (y1))), (0, .ref (ad 1 0)), (1, .ref (ad 3 1)), (2, .ref (ad 3 2)), (3, .int (i32 (x))), (4, .int (i32 (y)))]) hx hb dL_draws_103 hl (by decide) rfl (fun ls hl => ?_)
          have L105 : ∀ (k : Nat) (kt : Int) (Sa : St) (cc105 sc105 : Nat) (H : Heap) (locs : List Loc) (ls : Array Slot), (IV Sa) → (∀ (a b : Nat) (i : Int), ¬ (a = 1 ∧ (b = 1 ∨ (b = 0 ∧ i = 1))) → Sa a b i = S a b i) → (Sa 1 0 1 = kt) → (0 ≤ kt ∧ kt ≤ S 3 2 (2 * y57)) → S 3 2 (2 * y57) - kt < (k : Int) → (cc105 + 1 * k ≤ 7 ∧ sc105 + 6 * k ≤ 42) → pic g base ad Sa H → va_S (fun q => base ≤ q) s.heap H locs → lv_has ls 9 [(8, .int (i32 (kt))), (7, .int (i32 (1))), (6, .int (i32 (y57))), (5, .int (i32 (y1))), (0, .ref (ad 1 0)), (1, .ref (ad 3 1)), (2, .ref (ad 3 2)), (3, .int (i32 (x))), (4, .int (i32 (y)))] → W p l e ({ frames := 9, cells := 10, slots := 125, locals := 160 } : Room) s m av below meth cz H locs cc105 sc105 Qm (F0 m 105 ls []) := by
            intro k
            induction k with
            | zero => intro kt Sa cc105 sc105 H locs ls zI zf zl zk hmu _ _ _ _; exact absurd hmu (by omega)
            | succ k ih105 =>
              intro kt Sa cc105 sc105 H locs ls zI zf zl zk hmu hcs105 hP hS hl
              have rSa : ∀ (a1 b1 : Nat) (i1 : Int), rng (Sa a1 b1 i1) := fun a1 b1 i1 => hP.rg a1 b1 i1
              refine lv_iload hx hb dL_draws_105 (lv_at hl 0 rfl) ?_
              refine lv_aload_n hx hb dL_draws_107 rfl (lv_at hl 6 rfl) ?_
              refine lv_iconst (v := i32 (2)) hx hb dL_draws_108 rfl ?_
              refine lv_iload hx hb dL_draws_109 (lv_at hl 2 rfl) ?_
              refine q_imul hx hb dL_draws_111 ?_
              refine p_iald (k := 3) (r := 2) (n := 10) hx hb hK hP zI.a.2.2 rfl rfl (by decide) (by decide) (by omega) (by omega) dL_draws_112 ?_
              refine q_nm (show Sa 3 2 (2 * y57) = S 3 2 (2 * y57) from by rw [zf _ _ _ (by omega)]) ?_
              refine q_icmp_ge (tgt := 160) hx hb ⟨by omega, by omega⟩ (rS _ _ _) dL_draws_113 (by decide) (fun c_60 => ?_) (fun c_60 => ?_)
              · -- (S 3 2 (2 * y57)) ≤ kt
                refine lv_aload_n hx hb dL_draws_160 rfl (lv_at hl 6 rfl) ?_
                refine lv_iconst (v := i32 (2)) hx hb dL_draws_161 rfl ?_
                refine lv_iload hx hb dL_draws_162 (lv_at hl 2 rfl) ?_
                refine q_imul hx hb dL_draws_164 ?_
                refine lv_iconst (v := i32 (1)) hx hb dL_draws_165 rfl ?_
                refine q_iadd hx hb dL_draws_166 ?_
                refine p_iald (k := 3) (r := 2) (n := 10) hx hb hK hP zI.a.2.2 rfl rfl (by decide) (by decide) (by omega) (by omega) dL_draws_167 ?_
                refine q_nm (show Sa 3 2 ((2 * y57) + 1) = S 3 2 ((2 * y57) + 1) from by rw [zf _ _ _ (by omega)]) ?_
                refine lv_bipush (v := i32 (10)) hx hb dL_draws_168 (by decide) ?_
                refine q_icmp_ne (tgt := 195) hx hb (rS _ _ _) ⟨by decide, by decide⟩ dL_draws_170 (by decide) (fun c_61 => ?_) (fun c_61 => ?_)
                · -- (S 3 2 ((2 * y57) + 1)) ≠ 10
                  refine lv_aload_n hx hb dL_draws_195 rfl (lv_at hl 6 rfl) ?_
                  refine lv_iconst (v := i32 (2)) hx hb dL_draws_196 rfl ?_
                  refine lv_iload hx hb dL_draws_197 (lv_at hl 2 rfl) ?_
                  refine q_imul hx hb dL_draws_199 ?_
                  refine lv_iconst (v := i32 (1)) hx hb dL_draws_200 rfl ?_
                  refine q_iadd hx hb dL_draws_201 ?_
                  refine lv_dup2_11 hx hb dL_draws_202 rfl rfl ?_
                  refine p_iald (k := 3) (r := 2) (n := 10) hx hb hK hP zI.a.2.2 rfl rfl (by decide) (by decide) (by omega) (by omega) dL_draws_203 ?_
                  refine q_nm (show Sa 3 2 ((2 * y57) + 1) = S 3 2 ((2 * y57) + 1) from by rw [zf _ _ _ (by omega)]) ?_
                  refine lv_iconst (v := i32 (1)) hx hb dL_draws_204 rfl ?_
                  refine q_iadd hx hb dL_draws_205 ?_
                  refine p_iast (k := 3) (r := 2) (n := 10) hx hb hK hP hS zI.a.2.2 rfl rfl (by decide) (by decide) (by omega) (by omega) ⟨by omega, by omega⟩ dL_draws_206 (fun H locs hP hS => ?_)
                  generalize eS62 : st Sa 3 2 ((2 * y57) + 1) ((S 3 2 ((2 * y57) + 1)) + 1) = S62 at hP
                  have qS62 : ∀ (a1 b1 : Nat) (i1 : Int), S62 a1 b1 i1 = if a1 = 3 ∧ b1 = 2 ∧ i1 = (2 * y57) + 1 then (S 3 2 ((2 * y57) + 1)) + 1 else Sa a1 b1 i1 := fun a1 b1 i1 => by rw [← eS62]; exact st_at _ _ _ _ _ _ _ _
                  have rS62 : ∀ (a1 b1 : Nat) (i1 : Int), rng (S62 a1 b1 i1) := fun a1 b1 i1 => hP.rg a1 b1 i1
                  have aS62_1 : S62 1 0 (-1) = 1 := by rw [qS62, if_neg (by omega)]; exact zI.a.1
                  have aS62_2 : S62 2 0 (-1) = 1 := by rw [qS62, if_neg (by omega)]; exact zI.a.2.1
                  have aS62_3 : S62 3 0 (-1) = 1 := by rw [qS62, if_neg (by omega)]; exact zI.a.2.2
                  have ivS62 : IV S62 := by rw [← eS62]; exact IV_3 zI (by decide)
                  refine lv_iload hx hb dL_draws_207 (lv_at hl 1 rfl) ?_
                  refine q_if_eq (tgt := 251) hx hb ⟨by decide, by decide⟩ dL_draws_209 (by decide) (fun h => by omega) (fun _ => ?_)
                  refine lv_aload_n hx hb dL_draws_212 rfl (lv_at hl 4 rfl) ?_
                  refine lv_iload hx hb dL_draws_213 (lv_at hl 2 rfl) ?_
                  refine q_callH2 (As := [.ref (ad 1 0), .int (i32 (y57))]) (rest := []) hx hb hml hl.1 hown hK hZ hP hS (c_L_row l g base ad S62 y57 hfl ivS62.wc ⟨by omega, by omega⟩) t_400 t_14 t_402 t_401 f_yL_row ⟨Nat.le_of_ble_eq_true rfl, Nat.le_of_ble_eq_true rfl⟩ rfl rfl (Nat.le_of_ble_eq_true rfl) dL_draws_215 (c2 := cc105 + 2) (s2 := sc105 + 12) ⟨by first | rfl | (dsimp only; omega), by first | rfl | (dsimp only; omega)⟩ ⟨by show cc105 + 2 ≤ 10; omega, by show sc105 + 12 ≤ 125; omega⟩ (fun rr ad' S' H locs hQ hP hS => ?_)
                  have hc9 : (ceC S62 y57) ∧ (S62 1 0 1 = S62 (4 + y57.toNat) 0 0 ∧ S62 (4 + y57.toNat) 0 1 < 10) ∧ (True) := ⟨ivS62.ce.mpr (by rw [qS62, if_neg (by omega), zf _ _ _ (by omega)]; omega), ⟨by rw [qS62, if_neg (by omega), qS62, if_neg (by omega), zl, zf _ _ _ (by omega), ← hd1]; omega, by rw [qS62, if_neg (by omega), zf _ _ _ (by omega), ← hd3]; omega⟩, trivial⟩
                  obtain ⟨⟨hr9, ek9⟩, hQ⟩ := hQ
                  have hs9 := (hQ.resolve_left (fun y9 => y9.1 hc9)).2
                  subst hr9
                  rw [ek9] at hP
                  rw [hs9] at hP
                  refine q_nm (b := S 3 2 (2 * y57 + 1) + 1) ((lv_0 hc9.1 hc9.2.1 hc9.2.2).trans (by rw [qS62, if_neg (by omega), zf _ _ _ (by omega), ← hd3])) ?_
                  generalize eS63 : st (st (adF S62 (4 + y57.toNat) (S62 (4 + y57.toNat) 0 0)) (4 + y57.toNat) 0 1 (S62 (4 + y57.toNat) 0 1 + 1)) 1 0 1 0 = S63 at hP
                  have rS63 : ∀ (a1 b1 : Nat) (i1 : Int), rng (S63 a1 b1 i1) := fun a1 b1 i1 => hP.rg a1 b1 i1
                  have ivS63 : IV S63 := by rw [← eS63]; exact IV_row ivS62 hc9.1 hc9.2.1
                  have h3S63 : ∀ (b1 : Nat) (i1 : Int), S63 3 b1 i1 = S62 3 b1 i1 := by rw [← eS63]; exact fun b i => ro_3 (by omega) b i
                  refine lv_aload_n hx hb dL_draws_218 rfl (lv_at hl 6 rfl) ?_
                  refine lv_iconst (v := i32 (2)) hx hb dL_draws_219 rfl ?_
                  refine lv_iload hx hb dL_draws_220 (lv_at hl 2 rfl) ?_
                  refine q_imul hx hb dL_draws_222 ?_
                  refine lv_iconst (v := i32 (1)) hx hb dL_draws_223 rfl ?_
                  refine q_iadd hx hb dL_draws_224 ?_
                  refine p_iald (k := 3) (r := 2) (n := 10) hx hb hK hP ivS63.a.2.2 rfl rfl (by decide) (by decide) (by omega) (by omega) dL_draws_225 ?_
                  refine q_nm (show S63 3 2 ((2 * y57) + 1) = (S 3 2 ((2 * y57) + 1)) + 1 from by rw [h3S63, qS62, if_pos ⟨rfl, rfl, rfl⟩]) ?_
                  refine q_icmp_ne (tgt := 251) hx hb ⟨by omega, by omega⟩ ⟨by omega, by omega⟩ dL_draws_226 (by decide) (fun c_64 => (by exfalso; omega)) (fun c_64 => ?_)
                  refine lv_aload_n hx hb dL_draws_229 rfl (lv_at hl 4 rfl) ?_
                  refine lv_iload hx hb dL_draws_230 (lv_at hl 2 rfl) ?_
                  refine q_callH2 (As := [.ref (ad 1 0), .int (i32 (y57))]) (rest := []) hx hb hml hl.1 hown hK hZ hP hS (c_L_row l g base ad S63 y57 hfl ivS63.wc ⟨by omega, by omega⟩) t_400 t_14 t_402 t_401 f_yL_row ⟨Nat.le_of_ble_eq_true rfl, Nat.le_of_ble_eq_true rfl⟩ rfl rfl (Nat.le_of_ble_eq_true rfl) dL_draws_232 (c2 := cc105 + 4) (s2 := sc105 + 24) ⟨by first | rfl | (dsimp only; omega), by first | rfl | (dsimp only; omega)⟩ ⟨by show cc105 + 4 ≤ 10; omega, by show sc105 + 24 ≤ 125; omega⟩ (fun rr ad' S' H locs hQ hP hS => ?_)
                  obtain ⟨⟨hr9, ek9⟩, hQ⟩ := hQ
                  have hc9_1 : ceC S63 y57 := ivS63.ce.mpr (by rw [← eS63, st_at, if_neg (by omega), st_at, if_neg (by omega), adF_o (by decide), qS62, if_neg (by omega), zf _ _ _ (by omega)]; omega)
                  have hc9_2 : ¬ (S63 1 0 1 = S63 (4 + y57.toNat) 0 0 ∧ S63 (4 + y57.toNat) 0 1 < 10) := fun y => by have h1 := y.1; have h2 := (ivS63.k.2.2 y57 (by omega) (by rw [← eS63, st_at, if_neg (by omega), st_at, if_neg (by omega), adF_o (by decide), qS62, if_neg (by omega), zf _ _ _ (by omega)]; omega)).1.2.1; rw [← h1, ← eS63, st_at, if_pos ⟨rfl, rfl, rfl⟩] at h2; omega
                  have hs9 := (hQ.resolve_right (fun y9 => hc9_2 y9.1.2.1)).2
                  subst hr9
                  rw [ek9] at hP
                  rw [hs9] at hP
                  refine q_nm (lv_2 hc9_1 hc9_2) ?_
                  refine q_ldc (z := -1000003) hx hb hown hK t_250 rfl dL_draws_235 ?_
                  refine q_icmp_ne (tgt := 251) hx hb ⟨by decide, by decide⟩ ⟨by decide, by decide⟩ dL_draws_237 (by decide) (fun c_65 => (by exfalso; omega)) (fun c_65 => ?_)
                  refine lv_aload_n hx hb dL_draws_240 rfl (lv_at hl 4 rfl) ?_
                  refine q_callV2 (k := 1) (As := []) (rest := []) hx hb hml hl.1 hown hK hZ hP hS ivS63.a.1 rfl rfl rfl (c_X3_empty l g base ad S63  ivS63.wc) t_381 t_382 (q_callB hK 380 15 383 t_380 t_15 t_383 f_yX3_empty ⟨Nat.le_of_ble_eq_true rfl, Nat.le_of_ble_eq_true rfl⟩) rfl rfl (Nat.le_of_ble_eq_true rfl) dL_draws_241 (c2 := cc105 + 4) (s2 := sc105 + 24) ⟨by first | rfl | (dsimp only; omega), by first | rfl | (dsimp only; omega)⟩ ⟨by show cc105 + 4 ≤ 10; omega, by show sc105 + 24 ≤ 125; omega⟩ (q_an (fun H locs hP hS => ?_))
                  generalize eS66 : st S63 1 0 1 0 = S66 at hP
                  have rS66 : ∀ (a1 b1 : Nat) (i1 : Int), rng (S66 a1 b1 i1) := fun a1 b1 i1 => hP.rg a1 b1 i1
                  have ivS66 : IV S66 := by rw [← eS66]; exact IV_empty ivS63
                  have h3S66 : ∀ (b1 : Nat) (i1 : Int), S66 3 b1 i1 = S63 3 b1 i1 := by rw [← eS66]; exact fun b i => by rw [st_at, if_neg (by omega)]
                  have fS66 : ∀ (a b : Nat) (i : Int), ¬ (a = 1 ∧ (b = 1 ∨ (b = 0 ∧ i = 1))) → S66 a b i = S63 a b i := fun a b i h => by rw [← eS66, st_at, if_neg (by omega)]
                  refine q_nm (b := 0) (by rw [← eS63, st_at, if_pos ⟨rfl, rfl, rfl⟩]) ?_
                  refine q_if_ne (tgt := 251) hx hb ⟨by decide, by decide⟩ dL_draws_244 (by decide) (fun h => by omega) (fun _ => ?_)
                  refine lv_iconst (v := i32 (1)) hx hb dL_draws_247 rfl ?_
                  refine lv_goto (tgt := 252) hx hb dL_draws_248 (by decide) ?_
                  subst hQm
                  exact q_zret hx hb hr hlocks hP hS (v := 1) (by decide) (by exact ⟨⟨⟨rfl, (fun _ _ _ => rfl)⟩, ivS66, by rw [← eS66, ← eS63]; exact LV_row hI hV hits zf eS62⟩, by rw [h3S66, h3S63, qS62, if_neg (by omega), zf _ _ _ (by omega)]⟩) (by show cc105 + 4 ≤ 10; omega) (by show sc105 + 24 ≤ 125; omega) dL_draws_252
                · -- (S 3 2 ((2 * y57) + 1)) = 10
                  refine lv_iload hx hb dL_draws_173 (lv_at hl 1 rfl) ?_
                  refine q_if_eq (tgt := 193) hx hb ⟨by decide, by decide⟩ dL_draws_175 (by decide) (fun h => by omega) (fun _ => ?_)
                  refine lv_aload_n hx hb dL_draws_178 rfl (lv_at hl 4 rfl) ?_
                  refine lv_iload hx hb dL_draws_179 (lv_at hl 2 rfl) ?_
                  refine q_callH2 (As := [.ref (ad 1 0), .int (i32 (y57))]) (rest := []) hx hb hml hl.1 hown hK hZ hP hS (c_L_row l g base ad Sa y57 hfl zI.wc ⟨by omega, by omega⟩) t_400 t_14 t_402 t_401 f_yL_row ⟨Nat.le_of_ble_eq_true rfl, Nat.le_of_ble_eq_true rfl⟩ rfl rfl (Nat.le_of_ble_eq_true rfl) dL_draws_181 (c2 := cc105 + 2) (s2 := sc105 + 12) ⟨by first | rfl | (dsimp only; omega), by first | rfl | (dsimp only; omega)⟩ ⟨by show cc105 + 2 ≤ 10; omega, by show sc105 + 12 ≤ 125; omega⟩ (fun rr ad' S' H locs hQ hP hS => ?_)
                  obtain ⟨⟨hr9, ek9⟩, hQ⟩ := hQ
                  have hc9_1 : ceC Sa y57 := zI.ce.mpr (by rw [zf _ _ _ (by omega)]; omega)
                  have hc9_2 : ¬ (Sa 1 0 1 = Sa (4 + y57.toNat) 0 0 ∧ Sa (4 + y57.toNat) 0 1 < 10) := fun y => by have := y.2; rw [zf _ _ _ (by omega), ← hd3] at this; omega
                  have hs9 := (hQ.resolve_right (fun y9 => hc9_2 y9.1.2.1)).2
                  subst hr9
                  rw [ek9] at hP
                  rw [hs9] at hP
                  refine q_nm (lv_2 hc9_1 hc9_2) ?_
                  refine q_ldc (z := -1000003) hx hb hown hK t_250 rfl dL_draws_184 ?_
                  refine q_icmp_ne (tgt := 193) hx hb ⟨by decide, by decide⟩ ⟨by decide, by decide⟩ dL_draws_186 (by decide) (fun c_67 => (by exfalso; omega)) (fun c_67 => ?_)
                  refine lv_iconst (v := i32 (1)) hx hb dL_draws_189 rfl ?_
                  refine lv_goto (tgt := 194) hx hb dL_draws_190 (by decide) ?_
                  subst hQm
                  exact q_zret hx hb hr hlocks hP hS (v := 1) (by decide) (by exact ⟨⟨⟨rfl, (fun _ _ _ => rfl)⟩, zI, LV_k hV hk5.2 (fun b i => zf _ _ _ (by omega)) (zf _ _ _ (by omega)) (zf _ _ _ (by omega)) (zf _ _ _ (by omega)) (fun j => zf _ _ _ (by omega)) (fun a _ _ => ⟨zf _ _ _ (by omega), zf _ _ _ (by omega)⟩)⟩, by rw [zf _ _ _ (by omega)]⟩) (by show cc105 + 2 ≤ 10; omega) (by show sc105 + 12 ≤ 125; omega) dL_draws_194
              · -- kt < (S 3 2 (2 * y57))
                refine lv_iload hx hb dL_draws_116 (lv_at hl 1 rfl) ?_
                refine q_if_eq (tgt := 151) hx hb ⟨by decide, by decide⟩ dL_draws_118 (by decide) (fun h => by omega) (fun _ => ?_)
                refine lv_aload_n hx hb dL_draws_121 rfl (lv_at hl 4 rfl) ?_
                refine lv_iload hx hb dL_draws_122 (lv_at hl 8 rfl) ?_
                refine lv_iconst (v := i32 (3)) hx hb dL_draws_124 rfl ?_
                refine lv_iload hx hb dL_draws_125 (lv_at hl 0 rfl) ?_
                refine q_imul hx hb dL_draws_127 ?_
                refine lv_ishr hx hb dL_draws_128 ?_
                obtain ⟨z68, rz68, hz68⟩ := i32_of (i32 (y) >>> (i32 (3 * kt) &&& 31))
                rw [hz68]
                refine lv_bipush (v := i32 (7)) hx hb dL_draws_129 (by decide) ?_
                refine q_callS2 (As := [.int (i32 (z68)), .int (i32 (7))]) (rest := [.ref (ad 1 0)]) hx hb hml hl.1 hown hK hZ hP hS (c_L_low l g base ad Sa z68 ((7 : Int)) rz68 (by omega)) t_122 (q_callB hK 121 14 123 t_121 t_14 t_123 f_yL_low ⟨Nat.le_of_ble_eq_true rfl, Nat.le_of_ble_eq_true rfl⟩) rfl rfl (Nat.le_of_ble_eq_true rfl) dL_draws_131 (c2 := cc105 + 0) (s2 := sc105 + 0) ⟨by first | rfl | (dsimp only; omega), by first | rfl | (dsimp only; omega)⟩ ⟨by show cc105 + 0 ≤ 10; omega, by show sc105 + 0 ≤ 125; omega⟩ (q_an (fun H locs hP hS => ?_))
                obtain ⟨y69, hy69⟩ : ∃ y99 : Int, loF z68 ((7 : Int)) = y99 := ⟨_, rfl⟩
                have by69 := lo_b z68 (show 1 ≤ ((7 : Int)) by omega)
                rw [hy69] at by69
                refine q_nm hy69 ?_
                refine q_callS2 (As := [.int (i32 (y69))]) (rest := [.ref (ad 1 0)]) hx hb hml hl.1 hown hK hZ hP hS (c_L_letter l g base ad Sa y69 ⟨by omega, by omega⟩) t_385 (q_callB hK 384 14 386 t_384 t_14 t_386 f_yL_letter ⟨Nat.le_of_ble_eq_true rfl, Nat.le_of_ble_eq_true rfl⟩) rfl rfl (Nat.le_of_ble_eq_true rfl) dL_draws_134 (c2 := cc105 + 0) (s2 := sc105 + 0) ⟨by first | rfl | (dsimp only; omega), by first | rfl | (dsimp only; omega)⟩ ⟨by show cc105 + 0 ≤ 10; omega, by show sc105 + 0 ≤ 125; omega⟩ (q_an (fun H locs hP hS => ?_))
                refine q_callH2 (As := [.ref (ad 1 0), .int (i32 (leF y69))]) (rest := []) hx hb hml hl.1 hown hK hZ hP hS (c_L_type l g base ad Sa (leF y69) hfl zI.wc (le_r _)) t_387 t_14 t_389 t_388 f_yL_type ⟨Nat.le_of_ble_eq_true rfl, Nat.le_of_ble_eq_true rfl⟩ rfl rfl (Nat.le_of_ble_eq_true rfl) dL_draws_137 (c2 := cc105 + 1) (s2 := sc105 + 6) ⟨by first | rfl | (dsimp only; omega), by first | rfl | (dsimp only; omega)⟩ ⟨by show cc105 + 1 ≤ 10; omega, by show sc105 + 6 ≤ 125; omega⟩ (fun rr ad' S' H locs hQ hP hS => ?_)
                have hc9 : (sg (leF y69) ≠ -1) ∧ (Sa 1 0 1 < 12) ∧ (True) := ⟨le_sg _, by omega, trivial⟩
                obtain ⟨⟨hr9, ek9⟩, hQ⟩ := hQ
                have hs9 := (hQ.resolve_left (fun y9 => y9.1 hc9)).2
                subst hr9
                rw [ek9] at hP
                rw [hs9] at hP
                refine q_nm (b := kt + 1) ((lv_0 hc9.1 hc9.2.1 hc9.2.2).trans (by rw [zl])) ?_
                generalize eS70 : st (st Sa 1 1 (Sa 1 0 1) (sg (leF y69))) 1 0 1 (Sa 1 0 1 + 1) = S70 at hP
                have rS70 : ∀ (a1 b1 : Nat) (i1 : Int), rng (S70 a1 b1 i1) := fun a1 b1 i1 => hP.rg a1 b1 i1
                have ivS70 : IV S70 := by rw [← eS70]; exact IV_type zI (le_sg _) hc9.2.1
                have h3S70 : ∀ (b1 : Nat) (i1 : Int), S70 3 b1 i1 = Sa 3 b1 i1 := by rw [← eS70]; exact fun b i => by rw [st_at, if_neg (by omega), st_at, if_neg (by omega)]
                refine lv_iload hx hb dL_draws_140 (lv_at hl 0 rfl) ?_
                refine lv_iconst (v := i32 (1)) hx hb dL_draws_142 rfl ?_
                refine q_iadd hx hb dL_draws_143 ?_
                refine q_icmp_ne (tgt := 151) hx hb ⟨by omega, by omega⟩ ⟨by omega, by omega⟩ dL_draws_144 (by decide) (fun c_71 => (by exfalso; omega)) (fun c_71 => ?_)
                refine lv_iconst (v := i32 (1)) hx hb dL_draws_147 rfl ?_
                refine lv_goto (tgt := 152) hx hb dL_draws_148 (by decide) ?_
                refine lv_istore (lv' := [(7, .int (i32 (1))), (8, .int (i32 (kt))), (6, .int (i32 (y57))), (5, .int (i32 (y1))), (0, .ref (ad 1 0)), (1, .ref (ad 3 1)), (2, .ref (ad 3 2)), (3, .int (i32 (x))), (4, .int (i32 (y)))]) hx hb dL_draws_152 hl (by decide) rfl (fun ls hl => ?_)
                refine lv_iinc (v := i32 (kt + 1)) (lv' := [(8, .int (i32 (kt + 1))), (7, .int (i32 (1))), (6, .int (i32 (y57))), (5, .int (i32 (y1))), (0, .ref (ad 1 0)), (1, .ref (ad 3 1)), (2, .ref (ad 3 2)), (3, .int (i32 (x))), (4, .int (i32 (y)))]) hx hb dL_draws_154 hl (k := 1) rfl (i32_add _ _) (by decide) rfl (fun ls hl => ?_)
                refine lv_goto (tgt := 105) hx hb dL_draws_157 (by decide) ?_
                exact ih105 (kt + 1) S70 (cc105 + 1) (sc105 + 6) _ _ _ (by exact ivS70) (by exact fun a b i h => by rw [← eS70, st_at, if_neg (by omega), st_at, if_neg (by omega)]; exact zf a b i h) (by rw [← eS70, st_at, if_pos ⟨rfl, rfl, rfl⟩, zl]) (by omega) (by omega) (by omega) hP hS (lv_sub hl [0, 1, 2, 3, 4, 5, 6, 7, 8] rfl)
          exact L105 ((S 3 2 (2 * y57) - 0) + 1).toNat 0 S58 0 0 _ _ _ (by exact ivS58) (by exact fS58) (by rw [← eS58, st_at, if_pos ⟨rfl, rfl, rfl⟩]) (by omega) (by omega) (by omega) hP hS (lv_sub hl [0, 1, 2, 3, 4, 5, 6, 7, 8] rfl)
    · -- (S 3 1 0) < 5
      refine lv_iconst (v := i32 (2)) hx hb dL_draws_19 rfl ?_
      refine lv_iload hx hb dL_draws_20 (lv_at hl 5 rfl) ?_
      refine lv_iconst (v := i32 (5)) hx hb dL_draws_22 rfl ?_
      refine q_callS2 (As := [.int (i32 (y)), .int (i32 (5))]) (rest := [.int (i32 (2))]) hx hb hml hl.1 hown hK hZ hP hS (c_L_low l g base ad S y ((5 : Int)) hrn2 (by omega)) t_122 (q_callB hK 121 14 123 t_121 t_14 t_123 f_yL_low ⟨Nat.le_of_ble_eq_true rfl, Nat.le_of_ble_eq_true rfl⟩) rfl rfl (Nat.le_of_ble_eq_true rfl) dL_draws_23 (c2 := 0) (s2 := 0) ⟨by first | rfl | (dsimp only; omega), by first | rfl | (dsimp only; omega)⟩ ⟨by show 0 ≤ 10; omega, by show 0 ≤ 125; omega⟩ (q_an (fun H locs hP hS => ?_))
      obtain ⟨y72, hy72⟩ : ∃ y99 : Int, loF y ((5 : Int)) = y99 := ⟨_, rfl⟩
      have by72 := lo_b y (show 1 ≤ ((5 : Int)) by omega)
      rw [hy72] at by72
      refine q_nm hy72 ?_
      refine q_iadd hx hb dL_draws_26 ?_
      refine lv_istore (lv' := [(6, .int (i32 (2 + y72))), (5, .int (i32 (y1))), (0, .ref (ad 1 0)), (1, .ref (ad 3 1)), (2, .ref (ad 3 2)), (3, .int (i32 (x))), (4, .int (i32 (y)))]) hx hb dL_draws_27 hl (by decide) rfl (fun ls hl => ?_)
      refine lv_aload_n hx hb dL_draws_29 rfl (lv_at hl 4 rfl) ?_
      refine lv_iconst (v := i32 (2)) hx hb dL_draws_30 rfl ?_
      refine lv_aload_n hx hb dL_draws_31 rfl (lv_at hl 3 rfl) ?_
      refine lv_iconst (v := i32 (0)) hx hb dL_draws_32 rfl ?_
      refine p_iald (k := 3) (r := 1) (n := 4) hx hb hK hP hI.a.2.2 rfl rfl (by decide) (by decide) (by omega) (by omega) dL_draws_33 ?_
      refine q_imul hx hb dL_draws_34 ?_
      refine lv_iload hx hb dL_draws_35 (lv_at hl 0 rfl) ?_
      refine p_iast (k := 3) (r := 2) (n := 10) hx hb hK hP hS hI.a.2.2 rfl rfl (by decide) (by decide) (by omega) (by omega) ⟨by omega, by omega⟩ dL_draws_37 (fun H locs hP hS => ?_)
      generalize eS73 : st S 3 2 (2 * (S 3 1 0)) (2 + y72) = S73 at hP
      have qS73 : ∀ (a1 b1 : Nat) (i1 : Int), S73 a1 b1 i1 = if a1 = 3 ∧ b1 = 2 ∧ i1 = 2 * (S 3 1 0) then 2 + y72 else S a1 b1 i1 := fun a1 b1 i1 => by rw [← eS73]; exact st_at _ _ _ _ _ _ _ _
      have rS73 : ∀ (a1 b1 : Nat) (i1 : Int), rng (S73 a1 b1 i1) := fun a1 b1 i1 => hP.rg a1 b1 i1
      have aS73_1 : S73 1 0 (-1) = 1 := by rw [qS73, if_neg (by omega)]; exact hI.a.1
      have aS73_2 : S73 2 0 (-1) = 1 := by rw [qS73, if_neg (by omega)]; exact hI.a.2.1
      have aS73_3 : S73 3 0 (-1) = 1 := by rw [qS73, if_neg (by omega)]; exact hI.a.2.2
      have ivS73 : IV S73 := by rw [← eS73]; exact IV_3 hI (by decide)
      refine lv_aload_n hx hb dL_draws_38 rfl (lv_at hl 3 rfl) ?_
      refine lv_iconst (v := i32 (0)) hx hb dL_draws_39 rfl ?_
      refine lv_dup2_11 hx hb dL_draws_40 rfl rfl ?_
      refine p_iald (k := 3) (r := 1) (n := 4) hx hb hK hP aS73_3 rfl rfl (by decide) (by decide) (by omega) (by omega) dL_draws_41 ?_
      refine q_nm (show S73 3 1 0 = S 3 1 0 from by rw [qS73, if_neg (by omega)]) ?_
      refine lv_iconst (v := i32 (1)) hx hb dL_draws_42 rfl ?_
      refine q_iadd hx hb dL_draws_43 ?_
      refine p_iast (k := 3) (r := 1) (n := 4) hx hb hK hP hS aS73_3 rfl rfl (by decide) (by decide) (by omega) (by omega) ⟨by omega, by omega⟩ dL_draws_44 (fun H locs hP hS => ?_)
      generalize eS74 : st S73 3 1 0 ((S 3 1 0) + 1) = S74 at hP
      have qS74 : ∀ (a1 b1 : Nat) (i1 : Int), S74 a1 b1 i1 = if a1 = 3 ∧ b1 = 1 ∧ i1 = 0 then (S 3 1 0) + 1 else S73 a1 b1 i1 := fun a1 b1 i1 => by rw [← eS74]; exact st_at _ _ _ _ _ _ _ _
      have rS74 : ∀ (a1 b1 : Nat) (i1 : Int), rng (S74 a1 b1 i1) := fun a1 b1 i1 => hP.rg a1 b1 i1
      have aS74_1 : S74 1 0 (-1) = 1 := by rw [qS74, if_neg (by omega)]; exact aS73_1
      have aS74_2 : S74 2 0 (-1) = 1 := by rw [qS74, if_neg (by omega)]; exact aS73_2
      have aS74_3 : S74 3 0 (-1) = 1 := by rw [qS74, if_neg (by omega)]; exact aS73_3
      have ivS74 : IV S74 := by rw [← eS74]; exact IV_3 ivS73 (by decide)
      refine lv_aload_n hx hb dL_draws_45 rfl (lv_at hl 2 rfl) ?_
      refine lv_iload hx hb dL_draws_46 (lv_at hl 0 rfl) ?_
      refine q_callH2 (As := [.ref (ad 1 0), .int (i32 (2 + y72))]) (rest := []) hx hb hml hl.1 hown hK hZ hP hS (c_L_cartoon l g base ad S74 (2 + y72) hfl ivS74.wc ⟨by omega, by omega⟩ ivS74.hcf ivS74.hpf) t_350 t_14 t_352 t_351 f_yL_cartoon ⟨Nat.le_of_ble_eq_true rfl, Nat.le_of_ble_eq_true rfl⟩ rfl rfl (Nat.le_of_ble_eq_true rfl) dL_draws_48 (c2 := 2) (s2 := 125) ⟨by first | rfl | (dsimp only; omega), by first | rfl | (dsimp only; omega)⟩ ⟨by show 2 ≤ 10; omega, by show 125 ≤ 125; omega⟩ (fun rr ad' S' H locs hQ hP hS => ?_)
      have hc9 : (2 ≤ (2 + y72) ∧ (2 + y72) ≤ 12) ∧ (S74 1 0 3 < 5) ∧ (True) := ⟨by omega, by rw [qS74, if_neg (by omega), qS73, if_neg (by omega)]; omega, trivial⟩
      obtain ⟨⟨hr9, ek9⟩, hQ⟩ := hQ
      have hs9 := (hQ.resolve_left (fun y9 => y9.1 hc9)).2
      subst hr9
      rw [hs9] at hP
      refine q_nm (b := S 3 1 0) ((lv_0 hc9.1 hc9.2.1 hc9.2.2).trans (by rw [qS74, if_neg (by omega), qS73, if_neg (by omega), v0])) ?_
      obtain ⟨ad75, had75⟩ : ∃ a9 : Nat → Nat → Nat, a9 = ad' := ⟨_, rfl⟩
      rw [← had75] at ek9 hP
      have ek_ad75 : ∀ x q, x < 4 → ad75 x q = ad x q := fun x q h => (ek9 x q h)
      have el_ad75 : ∀ x q, x < 4 → ad75 x q = ad x q := ek9
      have hl : lv_has ls 9 [(6, .int (i32 (2 + y72))), (5, .int (i32 (y1))), (0, .ref (ad75 1 0)), (1, .ref (ad75 3 1)), (2, .ref (ad75 3 2)), (3, .int (i32 (x))), (4, .int (i32 (y)))] := by
        have t9 := hl
        rw [← el_ad75 1 0 (by decide), ← el_ad75 3 1 (by decide), ← el_ad75 3 2 (by decide)] at t9
        exact t9
      skip
      generalize eS76 : ctS S74 (2 + y72) = S76 at hP
      have rS76 : ∀ (a1 b1 : Nat) (i1 : Int), rng (S76 a1 b1 i1) := fun a1 b1 i1 => hP.rg a1 b1 i1
      have ivS76 : IV S76 := by rw [← eS76]; exact IV_cartoon ivS74 hc9.1 hc9.2.1
      have h3S76 : ∀ (b1 : Nat) (i1 : Int), S76 3 b1 i1 = S74 3 b1 i1 := by rw [← eS76]; exact fun b i => ct_3 b i
      refine lv_aload_n hx hb dL_draws_51 rfl (lv_at hl 3 rfl) ?_
      refine lv_iconst (v := i32 (0)) hx hb dL_draws_52 rfl ?_
      refine p_iald (k := 3) (r := 1) (n := 4) hx hb hK hP ivS76.a.2.2 rfl rfl (by decide) (by decide) (by omega) (by omega) dL_draws_53 ?_
      refine q_nm (show S76 3 1 0 = (S 3 1 0) + 1 from by rw [h3S76, qS74, if_pos ⟨rfl, rfl, rfl⟩]) ?_
      refine lv_iconst (v := i32 (1)) hx hb dL_draws_54 rfl ?_
      refine q_isub hx hb dL_draws_55 ?_
      refine q_icmp_ne (tgt := 63) hx hb (rS _ _ _) ⟨by omega, by omega⟩ dL_draws_56 (by decide) (fun c_77 => (by exfalso; omega)) (fun c_77 => ?_)
      refine lv_iconst (v := i32 (1)) hx hb dL_draws_59 rfl ?_
      refine lv_goto (tgt := 64) hx hb dL_draws_60 (by decide) ?_
      subst hQm
      exact q_zret hx hb hr hlocks hP hS (v := 1) (by decide) (by exact ⟨⟨⟨rfl, ek_ad75⟩, ivS76, by rw [← eS76, ← eS74, ← eS73]; exact LV_cartoon hI hV (by omega) (by omega)⟩, by rw [h3S76, qS74, if_neg (by omega), qS73, if_neg (by omega)]⟩) (by show 2 ≤ 10; omega) (by show 125 ≤ 125; omega) dL_draws_64
