/-! ===== two pieces joined ===== -/
theorem jn_sum {S : St} {o n : Nat} {z : Int} (hno : n ≠ o) (hn1 : o ≠ 1) (hW : 1 ≤ S o 0 0 ∧ 1 ≤ S n 0 0 ∧ S o 0 0 + S n 0 0 ≤ 24) (b : Nat) (hb : col3 b) (hh : S o 0 1 = S n 0 1) (F : Int → Int) :
    ss (fun r c => F (jnS S o n z o b (r * 24 + c))) (S o 0 0 + S n 0 0) (S o 0 1) = ss (fun r c => F (S o b (r * 24 + c))) (S o 0 0) (S o 0 1) + ss (fun r c => F (S n b (r * 24 + c))) (S n 0 0) (S n 0 1) := by
  rw [ss_cut _ (S o 0 1) (show 0 ≤ S o 0 0 by omega) (show S o 0 0 ≤ S o 0 0 + S n 0 0 by omega), show S o 0 0 + S n 0 0 - S o 0 0 = S n 0 0 by omega, ← hh]
  rw [ss_c (F := fun r c => F (jnS S o n z o b (r * 24 + c))) (G := fun r c => F (S o b (r * 24 + c))) (fun r c r0 r1 c0 c1 => by
    show F (jnS S o n z o b _) = F (S o b _)
    unfold jnS
    rw [st_at, if_neg (by omega), ap_ol hb c0 c1 (by omega)])]
  rw [ss_c (F := fun r c => F (jnS S o n z o b (r * 24 + (S o 0 0 + c)))) (G := fun r c => F (S n b (r * 24 + c))) (fun r c r0 r1 c0 c1 => by
    show F (jnS S o n z o b _) = F (S n b _)
    unfold jnS
    rw [st_at, if_neg (by omega), ap_in hb (by omega) r0 r1 (by omega) (by omega) (by omega), show S o 0 0 + c - S o 0 0 + 0 = c by omega])]
/-- what a joining makes -/
def jnP (S S' : St) (o n : Nat) (z : Int) : Prop :=
  ((∀ (a b : Nat) (i : Int), a ≠ o → ¬ (a = 1 ∧ b = 6) → S' a b i = S a b i) ∧ ∀ i : Int, S' 1 6 i = if i = z then 0 else S 1 6 i) ∧
  (S' o 0 0 = S o 0 0 + S n 0 0 ∧ (∀ i : Int, i ≠ 0 → S' o 0 i = S o 0 i) ∧ ∀ i, S' o 4 i = S o 4 i) ∧
  (∀ i, S' o 8 i = if S o 0 0 ≤ i ∧ i < S o 0 0 + S n 0 0 then S n 8 (i - S o 0 0) else S o 8 i)
theorem jn_P {S : St} {o n : Nat} {z : Int} (hn1 : o ≠ 1) : jnP S (jnS S o n z) o n z := by
  have e : ∀ (a b : Nat) (i : Int), jnS S o n z a b i = if a = 1 ∧ b = 6 ∧ i = z then 0 else apF S o n 0 (S o 0 0) (S o 0 1) (S n 0 0 - 0) a b i := fun a b i => by
    unfold jnS
    rw [st_at]
  generalize jnS S o n z = S' at e ⊢
  refine ⟨⟨fun a b i h1 h2 => by rw [e, if_neg (by omega), apF_x h1], fun i => ?_⟩, ⟨by rw [e, if_neg (by omega), apF_0]; omega, fun i hi => by rw [e, if_neg (by omega), apF_o (by omega) (by omega)], fun i => by rw [e, if_neg (by omega), apF_o (by omega) (by omega)]⟩, fun i => ?_⟩
  · rw [e]
    by_cases hi : i = z
    · rw [if_pos ⟨rfl, rfl, hi⟩, if_pos hi]
    · rw [if_neg (by omega), if_neg hi, apF_x (by omega)]
  · rw [e, if_neg (by omega), ap_8]
    by_cases hi : S o 0 0 ≤ i ∧ i < S o 0 0 + S n 0 0
    · rw [if_pos (by omega), if_pos hi, show i - S o 0 0 + 0 = i - S o 0 0 by omega]
    · rw [if_neg (by omega), if_neg hi]
theorem IV_join {S : St} {x z : Int} (h : IV S) (hx : peC S x) (hz : peC S z) (hxz : x ≠ z) (hd : dnC S (10 + x.toNat)) (hdz : dnC S (10 + z.toNat)) (hh : S (10 + x.toNat) 0 1 = S (10 + z.toNat) 0 1) (hW : S (10 + x.toNat) 0 0 + S (10 + z.toNat) 0 0 ≤ 24) :
    IV (jnS S (10 + x.toNat) (10 + z.toNat) z) ∧ jnP S (jnS S (10 + x.toNat) (10 + z.toNat) z) (10 + x.toNat) (10 + z.toNat) z ∧ (peC (jnS S (10 + x.toNat) (10 + z.toNat) z) x ∧ ¬ peC (jnS S (10 + x.toNat) (10 + z.toNat) z) z) ∧
    shC (jnS S (10 + x.toNat) (10 + z.toNat) z) (10 + x.toNat) = shC S (10 + x.toNat) + shC S (10 + z.toNat) ∧
    (jnS S (10 + x.toNat) (10 + z.toNat) z (10 + x.toNat) 8 (S (10 + x.toNat) 0 0 - 1) + 1 = jnS S (10 + x.toNat) (10 + z.toNat) z (10 + x.toNat) 8 (S (10 + x.toNat) 0 0) ↔ S (10 + x.toNat) 8 (S (10 + x.toNat) 0 0 - 1) + 1 = S (10 + z.toNat) 8 0) ∧
    (trC (jnS S (10 + x.toNat) (10 + z.toNat) z) (10 + x.toNat) ↔ trC S (10 + x.toNat) ∧ trC S (10 + z.toNat) ∧ S (10 + x.toNat) 8 (S (10 + x.toNat) 0 0 - 1) + 1 = S (10 + z.toNat) 8 0) := by
  have hP := h.pp hx
  have hPz := h.pp hz
  have hx' := h.pl hx
  have hz' := h.pl hz
  obtain ⟨x0, x1, x2⟩ := id hx
  obtain ⟨z0, z1, z2⟩ := id hz
  obtain ⟨o, ho⟩ : ∃ o : Nat, 10 + x.toNat = o := ⟨_, rfl⟩
  obtain ⟨n, hn⟩ : ∃ n : Nat, 10 + z.toNat = n := ⟨_, rfl⟩
  rw [ho, hn] at hh hW
  rw [ho] at hP hd ⊢
  rw [hn] at hPz hdz ⊢
  obtain ⟨⟨pa, pw, ph, pv, p7, p8, p4⟩, hC, -⟩ := id hP
  obtain ⟨⟨za, zw, zh, zv, z7, z8, z4⟩, zC, -⟩ := id hPz
  obtain ⟨hD1, hD2⟩ := pk_D hP hd
  obtain ⟨zD1, zD2⟩ := pk_D hPz hdz
  have hjn := jn_P (S := S) (o := o) (n := n) (z := z) (by omega)
  have hs7 := jn_sum (S := S) (z := z) (show n ≠ o by omega) (by omega) ⟨by omega, by omega, hW⟩ 7 (Or.inr (Or.inr rfl)) hh (fun y => y)
  have hs6 := fun j => jn_sum (S := S) (z := z) (show n ≠ o by omega) (by omega) ⟨by omega, by omega, hW⟩ 6 (Or.inr (Or.inl rfl)) hh (fun y => b2 (y = j))
  have hcel : ∀ (b : Nat) (r c : Int), col3 b → 0 ≤ r → r < S o 0 1 → 0 ≤ c → c < S o 0 0 + S n 0 0 → jnS S o n z o b (r * 24 + c) = if c < S o 0 0 then S o b (r * 24 + c) else S n b (r * 24 + (c - S o 0 0)) := fun b r c hb r0 r1 c0 c1 => by
    unfold jnS
    rw [st_at, if_neg (by omega)]
    by_cases hc : c < S o 0 0
    · rw [if_pos hc, ap_ol hb c0 hc (by omega)]
    · rw [if_neg hc, ap_in hb (by omega) r0 r1 (by omega) (by omega) (by omega), show c - S o 0 0 + 0 = c - S o 0 0 by omega]
  have h7 : ∀ j, 0 ≤ j → j < 240 → 0 ≤ jnS S o n z o 7 j ∧ jnS S o n z o 7 j ≤ 100 := fun j j0 j1 => by
    unfold jnS
    rw [st_at, if_neg (by omega), ap_7]
    split
    · exact z7 _ (by omega) (by omega)
    · exact p7 j j0 j1
  generalize jnS S o n z = S' at hjn hs7 hs6 hcel h7 ⊢
  obtain ⟨⟨e, g7⟩, ⟨f0, f1, f4⟩, f8⟩ := id hjn
  have e1 : ∀ (b : Nat) (i : Int), b ≠ 6 → S' 1 b i = S 1 b i := fun b i y => e 1 b i (by omega) (by omega)
  have ea : ∀ a : Nat, a ≠ 1 → a ≠ o → S' a = S a := fun a h1 h2 => fe (fun b i => e a b i h2 (by omega))
  have e2 := ea 2 (by omega) (by omega)
  have hL := lgr_e e2
  have kx : peC S' x := ⟨x0, x1, by rw [g7, if_neg hxz]; exact x2⟩
  have kz : ¬ peC S' z := fun y => by
    have := y.2.2
    rw [g7, if_pos rfl] at this
    omega
  have hjt : S' o 8 (S o 0 0 - 1) + 1 = S' o 8 (S o 0 0) ↔ S o 8 (S o 0 0 - 1) + 1 = S n 8 0 := by
    rw [f8, f8, if_neg (by omega), if_pos (by omega), show S o 0 0 - S o 0 0 = 0 by omega]
  have hPo : pkP S' o := by
    refine ⟨⟨by rw [f1 _ (by omega)]; exact pa, by rw [f0]; omega, by rw [f1 _ (by omega)]; exact ph, by rw [f1 _ (by omega)]; exact pv, h7, fun j j0 j1 => ?_, fun j j0 j1 => by rw [f4]; exact p4 j j0 j1⟩, fun r c r0 r1 c0 c1 => ?_, Or.inl ⟨fun w w0 w1 => ?_, fun r c r0 r1 c0 c1 => ?_⟩⟩
    · rw [f8]
      split
      · exact z8 _ (by omega) (by omega)
      · exact p8 j j0 j1
    · rw [f1 _ (by omega)] at r1
      rw [f0] at c1
      rw [hcel 5 r c (Or.inl rfl) r0 r1 c0 c1, hcel 6 r c (Or.inr (Or.inl rfl)) r0 r1 c0 c1, hcel 7 r c (Or.inr (Or.inr rfl)) r0 r1 c0 c1]
      by_cases hc : c < S o 0 0
      · rw [if_pos hc, if_pos hc, if_pos hc]
        exact okC_k hL (hC r c r0 r1 c0 hc)
      · rw [if_neg hc, if_neg hc, if_neg hc]
        exact okC_k hL (zC r _ r0 (by omega) (by omega) (by omega))
    · rw [f1 _ (by omega)] at w1
      rw [f4, f1 _ (by omega)]
      exact hD1 w w0 w1
    · rw [f1 _ (by omega)] at r1
      rw [f0] at c1
      rw [hcel 6 r c (Or.inr (Or.inl rfl)) r0 r1 c0 c1]
      by_cases hc : c < S o 0 0
      · rw [if_pos hc]; exact hD2 r c r0 r1 c0 hc
      · rw [if_neg hc]; exact zD2 r _ r0 (by omega) (by omega) (by omega)
  refine ⟨⟨⟨by rw [e1 _ _ (by omega)]; exact h.a.1, by rw [e2]; exact h.a.2.1, by rw [ea 3 (by omega) (by omega)]; exact h.a.2.2⟩, iW_k h.w (fun b i _ => e1 b i (by omega)), iK_k h.k (fun b i _ => e1 b i (by omega)) (fun a _ _ => ea a (by omega) (by omega)), iL_k h.l e2, iP_g h.p hL (by rw [e1 _ _ (by omega)]; exact h.p.1) (fun j hj => ?_) (fun y hy => ?_), fun j j0 j1 => ?_⟩, hjn, ⟨kx, kz⟩, ?_, hjt, ⟨fun hT => ⟨fun j j0 j1 => ?_, fun j j0 j1 => ?_, ?_⟩, fun ⟨t1, t2, t3⟩ j j0 j1 => ?_⟩⟩
  · rw [g7] at hj
    rw [e1 _ _ (by omega)]
    by_cases hi : (j : Int) = z
    · rw [if_pos hi] at hj; omega
    · rw [if_neg hi] at hj
      exact h.hpf j hj
  · by_cases hyx : y = x
    · rw [hyx, ho]; exact Or.inr hPo
    · have hyz : y ≠ z := fun t => kz (t ▸ hy)
      unfold peC at hy
      rw [g7, if_neg hyz] at hy
      exact Or.inl ⟨hy, ea _ (by omega) (by omega)⟩
  · rw [e2, tb_2 (S := S) (x := x) (z := z) x0 x1 z0 z1 hxz (fun k k0 k1 k2 k3 => tbN_k (by rw [g7, if_neg k3]) (ea _ (by omega) (by omega))), tbN_e, tbN_e, tbN_e, tbN_e, ho, hn, cif_t kx.2.2, cif_f (fun t => kz ⟨z0, z1, t⟩), cif_t x2, cif_t z2]
    have h1 := hs6 j
    have h2 := h.b j j0 j1
    have h3 : kcN S' o j = kcN S o j + kcN S n j := by
      unfold kcN
      rw [f0, f1 1 (by omega)]
      exact h1
    omega
  · unfold shC
    rw [s2_ss, s2_ss, s2_ss, f0, f1 1 (by omega)]
    exact hs7
  · have := hT j j0 (by rw [f0]; omega)
    rw [f8, f8, if_neg (by omega), if_neg (by omega)] at this
    exact this
  · have := hT (S o 0 0 + j) (by omega) (by rw [f0]; omega)
    rw [f8, f8, if_pos (by omega), if_pos (by omega), show S o 0 0 + j - 1 - S o 0 0 = j - 1 by omega, show S o 0 0 + j - S o 0 0 = j by omega] at this
    exact this
  · exact hjt.mp (hT (S o 0 0) (by omega) (by rw [f0]; omega))
  · rw [f0] at j1
    by_cases hj : j < S o 0 0
    · rw [f8, f8, if_neg (by omega), if_neg (by omega)]
      exact t1 j j0 hj
    · by_cases hj2 : j = S o 0 0
      · rw [hj2]; exact hjt.mpr t3
      · rw [f8, f8, if_pos (by omega), if_pos (by omega), show j - 1 - S o 0 0 = j - S o 0 0 - 1 by omega]
        exact t2 _ (by omega) (by omega)
