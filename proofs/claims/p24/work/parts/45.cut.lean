/-! ===== a piece cut ===== -/
theorem ap_in {S : St} {o x : Nat} {q W h n r c : Int} {b : Nat} (hb : col3 b) (hW : 0 ≤ W) (r0 : 0 ≤ r) (r1 : r < h) (c0 : W ≤ c) (c1 : c < W + n) (c2 : c < 24) : apF S o x q W h n o b (r * 24 + c) = S x b (r * 24 + (c - W + q)) := by
  unfold apF
  rw [if_neg (by unfold col3 at hb; omega), if_neg (by unfold col3 at hb; omega), if_neg (by unfold col3 at hb; omega), if_pos ⟨rfl, hb, by omega, by omega, by omega, by omega⟩, show r * 24 + c - W + q = r * 24 + (c - W + q) by omega]
theorem ap_ol {S : St} {o x : Nat} {q W h n r c : Int} {b : Nat} (hb : col3 b) (c0 : 0 ≤ c) (c1 : c < W) (c2 : c < 24) : apF S o x q W h n o b (r * 24 + c) = S o b (r * 24 + c) := by
  unfold apF
  rw [if_neg (by unfold col3 at hb; omega), if_neg (by unfold col3 at hb; omega), if_neg (by unfold col3 at hb; omega), if_neg (by omega)]
theorem ap_8 {S : St} {o x : Nat} {q W h n i : Int} : apF S o x q W h n o 8 i = if W ≤ i ∧ i < W + n then S x 8 (i - W + q) else S o 8 i := by
  unfold apF
  rw [if_neg (by omega)]
  by_cases hi : W ≤ i ∧ i < W + n
  · rw [if_pos ⟨rfl, rfl, hi.1, hi.2⟩, if_pos hi]
  · rw [if_neg (by omega), if_neg (by omega), if_neg (by unfold col3; omega), if_neg hi]
theorem ap_7 {S : St} {o x : Nat} {q W h n i : Int} : apF S o x q W h n o 7 i = if 0 ≤ i ∧ W ≤ i % 24 ∧ i % 24 < W + n ∧ i / 24 < h then S x 7 (i - W + q) else S o 7 i := by
  unfold apF
  rw [if_neg (by omega), if_neg (by omega), if_neg (by omega)]
  by_cases hi : 0 ≤ i ∧ W ≤ i % 24 ∧ i % 24 < W + n ∧ i / 24 < h
  · rw [if_pos ⟨rfl, Or.inr (Or.inr rfl), hi.1, hi.2.1, hi.2.2.1, hi.2.2.2⟩, if_pos hi]
  · rw [if_neg (fun y => hi y.2.2), if_neg hi]
theorem cu_q {S : St} {x q : Int} {o n : Nat} (ho : 10 + x.toNat = o) (hn : 10 + (S 1 0 6).toNat = n) (a b : Nat) (i : Int) : cuS S x q a b i = if a = 1 ∧ b = 0 ∧ i = 6 then S 1 0 6 + 1 else if a = 1 ∧ b = 6 ∧ i = S 1 0 6 then 1 else if a = o ∧ b = 0 ∧ i = 0 then q else
    apF (nwS S n (fun i => if i = -1 then 1 else if i = 1 then S o 0 1 else if i = 2 then 0 else 0)) n o q 0 (S o 0 1) (S o 0 0 - q) a b i := by
  unfold cuS
  rw [st_at, st_at, st_at, ho, hn]
/-- what a cut makes: o keeps q columns, n has the others -/
def cuP (S S' : St) (o n : Nat) (q : Int) : Prop :=
  ((∀ (a b : Nat) (i : Int), a ≠ o → a ≠ n → ¬ (a = 1 ∧ (b = 6 ∨ (b = 0 ∧ i = 6))) → S' a b i = S a b i) ∧ S' 1 0 6 = S 1 0 6 + 1 ∧ ∀ i : Int, S' 1 6 i = if i = S 1 0 6 then 1 else S 1 6 i) ∧
  (S' o 0 0 = q ∧ ∀ (b : Nat) (i : Int), ¬ (b = 0 ∧ i = 0) → S' o b i = S o b i) ∧
  (S' n 0 0 = S o 0 0 - q ∧ S' n 0 1 = S o 0 1 ∧ S' n 0 2 = 0 ∧ S' n 0 (-1) = 1) ∧
  (∀ (b : Nat) r c, col3 b → 0 ≤ r → r < S o 0 1 → 0 ≤ c → c < S o 0 0 - q → S' n b (r * 24 + c) = S o b (r * 24 + (q + c))) ∧
  (∀ j, 0 ≤ j → j < S o 0 0 - q → S' n 8 j = S o 8 (q + j)) ∧
  (∀ j, 0 ≤ j → j < 24 → S' n 8 j = 0 ∨ (q + j < 24 ∧ S' n 8 j = S o 8 (q + j))) ∧ (∀ j, S' n 4 j = 0) ∧
  ∀ j, 0 ≤ j → j < 240 → S' n 7 j = 0 ∨ (j + q < 240 ∧ S' n 7 j = S o 7 (j + q))
theorem cu_P {S : St} {x q : Int} {o n : Nat} (ho : 10 + x.toNat = o) (hn : 10 + (S 1 0 6).toNat = n) (hno : o ≠ n) (hW : S o 0 0 ≤ 24) (hH : S o 0 1 ≤ 10) (hq : 1 ≤ q ∧ q < S o 0 0) : cuP S (cuS S x q) o n q := by
  have e := cu_q (S := S) (x := x) (q := q) ho hn
  generalize cuS S x q = S' at e ⊢
  have en : ∀ (b : Nat) (i : Int), ¬ (b = 0 ∧ i = 0) → b ≠ 9 → S' n b i = apF (nwS S n (fun i => if i = -1 then 1 else if i = 1 then S o 0 1 else if i = 2 then 0 else 0)) n o q 0 (S o 0 1) (S o 0 0 - q) n b i := fun b i h1 h2 => by rw [e, if_neg (by omega), if_neg (by omega), if_neg (by omega)]
  have eT : nwS S n (fun i => if i = -1 then 1 else if i = 1 then S o 0 1 else if i = 2 then 0 else 0) o = S o := fe (fun b i => nwS_n hno)
  refine ⟨⟨fun a b i h1 h2 h3 => ?_, by rw [e, if_pos ⟨rfl, rfl, rfl⟩], fun i => ?_⟩, ⟨by rw [e, if_neg (by omega), if_neg (by omega), if_pos ⟨rfl, rfl, rfl⟩], fun b i h1 => ?_⟩, ⟨?_, ?_, ?_, ?_⟩, fun b r c hb r0 r1 c0 c1 => ?_, fun j j0 j1 => ?_, fun j j0 j1 => ?_, fun j => ?_, fun j j0 j1 => ?_⟩
  · rw [e, if_neg (by omega), if_neg (by omega), if_neg (by omega), apF_x h2, nwS_n h2]
  · rw [e, if_neg (by omega)]
    by_cases hi : i = S 1 0 6
    · rw [if_pos ⟨rfl, rfl, hi⟩, if_pos hi]
    · rw [if_neg (by omega), if_neg (by omega), if_neg hi, apF_x (by omega), nwS_n (by omega)]
  · rw [e, if_neg (by omega), if_neg (by omega), if_neg (by omega), apF_x hno, nwS_n hno]
  · rw [e, if_neg (by omega), if_neg (by omega), if_neg (by omega), apF_0]; omega
  · rw [en _ _ (by omega) (by omega), apF_o (by omega) (by omega), nwS_0, if_neg (by omega), if_pos rfl]
  · rw [en _ _ (by omega) (by omega), apF_o (by omega) (by omega), nwS_0, if_neg (by omega), if_neg (by omega), if_pos rfl]
  · rw [en _ _ (by omega) (by omega), apF_o (by omega) (by omega), nwS_0, if_pos rfl]
  · rw [en _ _ (by unfold col3 at hb; omega) (by unfold col3 at hb; omega), ap_in hb (Int.le_refl 0) r0 r1 c0 (by omega) (by omega), eT, show c - 0 + q = q + c by omega]
  · rw [en _ _ (by omega) (by omega), ap_8, if_pos (by omega), eT, show j - 0 + q = q + j by omega]
  · rw [en _ _ (by omega) (by omega), ap_8, eT]
    by_cases hj : 0 ≤ j ∧ j < 0 + (S o 0 0 - q)
    · rw [if_pos hj]
      exact Or.inr ⟨by omega, by rw [show j - 0 + q = q + j by omega]⟩
    · rw [if_neg hj]
      exact Or.inl (nwS_r (by decide))
  · rw [en _ _ (by omega) (by omega), apF_o (by omega) (by omega)]
    exact nwS_r (by decide)
  · rw [en _ _ (by omega) (by omega), ap_7, eT]
    by_cases hj : 0 ≤ j ∧ 0 ≤ j % 24 ∧ j % 24 < 0 + (S o 0 0 - q) ∧ j / 24 < S o 0 1
    · rw [if_pos hj]
      exact Or.inr ⟨by omega, by rw [show j - 0 + q = j + q by omega]⟩
    · rw [if_neg hj]
      exact Or.inl (nwS_r (by decide))
theorem cu_sum {S S' : St} {o n : Nat} {q : Int} (hc : cuP S S' o n q) (hq : 1 ≤ q ∧ q < S o 0 0) (b : Nat) (hb : col3 b) (F : Int → Int) : ss (fun r c => F (S' o b (r * 24 + c))) (S' o 0 0) (S' o 0 1) + ss (fun r c => F (S' n b (r * 24 + c))) (S' n 0 0) (S' n 0 1) = ss (fun r c => F (S o b (r * 24 + c))) (S o 0 0) (S o 0 1) := by
  obtain ⟨-, ⟨f1, f2⟩, ⟨g1, g2, -⟩, g3, -⟩ := hc
  rw [ss_cut (fun r c => F (S o b (r * 24 + c))) (S o 0 1) (show 0 ≤ q by omega) (show q ≤ S o 0 0 by omega), f1, f2 0 1 (by omega), g1, g2]
  rw [ss_c (F := fun r c => F (S' o b (r * 24 + c))) (G := fun r c => F (S o b (r * 24 + c))) (fun r c _ _ _ _ => by show F (S' o b _) = F (S o b _); rw [f2 b _ (by unfold col3 at hb; omega)])]
  rw [ss_c (F := fun r c => F (S' n b (r * 24 + c))) (G := fun r c => F (S o b (r * 24 + (q + c)))) (fun r c r0 r1 c0 c1 => by show F (S' n b _) = F (S o b _); rw [g3 b r c hb r0 r1 c0 c1])]
theorem IV_cut {S : St} {x q : Int} (h : IV S) (hx : peC S x) (hq : 1 ≤ q ∧ q < S (10 + x.toNat) 0 0) (hd : dnC S (10 + x.toNat)) (hN : S 1 0 6 < 20) :
    IV (cuS S x q) ∧ cuP S (cuS S x q) (10 + x.toNat) (10 + (S 1 0 6).toNat) q ∧ (peC (cuS S x q) x ∧ peC (cuS S x q) (S 1 0 6) ∧ x ≠ S 1 0 6) ∧ (dnC (cuS S x q) (10 + x.toNat) ∧ dnC (cuS S x q) (10 + (S 1 0 6).toNat)) ∧
    shC (cuS S x q) (10 + x.toNat) + shC (cuS S x q) (10 + (S 1 0 6).toNat) = shC S (10 + x.toNat) ∧ (trC S (10 + x.toNat) → trC (cuS S x q) (10 + x.toNat) ∧ trC (cuS S x q) (10 + (S 1 0 6).toNat)) := by
  have hP := h.pp hx
  have hxN := h.pl hx
  have hp := h.p.1
  obtain ⟨x0, x1, x2⟩ := id hx
  obtain ⟨o, ho⟩ : ∃ o : Nat, 10 + x.toNat = o := ⟨_, rfl⟩
  obtain ⟨n, hn⟩ : ∃ n : Nat, 10 + (S 1 0 6).toNat = n := ⟨_, rfl⟩
  rw [ho] at hP hq hd ⊢
  rw [hn]
  obtain ⟨⟨pa, pw, ph, pv, p7, p8, p4⟩, hC, -⟩ := id hP
  obtain ⟨hD1, hD2⟩ := pk_D hP hd
  have hcu := cu_P (S := S) (x := x) (q := q) ho hn (by omega) pw.2 ph.2 hq
  have hs7 := cu_sum hcu hq 7 (Or.inr (Or.inr rfl)) (fun z => z)
  have hs6 := fun j => cu_sum hcu hq 6 (Or.inr (Or.inl rfl)) (fun z => b2 (z = j))
  generalize cuS S x q = S' at hcu hs7 hs6 ⊢
  obtain ⟨⟨e, g6, g7⟩, ⟨f1, f2⟩, ⟨g0, g1, g2, ga⟩, g3, g8, g9, g4, g10⟩ := id hcu
  have e1 : ∀ (b : Nat) (i : Int), ¬ (b = 6 ∨ (b = 0 ∧ i = 6)) → S' 1 b i = S 1 b i := fun b i y => e 1 b i (by omega) (by omega) (by omega)
  have ea : ∀ a : Nat, a ≠ 1 → a ≠ o → a ≠ n → S' a = S a := fun a h1 h2 h3 => fe (fun b i => e a b i h2 h3 (by omega))
  have e2 := ea 2 (by omega) (by omega) (by omega)
  have hL := lgr_e e2
  have kx : peC S' x := ⟨x0, x1, by rw [g7, if_neg (by omega)]; exact x2⟩
  have kN : peC S' (S 1 0 6) := ⟨hp.1, hN, by rw [g7, if_pos rfl]⟩
  have hPo : pkP S' o := by
    refine ⟨⟨by rw [f2 _ _ (by omega)]; exact pa, by rw [f1]; omega, by rw [f2 _ _ (by omega)]; exact ph, by rw [f2 _ _ (by omega)]; exact pv, fun j j0 j1 => by rw [f2 _ _ (by omega)]; exact p7 j j0 j1, fun j j0 j1 => by rw [f2 _ _ (by omega)]; exact p8 j j0 j1, fun j j0 j1 => by rw [f2 _ _ (by omega)]; exact p4 j j0 j1⟩, fun r c r0 r1 c0 c1 => ?_, Or.inl ⟨fun w w0 w1 => ?_, fun r c r0 r1 c0 c1 => ?_⟩⟩
    · rw [f2 _ _ (by omega)] at r1
      rw [f1] at c1
      rw [f2 5 _ (by omega), f2 6 _ (by omega), f2 7 _ (by omega)]
      exact okC_k hL (hC r c r0 r1 c0 (by omega))
    · rw [f2 _ _ (by omega)] at w1
      rw [f2 4 _ (by omega), f2 0 1 (by omega)]
      exact hD1 w w0 w1
    · rw [f2 _ _ (by omega)] at r1
      rw [f1] at c1
      rw [f2 6 _ (by omega)]
      exact hD2 r c r0 r1 c0 (by omega)
  have hPn : pkP S' n := by
    refine ⟨⟨ga, by rw [g0]; omega, by rw [g1]; exact ph, by rw [g2]; decide, fun j j0 j1 => ?_, fun j j0 j1 => ?_, fun j j0 j1 => by rw [g4]; decide⟩, fun r c r0 r1 c0 c1 => ?_, Or.inl ⟨fun w w0 w1 => by rw [g2] at w1; omega, fun r c r0 r1 c0 c1 => ?_⟩⟩
    · rcases g10 j j0 j1 with y | ⟨y1, y2⟩
      · rw [y]; decide
      · rw [y2]; exact p7 _ (by omega) y1
    · rcases g9 j j0 j1 with y | ⟨y1, y2⟩
      · rw [y]; decide
      · rw [y2]; exact p8 _ (by omega) y1
    · rw [g1] at r1
      rw [g0] at c1
      rw [g3 5 r c (Or.inl rfl) r0 r1 c0 c1, g3 6 r c (Or.inr (Or.inl rfl)) r0 r1 c0 c1, g3 7 r c (Or.inr (Or.inr rfl)) r0 r1 c0 c1]
      exact okC_k hL (hC r (q + c) r0 r1 (by omega) (by omega))
    · rw [g1] at r1
      rw [g0] at c1
      rw [g3 6 r c (Or.inr (Or.inl rfl)) r0 r1 c0 c1]
      exact hD2 r (q + c) r0 r1 (by omega) (by omega)
  refine ⟨⟨⟨by rw [e1 _ _ (by omega)]; exact h.a.1, by rw [e2]; exact h.a.2.1, by rw [ea 3 (by omega) (by omega) (by omega)]; exact h.a.2.2⟩, iW_k h.w (fun b i _ => e1 b i (by omega)), iK_k h.k (fun b i _ => e1 b i (by omega)) (fun a _ _ => ea a (by omega) (by omega) (by omega)), iL_k h.l e2, iP_g h.p hL (by rw [g6]; omega) (fun j hj => ?_) (fun y hy => ?_), fun j j0 j1 => ?_⟩, hcu, ⟨kx, kN, by omega⟩, ⟨(pk_dn hPo).mpr (fun r c r0 r1 c0 c1 => ?_), (pk_dn hPn).mpr (fun r c r0 r1 c0 c1 => ?_)⟩, hs7, fun hT => ⟨fun j j0 j1 => ?_, fun j j0 j1 => ?_⟩⟩
  · rw [g7] at hj
    rw [g6]
    by_cases hi : (j : Int) = S 1 0 6
    · omega
    · rw [if_neg hi] at hj
      have := h.hpf j hj
      omega
  · by_cases hyN : y = S 1 0 6
    · rw [hyN, hn]; exact Or.inr hPn
    · by_cases hyx : y = x
      · rw [hyx, ho]; exact Or.inr hPo
      · unfold peC at hy
        rw [g7, if_neg hyN] at hy
        exact Or.inl ⟨hy, ea _ (by omega) (by omega) (by omega)⟩
  · rw [e2, tb_2 (S := S) (x := x) (z := S 1 0 6) x0 x1 hp.1 hN (by omega) (fun k k0 k1 k2 k3 => tbN_k (by rw [g7, if_neg k3]) (ea _ (by omega) (by omega) (by omega))), tbN_e, tbN_e, tbN_e, tbN_e, ho, hn, cif_t kx.2.2, cif_t kN.2.2, cif_t x2, cif_f (fun t => by have := h.hpf (S 1 0 6).toNat (by rw [Int.toNat_of_nonneg hp.1]; exact t); omega)]
    have h1 := hs6 j
    have h2 := h.b j j0 j1
    unfold kcN
    omega
  · rw [f2 _ _ (by omega)] at r1
    rw [f1] at c1
    rw [f2 6 _ (by omega)]
    exact hD2 r c r0 r1 c0 (by omega)
  · rw [g1] at r1
    rw [g0] at c1
    rw [g3 6 r c (Or.inr (Or.inl rfl)) r0 r1 c0 c1]
    exact hD2 r (q + c) r0 r1 (by omega) (by omega)
  · rw [f1] at j1
    rw [f2 8 _ (by omega), f2 8 _ (by omega)]
    exact hT j j0 (by omega)
  · rw [g0] at j1
    rw [g8 _ (by omega) (by omega), g8 _ (by omega) (by omega), show q + (j - 1) = q + j - 1 by omega]
    exact hT (q + j) (by omega) (by omega)
