/-! ===== what each call keeps ===== -/
theorem fe {S S' : St} {a : Nat} (e : ∀ (b : Nat) (i : Int), S' a b i = S a b i) : S' a = S a := by
  funext b i
  exact e b i
theorem IV_same {S S' : St} (h : IV S) (e1 : ∀ (b : Nat) (i : Int), b ≠ 8 → S' 1 b i = S 1 b i) (e : ∀ (a b : Nat) (i : Int), a ≠ 1 → a ≠ 3 → S' a b i = S a b i) (e3 : S' 3 0 (-1) = S 3 0 (-1)) : IV S' := by
  have e2 : ∀ a : Nat, a ≠ 1 → a ≠ 3 → S' a = S a := fun a h1 h3 => fe (fun b i => e a b i h1 h3)
  exact ⟨⟨by rw [e1 0 (-1) (by decide)]; exact h.a.1, by rw [e2 2 (by decide) (by decide)]; exact h.a.2.1, by rw [e3]; exact h.a.2.2⟩, iW_k h.w (fun b i q => e1 b i (by omega)), iK_k h.k (fun b i q => e1 b i (by omega)) (fun a q1 q2 => e2 a (by omega) (by omega)), iL_k h.l (e2 2 (by decide) (by decide)), iP_k h.p (lgr_e (e2 2 (by decide) (by decide))) (fun b i q => e1 b i (by omega)) (fun a q => e2 a (by omega) (by omega)), bal_k h.b (fun i => e1 6 i (by decide)) (fun a q => e2 a (by omega) (by omega)) (e2 2 (by decide) (by decide))⟩
theorem IV_3 {S : St} (h : IV S) {r : Nat} {j v : Int} (hr : r ≠ 0) : IV (st S 3 r j v) := IV_same h (fun b i _ => by rw [st_at, if_neg (by omega)]) (fun a b i _ _ => by rw [st_at, if_neg (by omega)]) (by rw [st_at, if_neg (by omega)])
theorem IV_bl {S : St} (h : IV S) : IV (blS S 20) := IV_same h (fun b i q => blS_o (by omega)) (fun a b i _ _ => blS_o (by omega)) (blS_o (by omega))
theorem IV_w {S S' : St} (h : IV S) (hw : iW S') (e1 : ∀ (b : Nat) (i : Int), ¬ (b = 0 ∧ i = 1) → b ≠ 1 → S' 1 b i = S 1 b i) (e : ∀ (a b : Nat) (i : Int), a ≠ 1 → S' a b i = S a b i) : IV S' := by
  have e2 : ∀ a : Nat, a ≠ 1 → S' a = S a := fun a h1 => fe (fun b i => e a b i h1)
  exact ⟨⟨by rw [e1 0 (-1) (by omega) (by decide)]; exact h.a.1, by rw [e2 2 (by decide)]; exact h.a.2.1, by rw [e2 3 (by decide)]; exact h.a.2.2⟩, hw, iK_k h.k (fun b i q => e1 b i (by omega) (by omega)) (fun a q1 q2 => e2 a (by omega)), iL_k h.l (e2 2 (by decide)), iP_k h.p (lgr_e (e2 2 (by decide))) (fun b i q => e1 b i (by omega) (by omega)) (fun a q => e2 a (by omega)), bal_k h.b (fun i => e1 6 i (by omega) (by decide)) (fun a q => e2 a (by omega)) (e2 2 (by decide))⟩
theorem sg_b {z : Int} (h : sg z ≠ -1) : 0 ≤ sg z ∧ sg z ≤ 6 := by
  unfold sg at h ⊢
  repeat' split
  all_goals first | decide | skip
  rename_i h1 h2 h3 h4 h5 h6 h7
  rw [if_neg h1, if_neg h2, if_neg h3, if_neg h4, if_neg h5, if_neg h6, if_neg h7] at h
  omega
theorem IV_type {S : St} {z : Int} (h : IV S) (hs : sg z ≠ -1) (hl : S 1 0 1 < 12) : IV (st (st S 1 1 (S 1 0 1) (sg z)) 1 0 1 (S 1 0 1 + 1)) := by
  have hb := h.w.1
  refine IV_w h ⟨?_, fun j h0 h1 => ?_⟩ (fun b i q1 q2 => by rw [st_at, if_neg (by omega), st_at, if_neg (by omega)]) (fun a b i q => by rw [st_at, if_neg (by omega), st_at, if_neg (by omega)])
  · rw [st_at, if_pos ⟨rfl, rfl, rfl⟩]; omega
  · rw [st_at, if_pos ⟨rfl, rfl, rfl⟩] at h1
    rw [st_at, if_neg (by omega), st_at]
    by_cases hj : j = S 1 0 1
    · rw [if_pos ⟨rfl, rfl, hj⟩]; exact sg_b hs
    · rw [if_neg (by omega)]
      exact h.w.2 j h0 (by omega)
theorem IV_empty {S : St} (h : IV S) : IV (st S 1 0 1 0) := by
  refine IV_w h ⟨?_, fun j h0 h1 => ?_⟩ (fun b i q1 q2 => by rw [st_at, if_neg (by omega)]) (fun a b i q => by rw [st_at, if_neg (by omega)])
  · rw [st_at, if_pos ⟨rfl, rfl, rfl⟩]; decide
  · rw [st_at, if_pos ⟨rfl, rfl, rfl⟩] at h1
    omega
theorem IV_cartoon {S : St} {z : Int} (h : IV S) (hz : 2 ≤ z ∧ z ≤ 12) (hl : S 1 0 3 < 5) : IV (ctS S z) := by
  obtain ⟨hk, hf, hc⟩ := h.k
  obtain ⟨o, ho⟩ : ∃ o : Nat, 4 + (S 1 0 3).toNat = o := ⟨_, rfl⟩
  have q : ∀ (a b : Nat) (i : Int), ctS S z a b i = if a = 1 ∧ b = 0 ∧ i = 3 then S 1 0 3 + 1 else if a = 1 ∧ b = 3 ∧ i = S 1 0 3 then 1 else if a = o then (if b = 0 then (if i = -1 then 1 else if i = 0 then z else if i = 4 then 1 else 0) else 0) else S a b i := by
    intro a b i
    unfold ctS
    rw [st_at, st_at, ho]
    rfl
  generalize ctS S z = S' at q
  have e1 : ∀ (b : Nat) (i : Int), ¬ (b = 0 ∧ i = 3) → b ≠ 3 → S' 1 b i = S 1 b i := fun b i h1 h2 => by rw [q, if_neg (by omega), if_neg (by omega), if_neg (by omega)]
  have e2 : ∀ a : Nat, a ≠ 1 → a ≠ o → S' a = S a := fun a h1 h2 => fe (fun b i => by rw [q, if_neg (by omega), if_neg (by omega), if_neg h2])
  have e3 : S' 1 0 3 = S 1 0 3 + 1 := by rw [q, if_pos ⟨rfl, rfl, rfl⟩]
  have e4 : ∀ i : Int, S' 1 3 i = if i = S 1 0 3 then 1 else S 1 3 i := fun i => by
    rw [q, if_neg (by omega)]
    by_cases hi : i = S 1 0 3
    · rw [if_pos ⟨rfl, rfl, hi⟩, if_pos hi]
    · rw [if_neg (by omega), if_neg (by omega), if_neg hi]
  have e5 : ∀ (b : Nat) (i : Int), S' o b i = (if b = 0 then (if i = -1 then 1 else if i = 0 then z else if i = 4 then 1 else 0) else 0) := fun b i => by rw [q, if_neg (by omega), if_neg (by omega), if_pos rfl]
  clear q
  refine ⟨⟨by rw [e1 0 (-1) (by omega) (by omega)]; exact h.a.1, by rw [e2 2 (by omega) (by omega)]; exact h.a.2.1, by rw [e2 3 (by omega) (by omega)]; exact h.a.2.2⟩, iW_k h.w (fun b i q => e1 b i (by omega) (by omega)), ⟨by rw [e3]; omega, fun j => ?_, fun x x0 x1 => ?_⟩, iL_k h.l (e2 2 (by omega) (by omega)), iP_k h.p (lgr_e (e2 2 (by omega) (by omega))) (fun b i q => e1 b i (by omega) (by omega)) (fun a q => e2 a (by omega) (by omega)), bal_k h.b (fun i => e1 6 i (by omega) (by omega)) (fun a q => e2 a (by omega) (by omega)) (e2 2 (by omega) (by omega))⟩
  · rw [e3, e4]
    have hj := hf j
    by_cases hi : (j : Int) = S 1 0 3
    · rw [if_pos hi]; exact ⟨fun _ => by omega, fun _ => rfl⟩
    · rw [if_neg hi, hj]; omega
  · rw [e3] at x1
    by_cases hx : x = S 1 0 3
    · rw [hx, ho]
      have f0 : S' o 0 0 = z := by rw [e5]; rfl
      have f1 : S' o 0 1 = 0 := by rw [e5]; rfl
      have f3 : S' o 0 3 = 0 := by rw [e5]; rfl
      have f4 : S' o 0 4 = 1 := by rw [e5]; rfl
      refine ⟨⟨by rw [e5]; rfl, by rw [f0]; exact hz, by rw [f1]; decide⟩, by rw [f3]; decide, by rw [f4]; decide, fun r c r0 r1 => ?_⟩
      rw [f1] at r1
      omega
    · exact carK_k (hc x x0 (by omega)) (e2 _ (by omega) (by omega))
theorem IV_row {S : St} {x : Int} (h : IV S) (hx : ceC S x) (hl : S 1 0 1 = S (4 + x.toNat) 0 0 ∧ S (4 + x.toNat) 0 1 < 10) : IV (st (st (adF S (4 + x.toNat) (S (4 + x.toNat) 0 0)) (4 + x.toNat) 0 1 (S (4 + x.toNat) 0 1 + 1)) 1 0 1 0) := by
  have hx' := h.ce.mp hx
  obtain ⟨hk, hf, hc⟩ := h.k
  obtain ⟨⟨c1, c2, c3⟩, c4, c5, c6⟩ := hc x hx'.1 hx'.2
  obtain ⟨o, ho⟩ : ∃ o : Nat, 4 + x.toNat = o := ⟨_, rfl⟩
  rw [ho] at hl c1 c2 c3 c4 c5 c6 ⊢
  have q : ∀ (a b : Nat) (i : Int), st (st (adF S o (S o 0 0)) o 0 1 (S o 0 1 + 1)) 1 0 1 0 a b i = if a = 1 ∧ b = 0 ∧ i = 1 then 0 else if a = o ∧ b = 0 ∧ i = 1 then S o 0 1 + 1 else if a = o ∧ b = 3 ∧ S o 0 1 * 12 ≤ i ∧ i < S o 0 1 * 12 + S o 0 0 then S 1 1 (i - S o 0 1 * 12) else S a b i := by
    intro a b i
    rw [st_at, st_at]
    rfl
  generalize st (st (adF S o (S o 0 0)) o 0 1 (S o 0 1 + 1)) 1 0 1 0 = S' at q
  have e1 : ∀ (b : Nat) (i : Int), ¬ (b = 0 ∧ i = 1) → S' 1 b i = S 1 b i := fun b i h1 => by rw [q, if_neg (by omega), if_neg (by omega), if_neg (by omega)]
  have e2 : ∀ a : Nat, a ≠ 1 → a ≠ o → S' a = S a := fun a h1 h2 => fe (fun b i => by rw [q, if_neg (by omega), if_neg (by omega), if_neg (by omega)])
  have e3 : S' 1 0 1 = 0 := by rw [q, if_pos ⟨rfl, rfl, rfl⟩]
  have e4 : S' o 0 1 = S o 0 1 + 1 := by rw [q, if_neg (by omega), if_pos ⟨rfl, rfl, rfl⟩]
  have e5 : ∀ i : Int, i ≠ 1 → S' o 0 i = S o 0 i := fun i hi => by rw [q, if_neg (by omega), if_neg (by omega), if_neg (by omega)]
  have e6 : ∀ i : Int, S' o 3 i = if S o 0 1 * 12 ≤ i ∧ i < S o 0 1 * 12 + S o 0 0 then S 1 1 (i - S o 0 1 * 12) else S o 3 i := fun i => by
    rw [q, if_neg (by omega), if_neg (by omega)]
    by_cases hi : S o 0 1 * 12 ≤ i ∧ i < S o 0 1 * 12 + S o 0 0
    · rw [if_pos ⟨rfl, rfl, hi.1, hi.2⟩, if_pos hi]
    · rw [if_neg (by omega), if_neg hi]
  clear q
  refine ⟨⟨by rw [e1 0 (-1) (by omega)]; exact h.a.1, by rw [e2 2 (by omega) (by omega)]; exact h.a.2.1, by rw [e2 3 (by omega) (by omega)]; exact h.a.2.2⟩, ⟨by rw [e3]; decide, fun j h0 h1 => by rw [e3] at h1; omega⟩, ⟨by rw [e1 0 3 (by omega)]; exact hk, fun j => by rw [e1 0 3 (by omega), e1 3 j (by omega)]; exact hf j, fun y y0 y1 => ?_⟩, iL_k h.l (e2 2 (by omega) (by omega)), iP_k h.p (lgr_e (e2 2 (by omega) (by omega))) (fun b i q => e1 b i (by omega)) (fun a q => e2 a (by omega) (by omega)), bal_k h.b (fun i => e1 6 i (by omega)) (fun a q => e2 a (by omega) (by omega)) (e2 2 (by omega) (by omega))⟩
  rw [e1 0 3 (by omega)] at y1
  by_cases hy : y = x
  · rw [hy, ho]
    refine ⟨⟨by rw [e5 _ (by omega)]; exact c1, by rw [e5 _ (by omega)]; exact c2, by rw [e4]; omega⟩, by rw [e5 _ (by omega)]; exact c4, by rw [e5 _ (by omega)]; exact c5, fun r c r0 r1 s0 s1 => ?_⟩
    rw [e4] at r1
    rw [e5 _ (by omega)] at s1
    rw [e6]
    by_cases hr : r = S o 0 1
    · rw [if_pos (by omega)]
      exact h.w.2 _ (by omega) (by omega)
    · rw [if_neg (by omega)]
      exact c6 r c r0 (by omega) s0 s1
  · exact carK_k (hc y y0 y1) (e2 _ (by omega) (by omega))
theorem IV_hatch {S : St} {x u w : Int} (h : IV S) (hx : ceC S x) (hu : 0 ≤ u ∧ u < 6) (hw : 0 ≤ w ∧ w < 6) : IV (st (st S (4 + x.toNat) 0 3 u) (4 + x.toNat) 0 4 w) := by
  have hx' := h.ce.mp hx
  obtain ⟨hk, hf, hc⟩ := h.k
  obtain ⟨⟨c1, c2, c3⟩, c4, c5, c6⟩ := hc x hx'.1 hx'.2
  obtain ⟨o, ho⟩ : ∃ o : Nat, 4 + x.toNat = o := ⟨_, rfl⟩
  rw [ho] at c1 c2 c3 c4 c5 c6 ⊢
  have q : ∀ (a b : Nat) (i : Int), st (st S o 0 3 u) o 0 4 w a b i = if a = o ∧ b = 0 ∧ i = 4 then w else if a = o ∧ b = 0 ∧ i = 3 then u else S a b i := by
    intro a b i
    rw [st_at, st_at]
  generalize st (st S o 0 3 u) o 0 4 w = S' at q
  have e2 : ∀ a : Nat, a ≠ o → S' a = S a := fun a h1 => fe (fun b i => by rw [q, if_neg (by omega), if_neg (by omega)])
  have e3 : S' o 0 3 = u := by rw [q, if_neg (by omega), if_pos ⟨rfl, rfl, rfl⟩]
  have e4 : S' o 0 4 = w := by rw [q, if_pos ⟨rfl, rfl, rfl⟩]
  have e5 : ∀ (b : Nat) (i : Int), ¬ (b = 0 ∧ (i = 3 ∨ i = 4)) → S' o b i = S o b i := fun b i hi => by rw [q, if_neg (by omega), if_neg (by omega)]
  clear q
  have e1 := e2 1 (by omega)
  refine ⟨⟨by rw [e1]; exact h.a.1, by rw [e2 2 (by omega)]; exact h.a.2.1, by rw [e2 3 (by omega)]; exact h.a.2.2⟩, iW_k h.w (fun b i _ => by rw [e1]), ⟨by rw [e1]; exact hk, fun j => by rw [e1]; exact hf j, fun y y0 y1 => ?_⟩, iL_k h.l (e2 2 (by omega)), iP_k h.p (lgr_e (e2 2 (by omega))) (fun b i _ => by rw [e1]) (fun a q => e2 a (by omega)), bal_k h.b (fun i => by rw [e1]) (fun a q => e2 a (by omega)) (e2 2 (by omega))⟩
  rw [e1] at y1
  by_cases hy : y = x
  · rw [hy, ho]
    refine ⟨⟨by rw [e5 _ _ (by omega)]; exact c1, by rw [e5 _ _ (by omega)]; exact c2, by rw [e5 _ _ (by omega)]; exact c3⟩, by rw [e3]; omega, by rw [e4]; omega, fun r c r0 r1 s0 s1 => ?_⟩
    rw [e5 _ _ (by omega)] at r1 s1
    rw [e5 _ _ (by omega)]
    exact c6 r c r0 r1 s0 s1
  · exact carK_k (hc y y0 y1) (e2 _ (by omega))
theorem IV_dye {S : St} {u n f e : Int} (h : IV S) (hn : 1 ≤ n ∧ n ≤ 999) (hf : 0 ≤ f ∧ f ≤ 9) (hl : S 2 0 0 < 20) : IV (st (st (st (st (st (st S 2 2 (S 2 0 0) u) 2 3 (S 2 0 0) n) 2 4 (S 2 0 0) n) 2 5 (S 2 0 0) f) 2 6 (S 2 0 0) e) 2 0 0 (S 2 0 0 + 1)) := by
  obtain ⟨l1, l2, l3⟩ := h.l
  obtain ⟨k, hk⟩ : ∃ k : Int, S 2 0 0 = k := ⟨_, rfl⟩
  rw [hk] at l1 l3 hl ⊢
  have q : ∀ (a b : Nat) (i : Int), st (st (st (st (st (st S 2 2 k u) 2 3 k n) 2 4 k n) 2 5 k f) 2 6 k e) 2 0 0 (k + 1) a b i = if a = 2 ∧ b = 0 ∧ i = 0 then k + 1 else if a = 2 ∧ b = 6 ∧ i = k then e else if a = 2 ∧ b = 5 ∧ i = k then f else if a = 2 ∧ b = 4 ∧ i = k then n else if a = 2 ∧ b = 3 ∧ i = k then n else if a = 2 ∧ b = 2 ∧ i = k then u else S a b i := by
    intro a b i
    rw [st_at, st_at, st_at, st_at, st_at, st_at]
  generalize st (st (st (st (st (st S 2 2 k u) 2 3 k n) 2 4 k n) 2 5 k f) 2 6 k e) 2 0 0 (k + 1) = S' at q
  have e2 : ∀ a : Nat, a ≠ 2 → S' a = S a := fun a h1 => fe (fun b i => by rw [q, if_neg (by omega), if_neg (by omega), if_neg (by omega), if_neg (by omega), if_neg (by omega), if_neg (by omega)])
  have e0 : S' 2 0 0 = k + 1 := by rw [q, if_pos ⟨rfl, rfl, rfl⟩]
  have e9 : S' 2 0 (-1) = S 2 0 (-1) := by rw [q, if_neg (by omega), if_neg (by omega), if_neg (by omega), if_neg (by omega), if_neg (by omega), if_neg (by omega)]
  have ek : ∀ (b : Nat) (i : Int), b ≠ 0 → i ≠ k → S' 2 b i = S 2 b i := fun b i h1 h2 => by rw [q, if_neg (by omega), if_neg (by omega), if_neg (by omega), if_neg (by omega), if_neg (by omega), if_neg (by omega)]
  have e3 : S' 2 3 k = n := by rw [q, if_neg (by omega), if_neg (by omega), if_neg (by omega), if_neg (by omega), if_pos ⟨rfl, rfl, rfl⟩]
  have e4 : S' 2 4 k = n := by rw [q, if_neg (by omega), if_neg (by omega), if_neg (by omega), if_pos ⟨rfl, rfl, rfl⟩]
  have e5 : S' 2 5 k = f := by rw [q, if_neg (by omega), if_neg (by omega), if_pos ⟨rfl, rfl, rfl⟩]
  clear q
  have e1 := e2 1 (by omega)
  have hL : lgr S S' := ⟨by rw [e0, hk]; omega, fun t t0 t1 => by rw [hk] at t1; exact ek 2 t (by omega) (by omega)⟩
  refine ⟨⟨by rw [e1]; exact h.a.1, by rw [e9]; exact h.a.2.1, by rw [e2 3 (by omega)]; exact h.a.2.2⟩, iW_k h.w (fun b i _ => by rw [e1]), iK_k h.k (fun b i _ => by rw [e1]) (fun a q1 q2 => e2 a (by omega)), ⟨by rw [e0]; omega, fun j j0 j1 => ?_, fun j j0 j1 => ?_⟩, iP_k h.p hL (fun b i _ => by rw [e1]) (fun a q => e2 a (by omega)), fun j j0 j1 => ?_⟩
  · by_cases hj : j = k
    · rw [hj, e3, e4, e5]; omega
    · rw [ek 3 j (by omega) hj, ek 4 j (by omega) hj, ek 5 j (by omega) hj]
      exact l2 j j0 j1
  · rw [e0] at j0
    rw [ek 3 j (by omega) (by omega), ek 4 j (by omega) (by omega)]
    exact l3 j (by omega) j1
  · rw [tb_c (S := S) (fun t _ _ => tbN_k (by rw [e1]) (e2 _ (by omega))), h.b j j0 j1]
    by_cases hj : j = k
    · obtain ⟨a1, a2⟩ := l3 j (by omega) j1
      rw [a1, a2, hj, e3, e4]; omega
    · rw [ek 3 j (by omega) hj, ek 4 j (by omega) hj]
