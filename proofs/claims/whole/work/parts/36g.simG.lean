/-- where a join writes -/
def joinX (x z : Int) (a b : Nat) (i : Int) : Prop := (a = 0 ∧ ((b = 0 ∧ i = 27) ∨ (b = 19 ∧ i = z) ∨ (b = 16 ∧ i = x) ∨ ((b = 22 ∨ b = 23 ∨ b = 24) ∧ 24 * x ≤ i ∧ i < 24 * x + 24) ∨ ((b = 25 ∨ b = 26 ∨ b = 27) ∧ 240 * x ≤ i ∧ i < 240 * x + 240))) ∨ (a = 3 ∧ b = 1) ∨ (a = 1 ∧ b = 6 ∧ i = z) ∨ a = 10 + x.toNat
/-- the class's side of a join -/
def joinC (S S1 : St) (x z W U H : Int) : Prop := (∀ (a b : Nat) (i : Int), ¬ joinX x z a b i → S1 a b i = S a b i) ∧ (S1 1 6 z = 0) ∧ (S1 (10 + x.toNat) 0 0 = W + U) ∧ (∀ (b : Nat) (i : Int), (b ≠ 5 ∧ b ≠ 6 ∧ b ≠ 7 ∧ b ≠ 8 ∧ b ≠ 9) → ¬ (b = 0 ∧ i = 0) → S1 (10 + x.toNat) b i = S (10 + x.toNat) b i) ∧ (∀ j, 0 ≤ j → j < 240 → 0 ≤ S1 (10 + x.toNat) 7 j ∧ S1 (10 + x.toNat) 7 j ≤ 100) ∧ (∀ i, i < W → S1 (10 + x.toNat) 8 i = S (10 + x.toNat) 8 i) ∧ (∀ i, W ≤ i → i < W + U → S1 (10 + x.toNat) 8 i = S (10 + z.toNat) 8 (i - W)) ∧ (∀ i, W + U ≤ i → S1 (10 + x.toNat) 8 i = S (10 + x.toNat) 8 i) ∧ (∀ i, i < W → S1 (10 + x.toNat) 9 i = S (10 + x.toNat) 9 i) ∧ (∀ i, W ≤ i → i < W + U → S1 (10 + x.toNat) 9 i = b2 (W < i ∧ S (10 + z.toNat) 9 (i - W) ≠ 0)) ∧ (∀ (b : Nat) (r c : Int), (b = 5 ∨ b = 6 ∨ b = 7) → 0 ≤ r → 0 ≤ c → c < W → S1 (10 + x.toNat) b (r * 24 + c) = S (10 + x.toNat) b (r * 24 + c)) ∧ (∀ (b : Nat) (r c : Int), (b = 5 ∨ b = 6 ∨ b = 7) → 0 ≤ r → r < H → W ≤ c → c < W + U → S1 (10 + x.toNat) b (r * 24 + c) = S (10 + z.toNat) b (r * 24 + (c - W)))
theorem joinC.n {S S1 : St} {x z W U H : Int} (h : joinC S S1 x z W U H) : ∀ (a b : Nat) (i : Int), ¬ joinX x z a b i → S1 a b i = S a b i := h.1
theorem joinC.k6 {S S1 : St} {x z W U H : Int} (h : joinC S S1 x z W U H) : S1 1 6 z = 0 := h.2.1
theorem joinC.x0 {S S1 : St} {x z W U H : Int} (h : joinC S S1 x z W U H) : S1 (10 + x.toNat) 0 0 = W + U := h.2.2.1
theorem joinC.xo {S S1 : St} {x z W U H : Int} (h : joinC S S1 x z W U H) : ∀ (b : Nat) (i : Int), (b ≠ 5 ∧ b ≠ 6 ∧ b ≠ 7 ∧ b ≠ 8 ∧ b ≠ 9) → ¬ (b = 0 ∧ i = 0) → S1 (10 + x.toNat) b i = S (10 + x.toNat) b i := h.2.2.2.1
theorem joinC.x7 {S S1 : St} {x z W U H : Int} (h : joinC S S1 x z W U H) : ∀ j, 0 ≤ j → j < 240 → 0 ≤ S1 (10 + x.toNat) 7 j ∧ S1 (10 + x.toNat) 7 j ≤ 100 := h.2.2.2.2.1
theorem joinC.p8 {S S1 : St} {x z W U H : Int} (h : joinC S S1 x z W U H) : ∀ i, i < W → S1 (10 + x.toNat) 8 i = S (10 + x.toNat) 8 i := h.2.2.2.2.2.1
theorem joinC.q8 {S S1 : St} {x z W U H : Int} (h : joinC S S1 x z W U H) : ∀ i, W ≤ i → i < W + U → S1 (10 + x.toNat) 8 i = S (10 + z.toNat) 8 (i - W) := h.2.2.2.2.2.2.1
theorem joinC.r8 {S S1 : St} {x z W U H : Int} (h : joinC S S1 x z W U H) : ∀ i, W + U ≤ i → S1 (10 + x.toNat) 8 i = S (10 + x.toNat) 8 i := h.2.2.2.2.2.2.2.1
theorem joinC.p9 {S S1 : St} {x z W U H : Int} (h : joinC S S1 x z W U H) : ∀ i, i < W → S1 (10 + x.toNat) 9 i = S (10 + x.toNat) 9 i := h.2.2.2.2.2.2.2.2.1
theorem joinC.q9 {S S1 : St} {x z W U H : Int} (h : joinC S S1 x z W U H) : ∀ i, W ≤ i → i < W + U → S1 (10 + x.toNat) 9 i = b2 (W < i ∧ S (10 + z.toNat) 9 (i - W) ≠ 0) := h.2.2.2.2.2.2.2.2.2.1
theorem joinC.pc {S S1 : St} {x z W U H : Int} (h : joinC S S1 x z W U H) : ∀ (b : Nat) (r c : Int), (b = 5 ∨ b = 6 ∨ b = 7) → 0 ≤ r → 0 ≤ c → c < W → S1 (10 + x.toNat) b (r * 24 + c) = S (10 + x.toNat) b (r * 24 + c) := h.2.2.2.2.2.2.2.2.2.2.1
theorem joinC.qc {S S1 : St} {x z W U H : Int} (h : joinC S S1 x z W U H) : ∀ (b : Nat) (r c : Int), (b = 5 ∨ b = 6 ∨ b = 7) → 0 ≤ r → r < H → W ≤ c → c < W + U → S1 (10 + x.toNat) b (r * 24 + c) = S (10 + z.toNat) b (r * 24 + (c - W)) := h.2.2.2.2.2.2.2.2.2.2.2
/-- the reference's side of a join -/
def joinR (S S1 S2 : St) (x z W U H T : Int) : Prop := (∀ (a b : Nat) (i : Int), a ≠ 0 → S2 a b i = S1 a b i) ∧ (S2 0 19 z = 1) ∧ (S2 0 16 x = W + U) ∧ (S2 0 0 27 = T) ∧ (∀ (b : Nat) (i : Int), ¬ ((b = 0 ∧ i = 27) ∨ (b = 19 ∧ i = z) ∨ (b = 16 ∧ i = x) ∨ ((b = 22 ∨ b = 23 ∨ b = 24) ∧ 24 * x + W ≤ i ∧ i < 24 * x + W + U) ∨ ((b = 25 ∨ b = 26 ∨ b = 27) ∧ 240 * x + 10 * W ≤ i ∧ i < 240 * x + 10 * (W + U))) → S2 0 b i = S 0 b i) ∧ (∀ (b : Nat) (c : Int), (b = 22 ∨ b = 23) → W ≤ c → c < W + U → S2 0 b (24 * x + c) = S 0 b (24 * z + (c - W))) ∧ (∀ c, W ≤ c → c < W + U → S2 0 24 (24 * x + c) = b2 (W < c ∧ S 0 24 (24 * z + (c - W)) ≠ 0)) ∧ (∀ (b : Nat) (r c : Int), (b = 25 ∨ b = 26 ∨ b = 27) → 0 ≤ r → r < H → W ≤ c → c < W + U → S2 0 b (240 * x + 10 * c + r) = S 0 b (240 * z + 10 * (c - W) + r))
theorem joinR.mx {S S1 S2 : St} {x z W U H T : Int} (h : joinR S S1 S2 x z W U H T) : ∀ (a b : Nat) (i : Int), a ≠ 0 → S2 a b i = S1 a b i := h.1
theorem joinR.m19 {S S1 S2 : St} {x z W U H T : Int} (h : joinR S S1 S2 x z W U H T) : S2 0 19 z = 1 := h.2.1
theorem joinR.m16 {S S1 S2 : St} {x z W U H T : Int} (h : joinR S S1 S2 x z W U H T) : S2 0 16 x = W + U := h.2.2.1
theorem joinR.m27 {S S1 S2 : St} {x z W U H T : Int} (h : joinR S S1 S2 x z W U H T) : S2 0 0 27 = T := h.2.2.2.1
theorem joinR.mn {S S1 S2 : St} {x z W U H T : Int} (h : joinR S S1 S2 x z W U H T) : ∀ (b : Nat) (i : Int), ¬ ((b = 0 ∧ i = 27) ∨ (b = 19 ∧ i = z) ∨ (b = 16 ∧ i = x) ∨ ((b = 22 ∨ b = 23 ∨ b = 24) ∧ 24 * x + W ≤ i ∧ i < 24 * x + W + U) ∨ ((b = 25 ∨ b = 26 ∨ b = 27) ∧ 240 * x + 10 * W ≤ i ∧ i < 240 * x + 10 * (W + U))) → S2 0 b i = S 0 b i := h.2.2.2.2.1
theorem joinR.m22 {S S1 S2 : St} {x z W U H T : Int} (h : joinR S S1 S2 x z W U H T) : ∀ (b : Nat) (c : Int), (b = 22 ∨ b = 23) → W ≤ c → c < W + U → S2 0 b (24 * x + c) = S 0 b (24 * z + (c - W)) := h.2.2.2.2.2.1
theorem joinR.m24 {S S1 S2 : St} {x z W U H T : Int} (h : joinR S S1 S2 x z W U H T) : ∀ c, W ≤ c → c < W + U → S2 0 24 (24 * x + c) = b2 (W < c ∧ S 0 24 (24 * z + (c - W)) ≠ 0) := h.2.2.2.2.2.2.1
theorem joinR.mc {S S1 S2 : St} {x z W U H T : Int} (h : joinR S S1 S2 x z W U H T) : ∀ (b : Nat) (r c : Int), (b = 25 ∨ b = 26 ∨ b = 27) → 0 ≤ r → r < H → W ≤ c → c < W + U → S2 0 b (240 * x + 10 * c + r) = S 0 b (240 * z + 10 * (c - W) + r) := h.2.2.2.2.2.2.2
set_option maxHeartbeats 1000000 in
theorem join_cls {S S1 : St} {x z W U H V : Int} (hx0 : 0 ≤ x) (hz0 : 0 ≤ z) (hW : 1 ≤ W) (hU : 1 ≤ U) (hWU : W + U ≤ 24) (hH : H ≤ 10) (h7 : ∀ j, 0 ≤ j → j < 240 → 0 ≤ S (10 + x.toNat) 7 j ∧ S (10 + x.toNat) 7 j ≤ 100) (k7 : ∀ j, 0 ≤ j → j < 240 → 0 ≤ S (10 + z.toNat) 7 j ∧ S (10 + z.toNat) 7 j ≤ 100)
    (hs : S1 = st (st (apF S (10 + x.toNat) (10 + z.toNat) 0 W H U) 1 6 z 0) 3 1 0 V) : joinC S S1 x z W U H := by
  have c_n : ∀ (a b : Nat) (i : Int), ¬ joinX x z a b i → S1 a b i = S a b i := fun a b i y => by
    unfold joinX at y
    rw [hs, st_at, if_neg (by omega), st_at, if_neg (by omega), apF_x (by omega)]
  have c_o : ∀ (b : Nat) (i : Int), S1 (10 + x.toNat) b i = apF S (10 + x.toNat) (10 + z.toNat) 0 W H U (10 + x.toNat) b i := fun b i => by
    rw [hs, st_at, if_neg (by omega), st_at, if_neg (by omega)]
  have c16 : S1 1 6 z = 0 := by rw [hs, st_at, if_neg (by omega), st_at, if_pos ⟨rfl, rfl, rfl⟩]
  clear hs
  have p8 : ∀ i, ¬ (W ≤ i ∧ i < W + U) → S1 (10 + x.toNat) 8 i = S (10 + x.toNat) 8 i := fun i y => by
    rw [c_o]
    unfold apF
    rw [if_neg (by omega), if_neg (by omega), if_neg (by omega), if_neg (by unfold col3; omega)]
  have p9 : ∀ i, ¬ (W ≤ i ∧ i < W + U) → S1 (10 + x.toNat) 9 i = S (10 + x.toNat) 9 i := fun i y => by
    rw [c_o]
    unfold apF
    rw [if_neg (by omega), if_neg (by omega), if_neg (by omega), if_neg (by unfold col3; omega)]
  have pc : ∀ (b : Nat) (j : Int), col3 b → ¬ (0 ≤ j ∧ W ≤ j % 24 ∧ j % 24 < W + U ∧ j / 24 < H) → S1 (10 + x.toNat) b j = S (10 + x.toNat) b j := fun b j hb y => by
    rw [c_o]
    unfold apF
    unfold col3 at hb
    rw [if_neg (by omega), if_neg (by omega), if_neg (by omega), if_neg (fun u => y u.2.2)]
  have qc : ∀ (b : Nat) (j : Int), col3 b → (0 ≤ j ∧ W ≤ j % 24 ∧ j % 24 < W + U ∧ j / 24 < H) → S1 (10 + x.toNat) b j = S (10 + z.toNat) b (j - W) := fun b j hb y => by
    rw [c_o]
    unfold apF
    have hb' := hb
    unfold col3 at hb'
    rw [if_neg (by omega), if_neg (by omega), if_neg (by omega), if_pos ⟨rfl, hb, y⟩, show j - W + 0 = j - W by omega]
  refine ⟨c_n, c16, by rw [c_o, apF_0], fun b i y1 y2 => by rw [c_o, apF_o y1 y2], fun j j0 j1 => ?_, fun i y => p8 i (by omega), fun i y1 y2 => ?_, fun i y => p8 i (by omega), fun i y => p9 i (by omega), fun i y1 y2 => ?_, fun b r c hb r0 c0 c1 => pc b _ hb (by omega), fun b r c hb r0 r1 c0 c1 => ?_⟩
  · by_cases y : 0 ≤ j ∧ W ≤ j % 24 ∧ j % 24 < W + U ∧ j / 24 < H
    · rw [qc 7 j (by unfold col3; omega) y]; exact k7 (j - W) (by omega) (by omega)
    · rw [pc 7 j (by unfold col3; omega) y]; exact h7 j j0 j1
  · rw [c_o]
    unfold apF
    rw [if_neg (by omega), if_pos ⟨rfl, rfl, y1, y2⟩, show i - W + 0 = i - W by omega]
  · rw [c_o]
    unfold apF
    rw [if_neg (by omega), if_neg (by omega), if_pos ⟨rfl, rfl, y1, y2⟩, show i - W + 0 = i - W by omega]
  · rw [qc b _ hb (by omega), show r * 24 + c - W = r * 24 + (c - W) by omega]
set_option maxHeartbeats 1000000 in
theorem join_ref {S S1 S2 : St} {x z W U H T : Int} (hx0 : 0 ≤ x) (hz0 : 0 ≤ z) (hW : 1 ≤ W) (hU : 1 ≤ U) (hWU : W + U ≤ 24) (hH : H ≤ 10) (e0 : S1 0 = S 0) (hHz : S 0 17 z = H)
    (h5 : ∀ (a b : Nat) (i : Int), S2 a b i = if a = 0 ∧ b = 19 ∧ i = z then 1 else if a = 0 ∧ b = 16 ∧ i = x then W + U else cmF (st S1 0 0 27 T) z 0 x W U a b i) : joinR S S1 S2 x z W U H T := by
  have m_x : ∀ (a b : Nat) (i : Int), a ≠ 0 → S2 a b i = S1 a b i := fun a b i y => by
    rw [h5, if_neg (by omega), if_neg (by omega)]
    unfold cmF
    rw [if_neg (by omega), if_neg (by omega), if_neg (by omega), st_at, if_neg (by omega)]
  have m19 : S2 0 19 z = 1 := by rw [h5, if_pos ⟨rfl, rfl, rfl⟩]
  have m16 : S2 0 16 x = W + U := by rw [h5, if_neg (by omega), if_pos ⟨rfl, rfl, rfl⟩]
  have u17 : st S1 0 0 27 T 0 17 z = H := by rw [st_at, if_neg (by omega), e0, hHz]
  have u_n : ∀ (b : Nat) (i : Int), b ≠ 0 → st S1 0 0 27 T 0 b i = S 0 b i := fun b i y => by rw [st_at, if_neg (by omega), e0]
  have m_b : ∀ (b : Nat) (i : Int), ¬ (b = 19 ∧ i = z) → ¬ (b = 16 ∧ i = x) → S2 0 b i = cmF (st S1 0 0 27 T) z 0 x W U 0 b i := fun b i y1 y2 => by rw [h5, if_neg (by omega), if_neg (by omega)]
  clear h5
  have m27 : S2 0 0 27 = T := by rw [m_b 0 27 (by omega) (by omega), cmF_o _ _ _ _ _ _ (by decide), st_at, if_pos ⟨rfl, rfl, rfl⟩]
  have m_n : ∀ (b : Nat) (i : Int), ¬ ((b = 0 ∧ i = 27) ∨ (b = 19 ∧ i = z) ∨ (b = 16 ∧ i = x) ∨ ((b = 22 ∨ b = 23 ∨ b = 24) ∧ 24 * x + W ≤ i ∧ i < 24 * x + W + U) ∨ ((b = 25 ∨ b = 26 ∨ b = 27) ∧ 240 * x + 10 * W ≤ i ∧ i < 240 * x + 10 * (W + U))) → S2 0 b i = S 0 b i := fun b i y => by
    rw [m_b b i (by omega) (by omega)]
    unfold cmF
    rw [if_neg (by omega), if_neg (by omega), if_neg (by omega), st_at, if_neg (by omega), e0]
  have m22 : ∀ (b : Nat) (c : Int), (b = 22 ∨ b = 23) → W ≤ c → c < W + U → S2 0 b (24 * x + c) = S 0 b (24 * z + (c - W)) := fun b c hb c0 c1 => by
    rw [m_b b _ (by omega) (by omega)]
    unfold cmF
    rw [if_neg (by omega), if_pos ⟨rfl, hb, by omega, by omega⟩, u_n b _ (by omega), show 24 * z + 0 + (24 * x + c - (24 * x + W)) = 24 * z + (c - W) by omega]
  have m24 : ∀ c, W ≤ c → c < W + U → S2 0 24 (24 * x + c) = b2 (W < c ∧ S 0 24 (24 * z + (c - W)) ≠ 0) := fun c c0 c1 => by
    rw [m_b 24 _ (by omega) (by omega)]
    unfold cmF
    rw [if_pos ⟨rfl, rfl, by omega, by omega⟩, u_n 24 _ (by omega), show 24 * z + 0 + (24 * x + c - (24 * x + W)) = 24 * z + (c - W) by omega]
    refine b2_c ⟨fun y => ⟨by omega, y.2.2⟩, fun y => ⟨by omega, by omega, y.2⟩⟩
  have mc : ∀ (b : Nat) (r c : Int), (b = 25 ∨ b = 26 ∨ b = 27) → 0 ≤ r → r < H → W ≤ c → c < W + U → S2 0 b (240 * x + 10 * c + r) = S 0 b (240 * z + 10 * (c - W) + r) := fun b r c hb r0 r1 c0 c1 => by
    rw [m_b b _ (by omega) (by omega)]
    unfold cmF
    rw [u17, if_neg (by omega), if_neg (by omega), if_pos ⟨rfl, hb, by omega, by omega, by omega⟩, u_n b _ (by omega), show 240 * z + 10 * 0 + (240 * x + 10 * c + r - (240 * x + 10 * W)) = 240 * z + 10 * (c - W) + r by omega]
  exact ⟨m_x, m19, m16, m27, m_n, m22, m24, mc⟩
theorem join_E {S S1 S2 : St} {x z W U H T : Int} (C : joinC S S1 x z W U H) (R : joinR S S1 S2 x z W U H T) (hW : 0 ≤ W) (hWU : W + U ≤ 24) : ∀ (a b : Nat) (i : Int), ¬ joinX x z a b i → S2 a b i = S a b i := fun a b i y => by
  by_cases ha : a = 0
  · subst ha
    refine R.mn b i (fun u => y (Or.inl ⟨rfl, ?_⟩))
    rcases u with u | u | u | u | u
    · exact Or.inl u
    · exact Or.inr (Or.inl u)
    · exact Or.inr (Or.inr (Or.inl u))
    · exact Or.inr (Or.inr (Or.inr (Or.inl ⟨u.1, by omega, by omega⟩)))
    · exact Or.inr (Or.inr (Or.inr (Or.inr ⟨u.1, by omega, by omega⟩)))
  · rw [R.mx a b i ha, C.n a b i y]
set_option maxHeartbeats 1000000 in
theorem join_x {S S1 S2 : St} {x z W U H T : Int} (hx0 : 0 ≤ x) (hW : 1 ≤ W) (hU : 1 ≤ U) (hWU : W + U ≤ 24) (hH : 1 ≤ H ∧ H ≤ 10) (C : joinC S S1 x z W U H) (R : joinR S S1 S2 x z W U H T) (hL : lgr S S2)
    (hR : pR S (10 + x.toNat) x) (hX : pX S (10 + x.toNat) x) (hY : pY S (10 + x.toNat) x) (kR : pR S (10 + z.toNat) z) (kX : pX S (10 + z.toNat) z) (kY : pY S (10 + z.toNat) z) (hWe : S 0 16 x = W) (hHe : S 0 17 x = H) (hUe : S 0 16 z = U) (hHz : S 0 17 z = H) (hv : S 0 18 x ≤ 4) (hd : dnM S x)
    (hal : ∀ c r, 0 ≤ c → c < W → 0 ≤ r → r < H → 0 ≤ S 0 26 (240 * x + 10 * c + r)) (kal : ∀ c r, 0 ≤ c → c < U → 0 ≤ r → r < H → 0 ≤ S 0 26 (240 * z + 10 * c + r)) : iP S2 x := by
  obtain ⟨ga, g0, g1, g2, -, -, h4, h7, h8⟩ := hR
  have k8 := kR.2.2.2.2.2.2.2.2
  clear kR
  unfold pX at hX kX
  unfold pY at hY kY
  rw [hWe] at hX hY
  rw [hUe] at kX kY
  rw [hHe] at hX g1
  rw [hHz] at kX
  have X : ∀ (b : Nat) (i : Int), S2 (10 + x.toNat) b i = S1 (10 + x.toNat) b i := fun b i => R.mx _ b i (by omega)
  have f17 : S2 0 17 x = H := by rw [R.mn 17 x (by omega), hHe]
  have f18 : S2 0 18 x = S 0 18 x := R.mn _ _ (by omega)
  have f20 : ∀ i, S2 0 20 i = S 0 20 i := fun i => R.mn _ _ (by omega)
  have f2 : ∀ (b : Nat) (c : Int), (b = 22 ∨ b = 23 ∨ b = 24) → c < W → S2 0 b (24 * x + c) = S 0 b (24 * x + c) := fun b i y1 y2 => R.mn b _ (by omega)
  have f25 : ∀ (b : Nat) (c r : Int), (b = 25 ∨ b = 26 ∨ b = 27) → c < W → r < 10 → S2 0 b (240 * x + 10 * c + r) = S 0 b (240 * x + 10 * c + r) := fun b c r y1 y2 y3 => R.mn b _ (by omega)
  have m0 := R.m16
  have m22 := R.m22
  have m24 := R.m24
  have mc := R.mc
  clear R
  refine ⟨⟨by rw [X, C.xo _ _ (by decide) (by decide)]; exact ga, by rw [X, C.x0, m0], by rw [X, C.xo _ _ (by decide) (by decide), f17]; exact g1, by rw [X, C.xo _ _ (by decide) (by decide), f18]; exact g2, by rw [m0]; omega, by rw [f17]; exact hH, fun w w0 w1 => by rw [X, C.xo 4 _ (by decide) (by omega), f20]; exact h4 w w0 w1, fun j j0 j1 => by rw [X]; exact C.x7 j j0 j1, fun j j0 j1 => ?_⟩, fun c r c0 c1 r0 r1 => ?_, fun c c0 c1 => ?_, Or.inl ⟨fun j j0 j1 => ?_, fun c r c0 c1 r0 r1 => ?_⟩⟩
  · rw [X]
    by_cases y : j < W
    · rw [C.p8 j y]; exact h8 j j0 j1
    · by_cases y2 : j < W + U
      · rw [C.q8 j (by omega) y2]; exact k8 _ (by omega) (by omega)
      · rw [C.r8 j (by omega)]; exact h8 j j0 j1
  · rw [m0] at c1
    rw [f17] at r1
    rw [X 5, X 6, X 7]
    by_cases y : c < W
    · rw [C.pc 5 r c (by decide) r0 c0 y, C.pc 6 r c (by decide) r0 c0 y, C.pc 7 r c (by decide) r0 c0 y, f25 25 c r (by decide) y (by omega), f25 26 c r (by decide) y (by omega), f25 27 c r (by decide) y (by omega)]
      obtain ⟨a1, a2, a3, a4⟩ := hX c r c0 y r0 r1
      exact ⟨a1, a2, a3, okc_keep hL a4⟩
    · have yy : W ≤ c := by omega
      rw [C.qc 5 r c (by decide) r0 r1 yy c1, C.qc 6 r c (by decide) r0 r1 yy c1, C.qc 7 r c (by decide) r0 r1 yy c1, mc 25 r c (by decide) r0 r1 yy c1, mc 26 r c (by decide) r0 r1 yy c1, mc 27 r c (by decide) r0 r1 yy c1]
      obtain ⟨a1, a2, a3, a4⟩ := kX (c - W) r (by omega) (by omega) r0 r1
      exact ⟨a1, a2, a3, okc_keep hL a4⟩
  · rw [m0] at c1
    rw [X 8, X 9]
    by_cases y : c < W
    · rw [C.p8 c y, C.p9 c y, f2 22 c (by decide) y, f2 23 c (by decide) y, f2 24 c (by decide) y]
      exact hY c c0 y
    · have yy : W ≤ c := by omega
      obtain ⟨b1, b3, b4, b5⟩ := kY (c - W) (by omega) (by omega)
      rw [C.q8 c yy c1, C.q9 c yy c1, m22 22 c (by decide) yy c1, m22 23 c (by decide) yy c1, m24 c yy c1, b1]
      exact ⟨rfl, b3, b4, b5⟩
  · rw [f18] at j1
    rw [f20, f17, ← hHe]
    exact hd j j0 j1
  · rw [m0] at c1
    rw [f17] at r1
    by_cases y : c < W
    · rw [f25 26 c r (by decide) y (by omega)]
      have := hal c r c0 y r0 r1
      omega
    · rw [mc 26 r c (by decide) r0 r1 (by omega) c1]
      have := kal (c - W) r (by omega) (by omega) r0 r1
      omega
set_option maxHeartbeats 1000000 in
theorem join_m {S S1 S2 : St} {x z W U H T : Int} (hm : wM S) (hW : 1 ≤ W) (hU : 1 ≤ U) (hWU : W + U ≤ 24) (R : joinR S S1 S2 x z W U H T) : wM S2 := by
  have mn0 : ∀ i, i ≠ 27 → S2 0 0 i = S 0 0 i := fun i y1 => R.mn 0 i (by omega)
  have m16 : ∀ y, y ≠ x → S2 0 16 y = S 0 16 y := fun y y1 => R.mn 16 y (by omega)
  have ml : ∀ (b : Nat) (i : Int), b = 4 ∨ b = 5 ∨ b = 17 ∨ b = 18 ∨ b = 20 ∨ b = 21 → S2 0 b i = S 0 b i := fun b i y => R.mn b i (by omega)
  have p16 := R.m16
  clear R
  refine ⟨by rw [mn0 _ (by decide)]; exact hm.al, by rw [mn0 _ (by decide)]; exact hm.le, by rw [mn0 _ (by decide)]; exact hm.cs, by rw [mn0 _ (by decide)]; exact hm.lt, by rw [mn0 _ (by decide)]; exact hm.ps, fun y h0 h1 => by rw [ml 4 _ (by decide), ml 5 _ (by decide)]; exact hm.cw y h0 h1, fun y h0 h1 => ?_, fun y h0 h1 => ?_, fun y h0 h1 => by rw [ml 20 _ (by decide)]; exact hm.wv y h0 h1⟩
  · have hpy := hm.pc y h0 h1
    rw [ml 17 _ (by decide), ml 18 _ (by decide), ml 21 _ (by decide)]
    by_cases hyx : y = x
    · rw [hyx] at hpy ⊢
      rw [p16]
      exact ⟨by omega, hWU, hpy.2.2⟩
    · rw [m16 y hyx]
      exact hpy
  · rw [mn0 _ (by decide)] at h1
    rw [ml 17 _ (by decide)]
    exact hm.pr y h0 h1
set_option maxHeartbeats 1000000 in
theorem join_i {S S1 S2 : St} {x z W U H T : Int} (hI : Inv S) (hx : isP S x) (hz : isP S z) (hW : 1 ≤ W) (hU : 1 ≤ U) (hWU : W + U ≤ 24) (C : joinC S S1 x z W U H) (R : joinR S S1 S2 x z W U H T) (hL : lgr S S2) (E : ∀ (a b : Nat) (i : Int), ¬ joinX x z a b i → S2 a b i = S a b i) (hm : wM S2) (ix : iP S2 x) : Inv S2 := by
  have hun := hI.p.2.2.2.1
  have hj := hI.p.2.1
  have hps := hI.m.ps
  have hx0 := hx.1
  have hx1 := hx.2.1
  have hz0 := hz.1
  have hz1 := hz.2.1
  have m19 : S2 0 19 z = 1 := R.m19
  have n19 : ∀ y, y ≠ z → S2 0 19 y = S 0 19 y := fun y h => R.mn 19 y (by omega)
  have p14 : S2 0 0 14 = S 0 0 14 := R.mn 0 14 (by omega)
  have k6 : S2 1 6 z = 0 := by rw [R.mx 1 6 z (by decide)]; exact C.k6
  have m22 := R.m22
  have mn := R.mn
  clear R C
  refine ⟨hm, ⟨by rw [E 1 0 (-1) (by unfold joinX; omega)]; exact hI.a1, by rw [E 2 0 (-1) (by unfold joinX; omega)]; exact hI.a2, by rw [E 3 0 (-1) (by unfold joinX; omega)]; exact hI.a3⟩, iW_keep hI.w (fun a b i y => E a b i ?_), iCs_keep hI.c hI.m (fun a b i y => E a b i ?_), iL_keep hI.l (fun a b i y => E a b i ?_), iPs_gen hI.p hI.m hL (by rw [E 1 0 6 (by unfold joinX; omega), p14]; exact hI.p.1) (fun j => ?_) (fun y hy => ?_) (fun y y0 y1 => ?_) (fun j j0 j1 => ?_)⟩
  · clear hun hj mn m22 n19 E
    unfold joinX
    omega
  · clear hun hj mn m22 n19 E
    unfold joinX
    omega
  · clear hun hj mn m22 n19 E
    unfold joinX
    omega
  · rw [p14]
    by_cases hj1 : (j : Int) = z
    · rw [hj1, k6, m19]
      exact ⟨fun u => absurd u (by decide), fun u => absurd u.2 (by decide)⟩
    · rw [E 1 6 j (by unfold joinX; omega), n19 j hj1]
      exact hj j
  · unfold isP at hy
    rw [p14] at hy
    by_cases hyz : y = z
    · rw [hyz, m19] at hy
      exact absurd hy.2.2 (by decide)
    · rw [n19 y hyz] at hy
      by_cases hyx : y = x
      · right
        rw [hyx]
        exact ix
      · left
        refine ⟨hy, fun a b i u => E a b i ?_⟩
        have hy0 := hy.1
        clear hun hj mn m22 n19 E m19 p14 k6 hy hx1 hz1 hW hU hWU hx hz hps
        unfold pS at u
        unfold joinX
        omega
  · rw [p14] at y0
    obtain ⟨u1, u2, u3, u4⟩ := hun y y0 y1
    exact ⟨by rw [mn 18 _ (by omega)]; exact u1, by rw [n19 y (by omega)]; exact u2, fun w w0 w1 => by rw [mn 20 _ (by omega)]; exact u3 w w0 w1, fun k k0 k1 => by rw [mn 27 _ (by omega)]; exact u4 k k0 k1⟩
  · by_cases hj1 : 24 * x + W ≤ j ∧ j < 24 * x + W + U
    · have := m22 23 (j - 24 * x) (by decide) (by omega) (by omega)
      rw [show 24 * x + (j - 24 * x) = j by omega] at this
      rw [this]
      exact hI.hfc _ (by omega) (by omega)
    · rw [mn 23 j (by omega)]
      exact hI.hfc j j0 j1
set_option maxHeartbeats 4000000 in
theorem sim_join {S S1 S2 : St} {ad ad1 ad2 : Nat → Nat → Nat} {r1 r2 : Option Value} {x z : Int} (hI : Inv S) (hrn : rng x) (hrn2 : rng z) (h1 : lhP ad (peC S x ∧ peC S z) (x ≠ z) (dnC S (10 + x.toNat) ∧ dnC S (10 + z.toNat) ∧ S (10 + x.toNat) 0 1 = S (10 + z.toNat) 0 1 ∧ S (10 + x.toNat) 0 0 + S (10 + z.toNat) 0 0 ≤ 24) S (st (jnS S (10 + x.toNat) (10 + z.toNat) z) 3 1 0 (b2 (jnS S (10 + x.toNat) (10 + z.toNat) z (10 + x.toNat) 8 (S (10 + x.toNat) 0 0 - 1) + 1 = jnS S (10 + x.toNat) (10 + z.toNat) z (10 + x.toNat) 8 (S (10 + x.toNat) 0 0)))) r1 ad1 S1) (h2 : (mPz ad1 ((isP S1 x) ∧ (isP S1 z)) (x ≠ z) (((isP S1 x) ∧ (isP S1 z)) ∧ (dnM S1 x) ∧ (dnM S1 z) ∧ ((S1 0 17 x) = (S1 0 17 z)) ∧ (((S1 0 16 x) + (S1 0 16 z)) ≤ 24)) S1 (fun Z => some (.int (i32 (b2 (riM Z x (S1 0 16 x)))))) (fun Z => ∀ (a1 b1 : Nat) (i1 : Int), Z a1 b1 i1 = if a1 = 0 ∧ b1 = 19 ∧ i1 = z then 1 else if a1 = 0 ∧ b1 = 16 ∧ i1 = x then (S1 0 16 x) + (S1 0 16 z) else cmF (st S1 0 0 27 (thr ((isP S1 x) ∧ (isP S1 z)) (x ≠ z) (((isP S1 x) ∧ (isP S1 z)) ∧ (dnM S1 x) ∧ (dnM S1 z) ∧ ((S1 0 17 x) = (S1 0 17 z)) ∧ (((S1 0 16 x) + (S1 0 16 z)) ≤ 24)))) z 0 x (S1 0 16 x) (S1 0 16 z) a1 b1 i1)) r2 ad2 S2) : GdB ad (thr (peC S x ∧ peC S z) (x ≠ z) (dnC S (10 + x.toNat) ∧ dnC S (10 + z.toNat) ∧ S (10 + x.toNat) 0 1 = S (10 + z.toNat) 0 1 ∧ S (10 + x.toNat) 0 0 + S (10 + z.toNat) 0 0 ≤ 24)) r2 ad2 S2 := by
  have e0 := lhP_0 h1 zk_join.1
  have ek := (lhP_k h1).2
  have hk : thr ((isP S1 x) ∧ (isP S1 z)) (x ≠ z) (((isP S1 x) ∧ (isP S1 z)) ∧ (dnM S1 x) ∧ (dnM S1 z) ∧ ((S1 0 17 x) = (S1 0 17 z)) ∧ (((S1 0 16 x) + (S1 0 16 z)) ≤ 24)) = thr (peC S x ∧ peC S z) (x ≠ z) (dnC S (10 + x.toNat) ∧ dnC S (10 + z.toNat) ∧ S (10 + x.toNat) 0 1 = S (10 + z.toNat) 0 1 ∧ S (10 + x.toNat) 0 0 + S (10 + z.toNat) 0 0 ≤ 24) := by
    refine thr_c (by rw [isP_e e0, isP_e e0, hI.pe, hI.pe]) (fun _ => Iff.rfl) (fun y _ => ?_)
    have hx := hI.pe.mp y.1
    have hz := hI.pe.mp y.2
    obtain ⟨⟨-, g0, g1, -⟩, -⟩ := hI.ip hx
    obtain ⟨⟨-, k0, k1, -⟩, -⟩ := hI.ip hz
    rw [isP_e e0, isP_e e0, dnM_e e0, dnM_e e0, e0, hI.dn hx, hI.dn hz, g0, g1, k0, k1]
    exact ⟨fun u => ⟨⟨hx, hz⟩, u⟩, fun u => u.2⟩
  rcases h1.2 with ⟨hn, ha, hs⟩ | ⟨hc, ha, hs⟩
  · rw [ha, hs] at h2
    rw [hs] at hk
    exact sim_nzb hI hk hn h2
  · obtain ⟨h3, h4, h5⟩ := mPz_y (hk.trans (thr_z.mpr hc)) h2
    rw [h3]
    rw [hk] at h5
    have hx := hI.pe.mp hc.1.1
    have hz := hI.pe.mp hc.1.2
    have hx20 := hI.x20 hx
    obtain ⟨hR, hX, hY, -⟩ := hI.ip hx
    obtain ⟨kR, kX, kY, -⟩ := hI.ip hz
    obtain ⟨-, g0, g1, -, hW, hH, -, h7, -⟩ := id hR
    obtain ⟨-, k0, k1, -, kW, kH, -, k7, -⟩ := id kR
    have hp := hI.m.pc x hx20.1 hx20.2
    have hdx := (hI.dn hx).mp hc.2.2.1
    have hdz := (hI.dn hz).mp hc.2.2.2.1
    have hal := hI.alw hx hdx
    have kal := hI.alw hz hdz
    have hHH := hc.2.2.2.2.1
    have hWW := hc.2.2.2.2.2
    rw [g1, k1] at hHH
    rw [g0, k0] at hWW
    generalize hT : thr (peC S x ∧ peC S z) (x ≠ z) (dnC S (10 + x.toNat) ∧ dnC S (10 + z.toNat) ∧ S (10 + x.toNat) 0 1 = S (10 + z.toNat) 0 1 ∧ S (10 + x.toNat) 0 0 + S (10 + z.toNat) 0 0 ≤ 24) = T at h5 ⊢
    simp only [e0] at h4 h5
    generalize hV : b2 (jnS S (10 + x.toNat) (10 + z.toNat) z (10 + x.toNat) 8 (S (10 + x.toNat) 0 0 - 1) + 1 = jnS S (10 + x.toNat) (10 + z.toNat) z (10 + x.toNat) 8 (S (10 + x.toNat) 0 0)) = V at hs
    have c8 : ∀ j, jnS S (10 + x.toNat) (10 + z.toNat) z (10 + x.toNat) 8 j = S1 (10 + x.toNat) 8 j := fun j => by rw [hs, st_at, if_neg (by omega)]
    have c3 : S1 3 1 0 = V := by rw [hs, st_at, if_pos ⟨rfl, rfl, rfl⟩]
    rw [g0, c8, c8] at hV
    unfold jnS at hs
    rw [g0, g1, k0, Int.sub_zero] at hs
    clear c8
    obtain ⟨W, hWe⟩ : ∃ W, S 0 16 x = W := ⟨_, rfl⟩
    obtain ⟨H, hHe⟩ : ∃ H, S 0 17 x = H := ⟨_, rfl⟩
    obtain ⟨U, hUe⟩ : ∃ U, S 0 16 z = U := ⟨_, rfl⟩
    have hHz : S 0 17 z = H := hHH.symm.trans hHe
    rw [hWe, hUe] at hs h5 hWW
    rw [hWe] at hW hV h4 hal
    rw [hHe] at hH hs hal
    rw [hUe] at kW kal
    rw [hHz] at kal
    have C := join_cls hx.1 hz.1 hW.1 kW.1 hWW hH.2 h7 k7 hs
    have R := join_ref hx.1 hz.1 hW.1 kW.1 hWW hH.2 e0 hHz h5
    clear h5 hs
    have hL : lgr S S2 := lgr_e (fun b i y => R.mn b i (by omega))
    have E := join_E C R (by omega) hWW
    have ix : iP S2 x := join_x hx.1 hW.1 kW.1 hWW hH C R hL hR hX hY kR kX kY hWe hHe hUe hHz hp.2.2.2.2.2.1 hdx (fun c r c0 c1 r0 r1 => (hal c r c0 c1 r0 r1).1) (fun c r c0 c1 r0 r1 => (kal c r c0 c1 r0 r1).1)
    have e8 : ∀ j, S2 (10 + x.toNat) 8 j = S1 (10 + x.toNat) 8 j := fun j => R.mx _ 8 j (by omega)
    have hri := ri_eq ix.2.2.1 hW.1 (by rw [R.m16]; omega)
    rw [e8, e8] at hri
    exact ⟨⟨_, h4, fun _ => by rw [R.mx 3 1 0 (by decide), c3, ← hV]; exact b2_c hri⟩, R.m27, join_i hI hx hz hW.1 kW.1 hWW C R hL E (join_m hI.m hW.1 kW.1 hWW R) ix, ek⟩
