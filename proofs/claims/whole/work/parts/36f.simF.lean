/-- where a cut writes -/
def cutX (x N : Int) (a b : Nat) (i : Int) : Prop := (a = 0 ∧ ((b = 0 ∧ (i = 14 ∨ i = 27)) ∨ (b = 16 ∧ (i = x ∨ i = N)) ∨ (b = 17 ∧ i = N) ∨ ((b = 22 ∨ b = 23 ∨ b = 24) ∧ 24 * N ≤ i ∧ i < 24 * N + 24) ∨ ((b = 25 ∨ b = 26 ∨ b = 27) ∧ 240 * N ≤ i ∧ i < 240 * N + 240))) ∨ (a = 3 ∧ b = 1) ∨ (a = 1 ∧ ((b = 6 ∧ i = N) ∨ (b = 0 ∧ i = 6))) ∨ a = 10 + N.toNat ∨ (a = 10 + x.toNat ∧ b = 0 ∧ i = 0)
/-- the class's side of a cut -/
def cutC (S S1 : St) (x N q W H : Int) : Prop := (∀ (a b : Nat) (i : Int), ¬ cutX x N a b i → S1 a b i = S a b i) ∧ (S1 1 6 N = 1) ∧ (S1 1 0 6 = N + 1) ∧ (S1 3 1 0 = wr N) ∧ (S1 (10 + x.toNat) 0 0 = q) ∧ (S1 (10 + N.toNat) 0 (-1) = 1) ∧ (S1 (10 + N.toNat) 0 0 = W - q) ∧ (S1 (10 + N.toNat) 0 1 = H) ∧ (S1 (10 + N.toNat) 0 2 = 0) ∧ (∀ i, S1 (10 + N.toNat) 4 i = 0) ∧ (∀ j, 0 ≤ j → j < 240 → 0 ≤ S1 (10 + N.toNat) 7 j ∧ S1 (10 + N.toNat) 7 j ≤ 100) ∧ (∀ i, S1 (10 + N.toNat) 8 i = if 0 ≤ i ∧ i < W - q then S (10 + x.toNat) 8 (i + q) else 0) ∧ (∀ c, 0 ≤ c → c < W - q → S1 (10 + N.toNat) 9 c = b2 (0 < c ∧ S (10 + x.toNat) 9 (c + q) ≠ 0)) ∧ (∀ (b : Nat) (r c : Int), (b = 5 ∨ b = 6 ∨ b = 7) → 0 ≤ r → r < H → 0 ≤ c → c < W - q → S1 (10 + N.toNat) b (r * 24 + c) = S (10 + x.toNat) b (r * 24 + (c + q)))
theorem cutC.n {S S1 : St} {x N q W H : Int} (h : cutC S S1 x N q W H) : ∀ (a b : Nat) (i : Int), ¬ cutX x N a b i → S1 a b i = S a b i := h.1
theorem cutC.k6 {S S1 : St} {x N q W H : Int} (h : cutC S S1 x N q W H) : S1 1 6 N = 1 := h.2.1
theorem cutC.k0 {S S1 : St} {x N q W H : Int} (h : cutC S S1 x N q W H) : S1 1 0 6 = N + 1 := h.2.2.1
theorem cutC.k3 {S S1 : St} {x N q W H : Int} (h : cutC S S1 x N q W H) : S1 3 1 0 = wr N := h.2.2.2.1
theorem cutC.x0 {S S1 : St} {x N q W H : Int} (h : cutC S S1 x N q W H) : S1 (10 + x.toNat) 0 0 = q := h.2.2.2.2.1
theorem cutC.oa {S S1 : St} {x N q W H : Int} (h : cutC S S1 x N q W H) : S1 (10 + N.toNat) 0 (-1) = 1 := h.2.2.2.2.2.1
theorem cutC.o0 {S S1 : St} {x N q W H : Int} (h : cutC S S1 x N q W H) : S1 (10 + N.toNat) 0 0 = W - q := h.2.2.2.2.2.2.1
theorem cutC.o1 {S S1 : St} {x N q W H : Int} (h : cutC S S1 x N q W H) : S1 (10 + N.toNat) 0 1 = H := h.2.2.2.2.2.2.2.1
theorem cutC.o2 {S S1 : St} {x N q W H : Int} (h : cutC S S1 x N q W H) : S1 (10 + N.toNat) 0 2 = 0 := h.2.2.2.2.2.2.2.2.1
theorem cutC.o4 {S S1 : St} {x N q W H : Int} (h : cutC S S1 x N q W H) : ∀ i, S1 (10 + N.toNat) 4 i = 0 := h.2.2.2.2.2.2.2.2.2.1
theorem cutC.o7 {S S1 : St} {x N q W H : Int} (h : cutC S S1 x N q W H) : ∀ j, 0 ≤ j → j < 240 → 0 ≤ S1 (10 + N.toNat) 7 j ∧ S1 (10 + N.toNat) 7 j ≤ 100 := h.2.2.2.2.2.2.2.2.2.2.1
theorem cutC.o8 {S S1 : St} {x N q W H : Int} (h : cutC S S1 x N q W H) : ∀ i, S1 (10 + N.toNat) 8 i = if 0 ≤ i ∧ i < W - q then S (10 + x.toNat) 8 (i + q) else 0 := h.2.2.2.2.2.2.2.2.2.2.2.1
theorem cutC.o9 {S S1 : St} {x N q W H : Int} (h : cutC S S1 x N q W H) : ∀ c, 0 ≤ c → c < W - q → S1 (10 + N.toNat) 9 c = b2 (0 < c ∧ S (10 + x.toNat) 9 (c + q) ≠ 0) := h.2.2.2.2.2.2.2.2.2.2.2.2.1
theorem cutC.oc {S S1 : St} {x N q W H : Int} (h : cutC S S1 x N q W H) : ∀ (b : Nat) (r c : Int), (b = 5 ∨ b = 6 ∨ b = 7) → 0 ≤ r → r < H → 0 ≤ c → c < W - q → S1 (10 + N.toNat) b (r * 24 + c) = S (10 + x.toNat) b (r * 24 + (c + q)) := h.2.2.2.2.2.2.2.2.2.2.2.2.2
/-- the reference's side of a cut -/
def cutR (S S1 S2 : St) (x N q W H T : Int) : Prop := (∀ (a b : Nat) (i : Int), a ≠ 0 → S2 a b i = S1 a b i) ∧ (S2 0 0 14 = N + 1) ∧ (S2 0 16 x = q) ∧ (S2 0 0 27 = T) ∧ (S2 0 16 N = W - q) ∧ (S2 0 17 N = H) ∧ (∀ (b : Nat) (i : Int), ¬ ((b = 0 ∧ (i = 14 ∨ i = 27)) ∨ (b = 16 ∧ (i = x ∨ i = N)) ∨ (b = 17 ∧ i = N) ∨ ((b = 22 ∨ b = 23 ∨ b = 24) ∧ 24 * N ≤ i ∧ i < 24 * N + (W - q)) ∨ ((b = 25 ∨ b = 26 ∨ b = 27) ∧ 240 * N ≤ i ∧ i < 240 * N + 240)) → S2 0 b i = S 0 b i) ∧ (∀ (b : Nat) (c : Int), (b = 22 ∨ b = 23) → 0 ≤ c → c < W - q → S2 0 b (24 * N + c) = S 0 b (24 * x + (c + q))) ∧ (∀ c, 0 ≤ c → c < W - q → S2 0 24 (24 * N + c) = b2 (0 < c ∧ S 0 24 (24 * x + (c + q)) ≠ 0)) ∧ (∀ (b : Nat) (r c : Int), (b = 25 ∨ b = 26 ∨ b = 27) → 0 ≤ r → r < H → 0 ≤ c → c < W - q → S2 0 b (240 * N + 10 * c + r) = S 0 b (240 * x + 10 * (c + q) + r))
theorem cutR.mx {S S1 S2 : St} {x N q W H T : Int} (h : cutR S S1 S2 x N q W H T) : ∀ (a b : Nat) (i : Int), a ≠ 0 → S2 a b i = S1 a b i := h.1
theorem cutR.m14 {S S1 S2 : St} {x N q W H T : Int} (h : cutR S S1 S2 x N q W H T) : S2 0 0 14 = N + 1 := h.2.1
theorem cutR.m16x {S S1 S2 : St} {x N q W H T : Int} (h : cutR S S1 S2 x N q W H T) : S2 0 16 x = q := h.2.2.1
theorem cutR.m27 {S S1 S2 : St} {x N q W H T : Int} (h : cutR S S1 S2 x N q W H T) : S2 0 0 27 = T := h.2.2.2.1
theorem cutR.m16 {S S1 S2 : St} {x N q W H T : Int} (h : cutR S S1 S2 x N q W H T) : S2 0 16 N = W - q := h.2.2.2.2.1
theorem cutR.m17 {S S1 S2 : St} {x N q W H T : Int} (h : cutR S S1 S2 x N q W H T) : S2 0 17 N = H := h.2.2.2.2.2.1
theorem cutR.mn {S S1 S2 : St} {x N q W H T : Int} (h : cutR S S1 S2 x N q W H T) : ∀ (b : Nat) (i : Int), ¬ ((b = 0 ∧ (i = 14 ∨ i = 27)) ∨ (b = 16 ∧ (i = x ∨ i = N)) ∨ (b = 17 ∧ i = N) ∨ ((b = 22 ∨ b = 23 ∨ b = 24) ∧ 24 * N ≤ i ∧ i < 24 * N + (W - q)) ∨ ((b = 25 ∨ b = 26 ∨ b = 27) ∧ 240 * N ≤ i ∧ i < 240 * N + 240)) → S2 0 b i = S 0 b i := h.2.2.2.2.2.2.1
theorem cutR.m22 {S S1 S2 : St} {x N q W H T : Int} (h : cutR S S1 S2 x N q W H T) : ∀ (b : Nat) (c : Int), (b = 22 ∨ b = 23) → 0 ≤ c → c < W - q → S2 0 b (24 * N + c) = S 0 b (24 * x + (c + q)) := h.2.2.2.2.2.2.2.1
theorem cutR.m24 {S S1 S2 : St} {x N q W H T : Int} (h : cutR S S1 S2 x N q W H T) : ∀ c, 0 ≤ c → c < W - q → S2 0 24 (24 * N + c) = b2 (0 < c ∧ S 0 24 (24 * x + (c + q)) ≠ 0) := h.2.2.2.2.2.2.2.2.1
theorem cutR.mc {S S1 S2 : St} {x N q W H T : Int} (h : cutR S S1 S2 x N q W H T) : ∀ (b : Nat) (r c : Int), (b = 25 ∨ b = 26 ∨ b = 27) → 0 ≤ r → r < H → 0 ≤ c → c < W - q → S2 0 b (240 * N + 10 * c + r) = S 0 b (240 * x + 10 * (c + q) + r) := h.2.2.2.2.2.2.2.2.2
set_option maxHeartbeats 1000000 in
theorem cut_cls {S S1 : St} {x N q W H : Int} (hx0 : 0 ≤ x) (hxN : x < N) (hq : 1 ≤ q ∧ q < W) (hW : W ≤ 24) (hH : H ≤ 10) (h7 : ∀ j, 0 ≤ j → j < 240 → 0 ≤ S (10 + x.toNat) 7 j ∧ S (10 + x.toNat) 7 j ≤ 100)
    (hs : S1 = st (st (st (st (apF (nwS S (10 + N.toNat) (fun i => if i = -1 then 1 else if i = 1 then H else if i = 2 then 0 else 0)) (10 + N.toNat) (10 + x.toNat) q 0 H (W - q)) (10 + x.toNat) 0 0 q) 1 6 N 1) 1 0 6 (N + 1)) 3 1 0 (wr N)) : cutC S S1 x N q W H := by
  have c_n : ∀ (a b : Nat) (i : Int), ¬ cutX x N a b i → S1 a b i = S a b i := fun a b i y => by
    unfold cutX at y
    rw [hs, st_at, if_neg (by omega), st_at, if_neg (by omega), st_at, if_neg (by omega), st_at, if_neg (by omega), apF_x (by omega), nwS_n (by omega)]
  have c_o : ∀ (b : Nat) (i : Int), S1 (10 + N.toNat) b i = apF (nwS S (10 + N.toNat) (fun i => if i = -1 then 1 else if i = 1 then H else if i = 2 then 0 else 0)) (10 + N.toNat) (10 + x.toNat) q 0 H (W - q) (10 + N.toNat) b i := fun b i => by
    rw [hs, st_at, if_neg (by omega), st_at, if_neg (by omega), st_at, if_neg (by omega), st_at, if_neg (by omega)]
  have c16 : S1 1 6 N = 1 := by rw [hs, st_at, if_neg (by omega), st_at, if_neg (by omega), st_at, if_pos ⟨rfl, rfl, rfl⟩]
  have c106 : S1 1 0 6 = N + 1 := by rw [hs, st_at, if_neg (by omega), st_at, if_pos ⟨rfl, rfl, rfl⟩]
  have c31 : S1 3 1 0 = wr N := by rw [hs, st_at, if_pos ⟨rfl, rfl, rfl⟩]
  have cx0 : S1 (10 + x.toNat) 0 0 = q := by rw [hs, st_at, if_neg (by omega), st_at, if_neg (by omega), st_at, if_neg (by omega), st_at, if_pos ⟨rfl, rfl, rfl⟩]
  have o0 : S1 (10 + N.toNat) 0 0 = W - q := by rw [c_o, apF_0]; omega
  have oz : ∀ (b : Nat) (i : Int), b ≠ 5 ∧ b ≠ 6 ∧ b ≠ 7 ∧ b ≠ 8 ∧ b ≠ 9 → ¬ (b = 0 ∧ i = 0) → S1 (10 + N.toNat) b i = if b = 0 then (if i = -1 then 1 else if i = 1 then H else if i = 2 then 0 else 0) else 0 := fun b i y1 y2 => by
    rw [c_o, apF_o y1 y2]
    unfold nwS
    rw [if_pos rfl]
  have oa : S1 (10 + N.toNat) 0 (-1) = 1 := by rw [oz _ _ (by decide) (by decide)]; simp
  have o1 : S1 (10 + N.toNat) 0 1 = H := by rw [oz _ _ (by decide) (by decide)]; simp
  have o2 : S1 (10 + N.toNat) 0 2 = 0 := by rw [oz _ _ (by decide) (by decide)]; simp
  have o4 : ∀ i, S1 (10 + N.toNat) 4 i = 0 := fun i => by rw [oz _ _ (by decide) (by omega), if_neg (by decide)]
  have o8 : ∀ i, S1 (10 + N.toNat) 8 i = if 0 ≤ i ∧ i < W - q then S (10 + x.toNat) 8 (i + q) else 0 := fun i => by
    rw [c_o]
    unfold apF
    rw [if_neg (by omega)]
    by_cases y : 0 ≤ i ∧ i < W - q
    · rw [if_pos ⟨rfl, rfl, y.1, by omega⟩, if_pos y, nwS_n (by omega), show i - 0 + q = i + q by omega]
    · rw [if_neg (by omega), if_neg (by omega), if_neg (by unfold col3; omega), if_neg y, nwS_r (by decide)]
  have o9 : ∀ c, 0 ≤ c → c < W - q → S1 (10 + N.toNat) 9 c = b2 (0 < c ∧ S (10 + x.toNat) 9 (c + q) ≠ 0) := fun c c0 c1 => by
    rw [c_o]
    unfold apF
    rw [if_neg (by omega), if_neg (by omega), if_pos ⟨rfl, rfl, c0, by omega⟩, nwS_n (by omega), show c - 0 + q = c + q by omega]
  have oc : ∀ (b : Nat) (j : Int), col3 b → S1 (10 + N.toNat) b j = if 0 ≤ j ∧ j % 24 < W - q ∧ j / 24 < H then S (10 + x.toNat) b (j + q) else 0 := fun b j hb => by
    rw [c_o]
    unfold apF
    have hb' := hb
    unfold col3 at hb'
    rw [if_neg (by omega), if_neg (by omega), if_neg (by omega)]
    by_cases y : 0 ≤ j ∧ j % 24 < W - q ∧ j / 24 < H
    · rw [if_pos ⟨rfl, hb, y.1, by omega, by omega, y.2.2⟩, if_pos y, nwS_n (by omega), show j - 0 + q = j + q by omega]
    · rw [if_neg (fun u => y ⟨u.2.2.1, by omega, u.2.2.2.2.2⟩), if_neg y, nwS_r (by omega)]
  have occ : ∀ (b : Nat) (r c : Int), (b = 5 ∨ b = 6 ∨ b = 7) → 0 ≤ r → r < H → 0 ≤ c → c < W - q → S1 (10 + N.toNat) b (r * 24 + c) = S (10 + x.toNat) b (r * 24 + (c + q)) := fun b r c hb r0 r1 c0 c1 => by
    rw [oc b _ hb, if_pos (by omega), show r * 24 + c + q = r * 24 + (c + q) by omega]
  have o7 : ∀ j, 0 ≤ j → j < 240 → 0 ≤ S1 (10 + N.toNat) 7 j ∧ S1 (10 + N.toNat) 7 j ≤ 100 := fun j j0 j1 => by
    rw [oc 7 j (by unfold col3; omega)]
    by_cases y : 0 ≤ j ∧ j % 24 < W - q ∧ j / 24 < H
    · rw [if_pos y]; exact h7 (j + q) (by omega) (by omega)
    · rw [if_neg y]; decide
  exact ⟨c_n, c16, c106, c31, cx0, oa, o0, o1, o2, o4, o7, o8, o9, occ⟩
set_option maxHeartbeats 1000000 in
theorem cut_ref {S S1 S2 : St} {x N q W H T : Int} (hx0 : 0 ≤ x) (hxN : x < N) (hq : 1 ≤ q ∧ q < W) (hW : W ≤ 24) (hH : H ≤ 10) (e0 : S1 0 = S 0) (hHe : S 0 17 x = H)
    (h5 : ∀ (a b : Nat) (i : Int), S2 a b i = if a = 0 ∧ b = 0 ∧ i = 14 then N + 1 else if a = 0 ∧ b = 16 ∧ i = x then q else cmF (st (st (st S1 0 0 27 T) 0 17 N H) 0 16 N (W - q)) x q N 0 (W - q) a b i) : cutR S S1 S2 x N q W H T := by
  have m_x : ∀ (a b : Nat) (i : Int), a ≠ 0 → S2 a b i = S1 a b i := fun a b i y => by
    rw [h5, if_neg (by omega), if_neg (by omega)]
    unfold cmF
    rw [if_neg (by omega), if_neg (by omega), if_neg (by omega), st_at, if_neg (by omega), st_at, if_neg (by omega), st_at, if_neg (by omega)]
  have m14 : S2 0 0 14 = N + 1 := by rw [h5, if_pos ⟨rfl, rfl, rfl⟩]
  have m16x : S2 0 16 x = q := by rw [h5, if_neg (by omega), if_pos ⟨rfl, rfl, rfl⟩]
  have u17 : st (st (st S1 0 0 27 T) 0 17 N H) 0 16 N (W - q) 0 17 x = H := by rw [st_at, if_neg (by omega), st_at, if_neg (by omega), st_at, if_neg (by omega), e0, hHe]
  have m_b : ∀ (b : Nat) (i : Int), ¬ (b = 0 ∧ i = 14) → ¬ (b = 16 ∧ i = x) → S2 0 b i = cmF (st (st (st S1 0 0 27 T) 0 17 N H) 0 16 N (W - q)) x q N 0 (W - q) 0 b i := fun b i y1 y2 => by rw [h5, if_neg (by omega), if_neg (by omega)]
  have u_n : ∀ (b : Nat) (i : Int), b ≠ 0 → b ≠ 16 → b ≠ 17 → st (st (st S1 0 0 27 T) 0 17 N H) 0 16 N (W - q) 0 b i = S 0 b i := fun b i y1 y2 y3 => by
    rw [st_at, if_neg (by omega), st_at, if_neg (by omega), st_at, if_neg (by omega), e0]
  have m27 : S2 0 0 27 = T := by rw [m_b 0 27 (by omega) (by omega), cmF_o _ _ _ _ _ _ (by decide), st_at, if_neg (by omega), st_at, if_neg (by omega), st_at, if_pos ⟨rfl, rfl, rfl⟩]
  have m16 : S2 0 16 N = W - q := by rw [m_b 16 N (by omega) (by omega), cmF_o _ _ _ _ _ _ (by decide), st_at, if_pos ⟨rfl, rfl, rfl⟩]
  have m17 : S2 0 17 N = H := by rw [m_b 17 N (by omega) (by omega), cmF_o _ _ _ _ _ _ (by decide), st_at, if_neg (by omega), st_at, if_pos ⟨rfl, rfl, rfl⟩]
  have m_n : ∀ (b : Nat) (i : Int), ¬ ((b = 0 ∧ (i = 14 ∨ i = 27)) ∨ (b = 16 ∧ (i = x ∨ i = N)) ∨ (b = 17 ∧ i = N) ∨ ((b = 22 ∨ b = 23 ∨ b = 24) ∧ 24 * N ≤ i ∧ i < 24 * N + (W - q)) ∨ ((b = 25 ∨ b = 26 ∨ b = 27) ∧ 240 * N ≤ i ∧ i < 240 * N + 240)) → S2 0 b i = S 0 b i := fun b i y => by
    rw [m_b b i (by omega) (by omega)]
    unfold cmF
    rw [if_neg (by omega), if_neg (by omega), if_neg (by omega), st_at, if_neg (by omega), st_at, if_neg (by omega), st_at, if_neg (by omega), e0]
  have m22 : ∀ (b : Nat) (c : Int), (b = 22 ∨ b = 23) → 0 ≤ c → c < W - q → S2 0 b (24 * N + c) = S 0 b (24 * x + (c + q)) := fun b c hb c0 c1 => by
    rw [m_b b _ (by omega) (by omega)]
    unfold cmF
    rw [if_neg (by omega), if_pos ⟨rfl, hb, by omega, by omega⟩, u_n b _ (by omega) (by omega) (by omega), show 24 * x + q + (24 * N + c - (24 * N + 0)) = 24 * x + (c + q) by omega]
  have m24 : ∀ c, 0 ≤ c → c < W - q → S2 0 24 (24 * N + c) = b2 (0 < c ∧ S 0 24 (24 * x + (c + q)) ≠ 0) := fun c c0 c1 => by
    rw [m_b 24 _ (by omega) (by omega)]
    unfold cmF
    rw [if_pos ⟨rfl, rfl, by omega, by omega⟩, u_n 24 _ (by omega) (by omega) (by omega), show 24 * x + q + (24 * N + c - (24 * N + 0)) = 24 * x + (c + q) by omega]
    refine b2_c ⟨fun y => ⟨by omega, y.2.2⟩, fun y => ⟨by omega, by omega, y.2⟩⟩
  have mc : ∀ (b : Nat) (r c : Int), (b = 25 ∨ b = 26 ∨ b = 27) → 0 ≤ r → r < H → 0 ≤ c → c < W - q → S2 0 b (240 * N + 10 * c + r) = S 0 b (240 * x + 10 * (c + q) + r) := fun b r c hb r0 r1 c0 c1 => by
    rw [m_b b _ (by omega) (by omega)]
    unfold cmF
    rw [u17, if_neg (by omega), if_neg (by omega), if_pos ⟨rfl, hb, by omega, by omega, by omega⟩, u_n b _ (by omega) (by omega) (by omega), show 240 * x + 10 * q + (240 * N + 10 * c + r - (240 * N + 10 * 0)) = 240 * x + 10 * (c + q) + r by omega]
  exact ⟨m_x, m14, m16x, m27, m16, m17, m_n, m22, m24, mc⟩
theorem cut_E {S S1 S2 : St} {x N q W H T : Int} (C : cutC S S1 x N q W H) (R : cutR S S1 S2 x N q W H T) (hW : W - q ≤ 24) : ∀ (a b : Nat) (i : Int), ¬ cutX x N a b i → S2 a b i = S a b i := fun a b i y => by
  by_cases ha : a = 0
  · subst ha
    refine R.mn b i (fun u => y (Or.inl ⟨rfl, ?_⟩))
    rcases u with u | u | u | u | u
    · exact Or.inl u
    · exact Or.inr (Or.inl u)
    · exact Or.inr (Or.inr (Or.inl u))
    · exact Or.inr (Or.inr (Or.inr (Or.inl ⟨u.1, u.2.1, by omega⟩)))
    · exact Or.inr (Or.inr (Or.inr (Or.inr u)))
  · rw [R.mx a b i ha, C.n a b i y]
set_option maxHeartbeats 1000000 in
theorem cut_N {S S1 S2 : St} {x N q W H T : Int} (hx0 : 0 ≤ x) (hxN : x < N) (hq : 1 ≤ q ∧ q < W) (hW : W ≤ 24) (hH : 1 ≤ H ∧ H ≤ 10) (C : cutC S S1 x N q W H) (R : cutR S S1 S2 x N q W H T) (hL : lgr S S2)
    (hR : pR S (10 + x.toNat) x) (hX : pX S (10 + x.toNat) x) (hY : pY S (10 + x.toNat) x) (hWe : S 0 16 x = W) (hHe : S 0 17 x = H) (n18 : S 0 18 N = 0) (n20 : ∀ w, 0 ≤ w → w < 4 → S 0 20 (4 * N + w) = 0)
    (hal : ∀ c r, 0 ≤ c → c < W → 0 ≤ r → r < H → 0 ≤ S 0 26 (240 * x + 10 * c + r)) : iP S2 N := by
  have h8 := hR.2.2.2.2.2.2.2.2
  clear hR
  unfold pX at hX
  unfold pY at hY
  rw [hWe] at hX hY
  rw [hHe] at hX
  have p18 : S2 0 18 N = 0 := by rw [R.mn 18 N (by omega)]; exact n18
  have p20 : ∀ w, S2 0 20 (4 * N + w) = S 0 20 (4 * N + w) := fun w => R.mn 20 _ (by omega)
  have X : ∀ (b : Nat) (i : Int), S2 (10 + N.toNat) b i = S1 (10 + N.toNat) b i := fun b i => R.mx _ b i (by omega)
  refine ⟨⟨by rw [X]; exact C.oa, by rw [X, R.m16]; exact C.o0, by rw [X, R.m17]; exact C.o1, by rw [X, p18]; exact C.o2, by rw [R.m16]; omega, by rw [R.m17]; exact hH, fun w w0 w1 => by rw [X, C.o4, p20, n20 w w0 w1], fun j j0 j1 => by rw [X]; exact C.o7 j j0 j1, fun j j0 j1 => ?_⟩, fun c r c0 c1 r0 r1 => ?_, fun c c0 c1 => ?_, Or.inl ⟨fun j j0 j1 => ?_, fun c r c0 c1 r0 r1 => ?_⟩⟩
  · rw [X, C.o8]
    by_cases u : 0 ≤ j ∧ j < W - q
    · rw [if_pos u]; exact h8 _ (by omega) (by omega)
    · rw [if_neg u]; decide
  · rw [R.m16] at c1
    rw [R.m17] at r1
    obtain ⟨a1, a2, a3, a4⟩ := hX (c + q) r (by omega) (by omega) r0 r1
    rw [X 5, X 6, X 7, C.oc 5 r c (by decide) r0 r1 c0 c1, C.oc 6 r c (by decide) r0 r1 c0 c1, C.oc 7 r c (by decide) r0 r1 c0 c1, R.mc 25 r c (by decide) r0 r1 c0 c1, R.mc 26 r c (by decide) r0 r1 c0 c1, R.mc 27 r c (by decide) r0 r1 c0 c1]
    exact ⟨a1, a2, a3, okc_keep hL a4⟩
  · rw [R.m16] at c1
    obtain ⟨b1, b3, b4, b5⟩ := hY (c + q) (by omega) (by omega)
    rw [X 9, X 8, C.o9 c c0 c1, C.o8, if_pos ⟨c0, c1⟩, R.m22 22 c (by decide) c0 c1, R.m22 23 c (by decide) c0 c1, R.m24 c c0 c1, b1]
    exact ⟨rfl, b3, b4, b5⟩
  · rw [p18] at j1
    omega
  · rw [R.m16] at c1
    rw [R.m17] at r1
    rw [R.mc 26 r c (by decide) r0 r1 c0 c1]
    have := hal (c + q) r (by omega) (by omega) r0 r1
    omega
set_option maxHeartbeats 1000000 in
theorem cut_x {S S1 S2 : St} {x N q W H T : Int} (hx0 : 0 ≤ x) (hxN : x < N) (hq : 1 ≤ q ∧ q < W) (hW : W ≤ 24) (hH : 1 ≤ H ∧ H ≤ 10) (C : cutC S S1 x N q W H) (R : cutR S S1 S2 x N q W H T) (hL : lgr S S2) (E : ∀ (a b : Nat) (i : Int), ¬ cutX x N a b i → S2 a b i = S a b i)
    (hR : pR S (10 + x.toNat) x) (hX : pX S (10 + x.toNat) x) (hY : pY S (10 + x.toNat) x) (hWe : S 0 16 x = W) (hHe : S 0 17 x = H) (hv : S 0 18 x ≤ 4) (hd : dnM S x)
    (hal : ∀ c r, 0 ≤ c → c < W → 0 ≤ r → r < H → 0 ≤ S 0 26 (240 * x + 10 * c + r)) : iP S2 x := by
  obtain ⟨ga, g0, g1, g2, -, -, h4, h7, h8⟩ := hR
  unfold pX at hX
  unfold pY at hY
  rw [hWe] at hX hY
  rw [hHe] at hX g1
  have qo : ∀ (b : Nat) (i : Int), ¬ (b = 0 ∧ i = 0) → S2 (10 + x.toNat) b i = S (10 + x.toNat) b i := fun b i y => E _ b i (by unfold cutX; omega)
  have f17 : S2 0 17 x = H := by rw [R.mn 17 x (by omega), hHe]
  have f18 : S2 0 18 x = S 0 18 x := R.mn _ _ (by omega)
  have f20 : ∀ i, S2 0 20 i = S 0 20 i := fun i => R.mn _ _ (by omega)
  have f2 : ∀ (b : Nat) (i : Int), (b = 22 ∨ b = 23 ∨ b = 24) → i < 24 * N → S2 0 b i = S 0 b i := fun b i y1 y2 => R.mn b i (by omega)
  have f25 : ∀ (b : Nat) (i : Int), (b = 25 ∨ b = 26 ∨ b = 27) → i < 240 * N → S2 0 b i = S 0 b i := fun b i y1 y2 => R.mn b i (by omega)
  have m0 := R.m16x
  have z0 : S2 (10 + x.toNat) 0 0 = q := by rw [R.mx _ _ _ (by omega)]; exact C.x0
  clear R C E
  have hda := hd
  refine ⟨⟨by rw [qo _ _ (by decide)]; exact ga, by rw [z0, m0], by rw [qo _ _ (by decide), f17]; exact g1, by rw [qo _ _ (by decide), f18]; exact g2, by rw [m0]; omega, by rw [f17]; exact hH, fun w w0 w1 => by rw [qo 4 _ (by omega), f20]; exact h4 w w0 w1, fun j j0 j1 => by rw [qo 7 _ (by omega)]; exact h7 j j0 j1, fun j j0 j1 => by rw [qo 8 _ (by omega)]; exact h8 j j0 j1⟩, fun c r c0 c1 r0 r1 => ?_, fun c c0 c1 => ?_, Or.inl ⟨fun j j0 j1 => ?_, fun c r c0 c1 r0 r1 => ?_⟩⟩
  · rw [m0] at c1
    rw [f17] at r1
    have hi : 240 * x + 10 * c + r < 240 * N := by omega
    rw [qo 5 _ (by omega), qo 6 _ (by omega), qo 7 _ (by omega), f25 25 _ (by decide) hi, f25 26 _ (by decide) hi, f25 27 _ (by decide) hi]
    obtain ⟨a1, a2, a3, a4⟩ := hX c r c0 (by omega) r0 r1
    exact ⟨a1, a2, a3, okc_keep hL a4⟩
  · rw [m0] at c1
    have hi : 24 * x + c < 24 * N := by omega
    rw [qo 8 _ (by omega), qo 9 _ (by omega), f2 22 _ (by decide) hi, f2 23 _ (by decide) hi, f2 24 _ (by decide) hi]
    exact hY c c0 (by omega)
  · rw [f18] at j1
    rw [f20, f17, ← hHe]
    exact hd j j0 j1
  · rw [m0] at c1
    rw [f17] at r1
    rw [f25 26 _ (by decide) (by omega)]
    have := hal c r c0 (by omega) r0 r1
    omega
set_option maxHeartbeats 1000000 in
theorem cut_m {S S1 S2 : St} {x N q W H T : Int} (hm : wM S) (hxN : x < N) (hN : N < 20) (hq : 1 ≤ q ∧ q < W) (hW : W ≤ 24) (hH : 1 ≤ H ∧ H ≤ 10) (hS : S 0 0 14 = N) (R : cutR S S1 S2 x N q W H T) : wM S2 := by
  have mn0 : ∀ i, i ≠ 14 → i ≠ 27 → S2 0 0 i = S 0 0 i := fun i y1 y2 => R.mn 0 i (by omega)
  have m17 : ∀ y, y ≠ N → S2 0 17 y = S 0 17 y := fun y y1 => R.mn 17 y (by omega)
  have m16 : ∀ y, y ≠ N → y ≠ x → S2 0 16 y = S 0 16 y := fun y y1 y2 => R.mn 16 y (by omega)
  have ml : ∀ (b : Nat) (i : Int), b = 4 ∨ b = 5 ∨ b = 18 ∨ b = 20 ∨ b = 21 → S2 0 b i = S 0 b i := fun b i y => R.mn b i (by omega)
  have p14 := R.m14
  have p16 := R.m16
  have p17 := R.m17
  have p16x := R.m16x
  clear R
  refine ⟨by rw [mn0 _ (by decide) (by decide)]; exact hm.al, by rw [mn0 _ (by decide) (by decide)]; exact hm.le, by rw [mn0 _ (by decide) (by decide)]; exact hm.cs, by rw [mn0 _ (by decide) (by decide)]; exact hm.lt, by rw [p14]; have := hm.ps; omega, fun y h0 h1 => by rw [ml 4 _ (by decide), ml 5 _ (by decide)]; exact hm.cw y h0 h1, fun y h0 h1 => ?_, fun y h0 h1 => ?_, fun y h0 h1 => by rw [ml 20 _ (by decide)]; exact hm.wv y h0 h1⟩
  · have hpy := hm.pc y h0 h1
    rw [ml 18 _ (by decide), ml 21 _ (by decide)]
    by_cases hy : y = N
    · rw [hy] at hpy ⊢
      rw [p16, p17]
      clear mn0 m17 m16 ml
      omega
    · by_cases hyx : y = x
      · rw [hyx] at hpy ⊢
        rw [p16x, m17 x (by omega)]
        clear mn0 m17 m16 ml
        omega
      · rw [m16 y hy hyx, m17 y hy]
        exact hpy
  · rw [p14] at h1
    by_cases hy : y = N
    · rw [hy, p17]; exact hH.1
    · rw [m17 y hy]
      exact hm.pr y h0 (by omega)
set_option maxHeartbeats 1000000 in
theorem cut_i {S S1 S2 : St} {x N q W H T : Int} (hI : Inv S) (hx : 0 ≤ x) (hxN : x < N) (hN : N < 20) (hq : 1 ≤ q ∧ q < W) (hW : W ≤ 24) (hS : S 0 0 14 = N) (C : cutC S S1 x N q W H) (R : cutR S S1 S2 x N q W H T) (hL : lgr S S2) (E : ∀ (a b : Nat) (i : Int), ¬ cutX x N a b i → S2 a b i = S a b i) (hm : wM S2) (iN : iP S2 N) (ix : iP S2 x) : Inv S2 := by
  have hun := hI.p.2.2.2.1
  have hj := hI.p.2.1
  rw [hS] at hun hj
  obtain ⟨-, n19, -, -⟩ := hun N (Int.le_refl _) hN
  have m19 : ∀ y, S2 0 19 y = S 0 19 y := fun y => R.mn 19 y (by omega)
  have p14 := R.m14
  have k0 : S2 1 0 6 = N + 1 := by rw [R.mx 1 0 6 (by decide)]; exact C.k0
  have k6 : S2 1 6 N = 1 := by rw [R.mx 1 6 N (by decide)]; exact C.k6
  have m22 := R.m22
  have mn := R.mn
  clear R C
  refine ⟨hm, ⟨by rw [E 1 0 (-1) (by unfold cutX; omega)]; exact hI.a1, by rw [E 2 0 (-1) (by unfold cutX; omega)]; exact hI.a2, by rw [E 3 0 (-1) (by unfold cutX; omega)]; exact hI.a3⟩, iW_keep hI.w (fun a b i y => E a b i ?_), iCs_keep hI.c hI.m (fun a b i y => E a b i ?_), iL_keep hI.l (fun a b i y => E a b i ?_), iPs_gen hI.p hI.m hL (by rw [k0, p14]) (fun j => ?_) (fun y hy => ?_) (fun y y0 y1 => ?_) (fun j j0 j1 => ?_)⟩
  · clear hun hj mn m22 m19 E
    unfold cutX
    omega
  · clear hun hj mn m22 m19 E
    unfold cutX
    omega
  · clear hun hj mn m22 m19 E
    unfold cutX
    omega
  · rw [p14, m19]
    by_cases hj1 : (j : Int) = N
    · rw [hj1, k6, n19]
      exact ⟨fun _ => ⟨by omega, rfl⟩, fun _ => rfl⟩
    · rw [E 1 6 j (by unfold cutX; omega), hj j]
      exact and_congr_left' (by omega)
  · unfold isP at hy
    rw [p14, m19] at hy
    by_cases hyN : y = N
    · right
      rw [hyN]
      exact iN
    · by_cases hyx : y = x
      · right
        rw [hyx]
        exact ix
      · left
        obtain ⟨hy0, hy1, hy2⟩ := hy
        have hyn : y < N := by omega
        refine ⟨⟨hy0, by rw [hS]; exact hyn, hy2⟩, fun a b i z => E a b i ?_⟩
        clear hun hj mn m22 m19 E n19 p14 k0 k6 hy2 hy1 hS hq hW
        unfold pS at z
        unfold cutX
        omega
  · rw [p14] at y0
    obtain ⟨u1, u2, u3, u4⟩ := hun y (by omega) y1
    exact ⟨by rw [mn 18 _ (by omega)]; exact u1, by rw [m19]; exact u2, fun w w0 w1 => by rw [mn 20 _ (by omega)]; exact u3 w w0 w1, fun k k0 k1 => by rw [mn 27 _ (by omega)]; exact u4 k k0 k1⟩
  · by_cases hj1 : 24 * N ≤ j ∧ j < 24 * N + (W - q)
    · have := m22 23 (j - 24 * N) (by decide) (by omega) (by omega)
      rw [show 24 * N + (j - 24 * N) = j by omega] at this
      rw [this]
      exact hI.hfc _ (by omega) (by omega)
    · rw [mn 23 j (by omega)]
      exact hI.hfc j j0 j1
set_option maxHeartbeats 4000000 in
theorem sim_cut {S S1 S2 : St} {ad ad1 ad2 : Nat → Nat → Nat} {r1 r2 : Option Value} {x q : Int} (hI : Inv S) (hrn : rng x) (hrn2 : rng q) (h1 : lhP ad (peC S x ∧ (1 ≤ q ∧ q < S (10 + x.toNat) 0 0)) (dnC S (10 + x.toNat) ∧ S 1 0 6 < 20) (True) S (st (cuS S x q) 3 1 0 (wr (S 1 0 6))) r1 ad1 S1) (h2 : (mP ad1 (inM S1 x q) ((inM S1 x q) ∧ (dnM S1 x) ∧ ((S1 0 0 14) < 20)) (True) S1 (some (.int (i32 (((S1 0 0 14) + 1) - 1)))) (fun Z => ∀ (a1 b1 : Nat) (i1 : Int), Z a1 b1 i1 = if a1 = 0 ∧ b1 = 0 ∧ i1 = 14 then (S1 0 0 14) + 1 else if a1 = 0 ∧ b1 = 16 ∧ i1 = x then q else cmF (st (st (st S1 0 0 27 (thr (inM S1 x q) ((inM S1 x q) ∧ (dnM S1 x) ∧ ((S1 0 0 14) < 20)) (True))) 0 17 (S1 0 0 14) (S1 0 17 x)) 0 16 (S1 0 0 14) ((S1 0 16 x) - q)) x q (S1 0 0 14) 0 (S1 0 16 x - q) a1 b1 i1)) r2 ad2 S2) : Gd ad (thr (peC S x ∧ (1 ≤ q ∧ q < S (10 + x.toNat) 0 0)) (dnC S (10 + x.toNat) ∧ S 1 0 6 < 20) (True)) r2 ad2 S2 := by
  have hw := hI.p.1
  have e0 := lhP_0 h1 zk_cut.1
  have ek := (lhP_k h1).2
  have hk : thr (inM S1 x q) ((inM S1 x q) ∧ (dnM S1 x) ∧ ((S1 0 0 14) < 20)) True = thr (peC S x ∧ (1 ≤ q ∧ q < S (10 + x.toNat) 0 0)) (dnC S (10 + x.toNat) ∧ S 1 0 6 < 20) True := by
    have hA : peC S x ∧ (1 ≤ q ∧ q < S (10 + x.toNat) 0 0) ↔ inM S x q := by
      unfold inM
      rw [hI.pe]
      refine and_congr_right (fun y => ?_)
      obtain ⟨⟨-, g0, -⟩, -⟩ := hI.ip y
      rw [g0]
      omega
    rw [propext (inM_e e0 x q), propext (dnM_e e0 x), e0, hw]
    exact thr_c hA (fun y => by rw [hI.dn (hI.pe.mp y.1)]; exact ⟨fun u => ⟨hA.mp y, u.1, u.2⟩, fun u => ⟨u.2.1, u.2.2⟩⟩) (fun _ _ => Iff.rfl)
  rcases h1.2 with ⟨hn, ha, hs⟩ | ⟨hc, ha, hs⟩
  · rw [ha, hs] at h2
    rw [hs] at hk
    exact sim_no hI hk hn h2
  · obtain ⟨h3, h4, h5⟩ := mP_y (hk.trans (thr_z.mpr hc)) h2
    rw [h3]
    rw [hk] at h5
    have hx := hI.pe.mp hc.1.1
    have hx20 := hI.x20 hx
    have hps := hI.m.ps
    have hcs := hI.m.cs
    obtain ⟨hR, hX, hY, hQ⟩ := hI.ip hx
    obtain ⟨ga, g0, g1, g2, hW, hH, h4', h7', h8'⟩ := id hR
    have hp := hI.m.pc x hx20.1 hx20.2
    have hd := (hI.dn hx).mp hc.2.1.1
    have hal := hI.alw hx hd
    have hq := hc.1.2
    have hN20 := hc.2.1.2
    rw [g0] at hq
    rw [hw] at hN20
    generalize hT : thr (peC S x ∧ (1 ≤ q ∧ q < S (10 + x.toNat) 0 0)) (dnC S (10 + x.toNat) ∧ S 1 0 6 < 20) True = T at h5 ⊢
    simp only [e0] at h4 h5
    unfold cuS at hs
    rw [hw, g0, g1] at hs
    obtain ⟨N, hN⟩ : ∃ N, S 0 0 14 = N := ⟨_, rfl⟩
    have hxN : x < N := by rw [← hN]; exact hx.2.1
    obtain ⟨W, hWe⟩ : ∃ W, S 0 16 x = W := ⟨_, rfl⟩
    obtain ⟨H, hHe⟩ : ∃ H, S 0 17 x = H := ⟨_, rfl⟩
    rw [hN] at h4 h5 hs hN20 hps hw
    rw [hWe] at h5 hs hq g0 hW
    rw [hHe] at h5 hs g1 hH
    rw [hWe, hHe] at hal
    have hun := hI.p.2.2.2.1
    rw [hN] at hun
    obtain ⟨n18, n19, n20, n27⟩ := hun N (Int.le_refl _) (by omega)
    have C := cut_cls hx.1 hxN hq hW.2 hH.2 h7' hs
    have R := cut_ref hx.1 hxN hq hW.2 hH.2 e0 hHe h5
    clear h5 hs
    have hL : lgr S S2 := lgr_e (fun b i y => R.mn b i (by omega))
    have E := cut_E C R (by omega)
    have hal' : ∀ c r, 0 ≤ c → c < W → 0 ≤ r → r < H → 0 ≤ S 0 26 (240 * x + 10 * c + r) := fun c r c0 c1 r0 r1 => (hal c r c0 c1 r0 r1).1
    exact ⟨⟨_, h4, fun _ => by rw [R.mx 3 1 0 (by decide), C.k3]; congr 1; omega⟩, R.m27, cut_i hI hx.1 hxN hN20 hq hW.2 hN C R hL E (cut_m hI.m hxN hN20 hq hW.2 hH hN R) (cut_N hx.1 hxN hq hW.2 hH C R hL hR hX hY hWe hHe n18 n20 hal') (cut_x hx.1 hxN hq hW.2 hH C R hL E hR hX hY hWe hHe hp.2.2.2.2.2.1 hd hal'), ek⟩
