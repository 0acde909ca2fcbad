/-- how many of the columns n .. c - 1 have the lot j -/
noncomputable def cn (G : Int → Int) (j n c : Int) : Int := sm (fun i => b2 (G (n + i) = j)) (c - n).toNat
def wvR (x r n c i : Int) : Prop := 240 * x + 10 * n ≤ i ∧ i < 240 * x + 10 * c ∧ (i - 240 * x) % 10 = r
/-- the cells n .. c - 1 of a row woven, with threads of the lots G -/
noncomputable def wvF (S : St) (x r : Int) (G : Int → Int) (n c : Int) : St := fun a1 b1 i1 =>
  if a1 = 0 ∧ b1 = 12 then S 0 12 i1 - cn G i1 n c else
  @ite Int (a1 = 0 ∧ b1 = 26 ∧ wvR x r n c i1) (Classical.propDecidable _) (G ((i1 - 240 * x) / 10)) (@ite Int (a1 = 0 ∧ b1 = 27 ∧ wvR x r n c i1) (Classical.propDecidable _) 100 (S a1 b1 i1))
theorem wvF_o (S : St) (x r : Int) (G : Int → Int) (n c : Int) {b : Nat} {j : Int} (hb : b ≠ 12 ∧ b ≠ 26 ∧ b ≠ 27) : wvF S x r G n c 0 b j = S 0 b j := by
  unfold wvF
  rw [if_neg (by omega), if_neg (by omega), if_neg (by omega)]
theorem wvF_12 (S : St) (x r : Int) (G : Int → Int) (n c i : Int) : wvF S x r G n c 0 12 i = S 0 12 i - cn G i n c := by unfold wvF; rw [if_pos ⟨rfl, rfl⟩]
theorem wvF_26 {S : St} {x r : Int} {G : Int → Int} {n c i : Int} (h : wvR x r n c i) : wvF S x r G n c 0 26 i = G ((i - 240 * x) / 10) := by
  unfold wvF
  rw [if_neg (by omega), if_pos ⟨rfl, rfl, h⟩]
theorem wvF_27 {S : St} {x r : Int} {G : Int → Int} {n c i : Int} (h : wvR x r n c i) : wvF S x r G n c 0 27 i = 100 := by
  unfold wvF
  rw [if_neg (by omega), if_neg (by omega), if_pos ⟨rfl, rfl, h⟩]
theorem wvF_n {S : St} {x r : Int} {G : Int → Int} {n c : Int} {a b : Nat} {i : Int} (h12 : ¬ (a = 0 ∧ b = 12)) (h : ¬ (a = 0 ∧ (b = 26 ∨ b = 27) ∧ wvR x r n c i)) : wvF S x r G n c a b i = S a b i := by
  unfold wvF
  rw [if_neg h12, if_neg (fun q => h ⟨q.1, Or.inl q.2.1, q.2.2⟩), if_neg (fun q => h ⟨q.1, Or.inr q.2.1, q.2.2⟩)]
theorem cn_0 (G : Int → Int) (j n : Int) : cn G j n n = 0 := by
  unfold cn
  rw [show (n - n).toNat = 0 from by omega]
  rfl
theorem wv_0 (S : St) (x r : Int) (G : Int → Int) (n : Int) (a1 b1 : Nat) (i1 : Int) : S a1 b1 i1 = wvF S x r G n n a1 b1 i1 := by
  unfold wvF
  rw [cn_0]
  by_cases h : a1 = 0 ∧ b1 = 12
  · rw [if_pos h, h.1, h.2]; omega
  · rw [if_neg h, if_neg (by unfold wvR; omega), if_neg (by unfold wvR; omega)]
theorem cn_g {G G' : Int → Int} {j n c : Int} (h : ∀ i, n ≤ i → i < c → G i = G' i) : cn G j n c = cn G' j n c := by
  unfold cn
  refine sm_c (fun i h0 h1 => ?_)
  rw [h (n + i) (by omega) (by omega)]
theorem wv_g {S : St} {x r n c : Int} {G G' : Int → Int} (hr : 0 ≤ r ∧ r < 10) (h : ∀ i, n ≤ i → i < c → G i = G' i) : wvF S x r G n c = wvF S x r G' n c := by
  funext a b i
  by_cases h12 : a = 0 ∧ b = 12
  · obtain ⟨rfl, rfl⟩ := h12
    rw [wvF_12, wvF_12, cn_g h]
  · by_cases hb : a = 0 ∧ (b = 26 ∨ b = 27) ∧ wvR x r n c i
    · obtain ⟨rfl, hb, hR⟩ := hb
      rcases hb with rfl | rfl
      · rw [wvF_26 hR, wvF_26 hR, h _ (by unfold wvR at hR; omega) (by unfold wvR at hR; omega)]
      · rw [wvF_27 hR, wvF_27 hR]
    · rw [wvF_n h12 hb, wvF_n h12 hb]
theorem cn_r (G : Int → Int) (j : Int) {n c : Int} (h : n ≤ c) : cn G j n (c + 1) = cn G j n c + b2 (G c = j) := by
  unfold cn
  rw [show (c + 1 - n) = (c - n) + 1 from by omega, sm_1 _ (by omega), show n + (c - n) = c from by omega]
theorem sm_l (f : Int → Int) (n : Nat) : sm f (n + 1) = f 0 + sm (fun i => f (1 + i)) n := by
  induction n with
  | zero => show sm f 0 + f 0 = f 0 + 0; show 0 + f 0 = f 0 + 0; omega
  | succ n ih =>
    show sm f (n + 1) + f ((n + 1 : Nat) : Int) = f 0 + (sm (fun i => f (1 + i)) n + f (1 + n))
    rw [ih, show ((n + 1 : Nat) : Int) = 1 + n from by omega]
    omega
theorem cn_l (G : Int → Int) (j : Int) {n c : Int} (h : n < c) : cn G j n c = b2 (G n = j) + cn G j (n + 1) c := by
  unfold cn
  obtain ⟨m, hm⟩ := Int.eq_ofNat_of_zero_le (show 0 ≤ c - n - 1 by omega)
  rw [show (c - n).toNat = m + 1 from by omega, show (c - (n + 1)).toNat = m from by omega, sm_l, show n + 0 = n from by omega]
  congr 1
  refine sm_c (fun i h0 h1 => ?_)
  rw [show n + (1 + i) = n + 1 + i from by omega]
theorem cn_b (G : Int → Int) (j : Int) {n c : Int} (h : n ≤ c) : 0 ≤ cn G j n c ∧ cn G j n c ≤ c - n := by
  have := sm_b (f := fun i => b2 (G (n + i) = j)) (B := 1) (n := (c - n).toNat) (by decide) (fun i _ _ => b2_b _)
  unfold cn
  omega
theorem wv_s {S Sa Z1 Z2 Z3 : St} {x r f c gl : Int} {G : Int → Int} (hS : ∀ (a1 b1 : Nat) (i1 : Int), Sa a1 b1 i1 = wvF S x r G f c a1 b1 i1) (hr : 0 ≤ r ∧ r < 10) (hc : f ≤ c)
    (h1 : ∀ (a1 b1 : Nat) (i1 : Int), Z1 a1 b1 i1 = if a1 = 0 ∧ b1 = 12 ∧ i1 = gl then Sa 0 12 gl - 1 else Sa a1 b1 i1)
    (h2 : ∀ (a1 b1 : Nat) (i1 : Int), Z2 a1 b1 i1 = if a1 = 0 ∧ b1 = 26 ∧ i1 = 240 * x + 10 * c + r then gl else Z1 a1 b1 i1)
    (h3 : ∀ (a1 b1 : Nat) (i1 : Int), Z3 a1 b1 i1 = if a1 = 0 ∧ b1 = 27 ∧ i1 = 240 * x + 10 * c + r then 100 else Z2 a1 b1 i1) (hg : G c = gl) :
    ∀ (a1 b1 : Nat) (i1 : Int), Z3 a1 b1 i1 = wvF S x r G f (c + 1) a1 b1 i1 := by
  intro a b i
  by_cases h12 : a = 0 ∧ b = 12
  · obtain ⟨rfl, rfl⟩ := h12
    rw [h3, if_neg (by omega), h2, if_neg (by omega), h1, wvF_12, cn_r _ _ hc, hg]
    by_cases hi : i = gl
    · subst hi
      rw [if_pos ⟨rfl, rfl, rfl⟩, hS, wvF_12, b2_t rfl]
      omega
    · rw [if_neg (by omega), hS, wvF_12, b2_f (fun e => hi e.symm)]
      omega
  · by_cases hn : a = 0 ∧ (b = 26 ∨ b = 27) ∧ i = 240 * x + 10 * c + r
    · obtain ⟨rfl, hb, rfl⟩ := hn
      have hR : wvR x r f (c + 1) (240 * x + 10 * c + r) := ⟨by omega, by omega, by omega⟩
      rcases hb with rfl | rfl
      · rw [h3, if_neg (by omega), h2, if_pos ⟨rfl, rfl, rfl⟩, wvF_26 hR, show (240 * x + 10 * c + r - 240 * x) / 10 = c from by omega, hg]
      · rw [h3, if_pos ⟨rfl, rfl, rfl⟩, wvF_27 hR]
    · rw [h3, if_neg (by omega), h2, if_neg (by omega), h1, if_neg (by omega), hS]
      by_cases hb : a = 0 ∧ (b = 26 ∨ b = 27) ∧ wvR x r f c i
      · obtain ⟨rfl, hb, hR⟩ := hb
        have hR2 : wvR x r f (c + 1) i := by unfold wvR at hR ⊢; omega
        rcases hb with rfl | rfl
        · rw [wvF_26 hR, wvF_26 hR2]
        · rw [wvF_27 hR, wvF_27 hR2]
      · rw [wvF_n h12 hb, wvF_n h12 (by unfold wvR at hb ⊢; omega)]
theorem wv_u {S Sb Z1 Z2 Z3 : St} {x r n c gl : Int} {G : Int → Int} (hS : ∀ (a1 b1 : Nat) (i1 : Int), Sb a1 b1 i1 = wvF S x r G n c a1 b1 i1) (hr : 0 ≤ r ∧ r < 10) (hc : n < c)
    (h0 : S 0 26 (240 * x + 10 * n + r) = -1 ∧ S 0 27 (240 * x + 10 * n + r) = 0)
    (h1 : ∀ (a1 b1 : Nat) (i1 : Int), Z1 a1 b1 i1 = if a1 = 0 ∧ b1 = 12 ∧ i1 = gl then Sb 0 12 gl + 1 else Sb a1 b1 i1)
    (h2 : ∀ (a1 b1 : Nat) (i1 : Int), Z2 a1 b1 i1 = if a1 = 0 ∧ b1 = 26 ∧ i1 = 240 * x + 10 * n + r then -1 else Z1 a1 b1 i1)
    (h3 : ∀ (a1 b1 : Nat) (i1 : Int), Z3 a1 b1 i1 = if a1 = 0 ∧ b1 = 27 ∧ i1 = 240 * x + 10 * n + r then 0 else Z2 a1 b1 i1) (hg : G n = gl) :
    ∀ (a1 b1 : Nat) (i1 : Int), Z3 a1 b1 i1 = wvF S x r G (n + 1) c a1 b1 i1 := by
  intro a b i
  by_cases h12 : a = 0 ∧ b = 12
  · obtain ⟨rfl, rfl⟩ := h12
    have e : Sb 0 12 i = S 0 12 i - cn G i n c := by rw [hS, wvF_12]
    rw [cn_l _ _ hc, hg] at e
    rw [h3, if_neg (by omega), h2, if_neg (by omega), h1, wvF_12]
    by_cases hi : i = gl
    · subst hi
      rw [if_pos ⟨rfl, rfl, rfl⟩, e, b2_t rfl]
      omega
    · rw [if_neg (by omega), e, b2_f (fun e => hi e.symm)]
      omega
  · by_cases hn : a = 0 ∧ (b = 26 ∨ b = 27) ∧ i = 240 * x + 10 * n + r
    · obtain ⟨rfl, hb, rfl⟩ := hn
      have hR : ¬ wvR x r (n + 1) c (240 * x + 10 * n + r) := by unfold wvR; omega
      rcases hb with rfl | rfl
      · rw [h3, if_neg (by omega), h2, if_pos ⟨rfl, rfl, rfl⟩, wvF_n h12 (fun q => hR q.2.2), h0.1]
      · rw [h3, if_pos ⟨rfl, rfl, rfl⟩, wvF_n h12 (fun q => hR q.2.2), h0.2]
    · rw [h3, if_neg (by omega), h2, if_neg (by omega), h1, if_neg (by omega), hS]
      by_cases hb : a = 0 ∧ (b = 26 ∨ b = 27) ∧ wvR x r (n + 1) c i
      · obtain ⟨rfl, hb, hR⟩ := hb
        have hR2 : wvR x r n c i := by unfold wvR at hR ⊢; omega
        rcases hb with rfl | rfl
        · rw [wvF_26 hR, wvF_26 hR2]
        · rw [wvF_27 hR, wvF_27 hR2]
      · rw [wvF_n h12 hb, wvF_n h12 (by unfold wvR at hb ⊢; omega)]
theorem gf_b (φ : Int → Prop) : ∀ (n : Nat) (lo : Int), 0 ≤ lo → -1 ≤ gf φ n lo ∧ gf φ n lo < lo + n ∧ (gf φ n lo ≠ -1 → lo ≤ gf φ n lo ∧ φ (gf φ n lo))
  | 0, lo, h => ⟨by show (-1 : Int) ≤ -1; omega, by show (-1 : Int) < _; omega, fun q => absurd rfl q⟩
  | n + 1, lo, h => by
    obtain ⟨h1, h2, h3⟩ := gf_b φ n (lo + 1) (by omega)
    have e : gf φ (n + 1) lo = cif (φ lo) lo (gf φ n (lo + 1)) := rfl
    rw [e]
    by_cases p : φ lo
    · rw [cif_t p]; exact ⟨by omega, by omega, fun _ => ⟨by omega, p⟩⟩
    · rw [cif_f p]; exact ⟨h1, by omega, fun q => ⟨by have := (h3 q).1; omega, (h3 q).2⟩⟩
theorem gvM_b {S : St} (hl : 0 ≤ S 0 0 8 ∧ S 0 0 8 ≤ 20) (v : Int) : -1 ≤ gvM S v ∧ gvM S v < 20 ∧ (gvM S v ≠ -1 → 0 ≤ gvM S v ∧ S 0 10 (gvM S v) = v ∧ 0 < S 0 12 (gvM S v)) := by
  obtain ⟨h1, h2, h3⟩ := gf_b (gvP S v) (S 0 0 8).toNat 0 (by omega)
  exact ⟨h1, by unfold gvM; omega, fun q => ⟨(h3 q).1, (h3 q).2⟩⟩
/-- the columns f .. c - 1 of a row can be woven with the lots G, one after the other -/
def wvG (S : St) (x r : Int) (G : Int → Int) (f c : Int) : Prop := ∀ j, f ≤ j → j < c → G j = gvM (wvF S x r G f j) (S 0 25 (240 * x + 10 * j + r)) ∧ G j ≠ -1
theorem wvG_s {S Sa : St} {x r f c gl : Int} {G : Int → Int} (hr : 0 ≤ r ∧ r < 10) (h : wvG S x r G f c) (hc : f ≤ c) (hS : ∀ (a1 b1 : Nat) (i1 : Int), Sa a1 b1 i1 = wvF S x r G f c a1 b1 i1) (hg : gl = gvM Sa (S 0 25 (240 * x + 10 * c + r))) (hn : gl ≠ -1) :
    wvG S x r (fun j => if j = c then gl else G j) f (c + 1) ∧ ∀ (a1 b1 : Nat) (i1 : Int), Sa a1 b1 i1 = wvF S x r (fun j => if j = c then gl else G j) f c a1 b1 i1 := by
  have e : ∀ j, j ≤ c → wvF S x r (fun j => if j = c then gl else G j) f j = wvF S x r G f j := fun j hj => wv_g hr (fun i h0 h1 => if_neg (by omega))
  refine ⟨fun j h0 h1 => ?_, fun a b i => by rw [hS, e c (Int.le_refl _)]⟩
  rw [e j (by omega)]
  dsimp only
  by_cases hj : j = c
  · subst hj
    rw [if_pos rfl]
    refine ⟨?_, hn⟩
    rw [hg]
    congr 1
    funext a b i
    exact hS a b i
  · rw [if_neg hj]; exact h j h0 (by omega)
theorem wvG_b {S : St} {x r f c : Int} {G : Int → Int} (hl : 0 ≤ S 0 0 8 ∧ S 0 0 8 ≤ 20) (h : wvG S x r G f c) {j : Int} (h0 : f ≤ j) (h1 : j < c) : 0 ≤ G j ∧ G j < 20 := by
  obtain ⟨h2, h3⟩ := h j h0 h1
  obtain ⟨h4, h5, h6⟩ := gvM_b (S := wvF S x r G f j) (by rw [wvF_o _ _ _ _ _ _ (by decide)]; exact hl) (S 0 25 (240 * x + 10 * j + r))
  rw [← h2] at h4 h5 h6
  exact ⟨(h6 h3).1, h5⟩
theorem wv_26 {S Sb : St} {x r n c j : Int} {G : Int → Int} (hS : ∀ (a1 b1 : Nat) (i1 : Int), Sb a1 b1 i1 = wvF S x r G n c a1 b1 i1) (hr : 0 ≤ r ∧ r < 10) (h0 : n ≤ j) (h1 : j < c) : Sb 0 26 (240 * x + 10 * j + r) = G j := by
  rw [hS]
  unfold wvF
  rw [if_neg (by omega), if_pos ⟨rfl, rfl, by unfold wvR; omega⟩, show (240 * x + 10 * j + r - 240 * x) / 10 = j from by omega]
theorem wv_12 {S Sb : St} {x r n c j : Int} {G : Int → Int} (hS : ∀ (a1 b1 : Nat) (i1 : Int), Sb a1 b1 i1 = wvF S x r G n c a1 b1 i1) : Sb 0 12 j = S 0 12 j - cn G j n c := by
  rw [hS]
  unfold wvF
  rw [if_pos ⟨rfl, rfl⟩]
/-- what weaves does -/
def wvP (ad : Nat → Nat → Nat) (S : St) (x r f t : Int) : Option Value → (Nat → Nat → Nat) → St → Prop := fun rr ad' S' => ad' = ad ∧
  ((∃ G, wvG S x r G f t ∧ rr = some (.int (i32 1)) ∧ S' = wvF S x r G f t) ∨ (∃ G c, f ≤ c ∧ c < t ∧ wvG S x r G f c ∧ gvM (wvF S x r G f c) (S 0 25 (240 * x + 10 * c + r)) = -1 ∧ rr = some (.int (i32 0)) ∧ S' = S))
theorem hs_z {hs : Int} {φ : Prop} (h : hs = 1 ∨ (hs = 0 ∧ φ)) : hs = 0 ∨ hs = 1 := by rcases h with h | h; exact Or.inr h; exact Or.inl h.1
theorem hs_r {hs : Int} {φ : Prop} (h : hs = 1 ∨ (hs = 0 ∧ φ)) : rng hs := by
  rcases hs_z h with h | h <;> rw [h] <;> exact ⟨by decide, by decide⟩
theorem rng_m1 {a : Int} (h0 : 0 < a) (h : rng a) : rng (a - 1) := by
  obtain ⟨h1, h2⟩ := h
  exact ⟨by omega, by omega⟩
theorem wv_ret {S Sa Sb : St} {ad : Nat → Nat → Nat} {x r f t q n hs : Int} {G : Int → Int} (zc : f ≤ q ∧ q ≤ t) (zG : wvG S x r G f q) (zS : ∀ (a1 b1 : Nat) (i1 : Int), Sa a1 b1 i1 = wvF S x r G f q a1 b1 i1)
    (zh : hs = 1 ∨ (hs = 0 ∧ q < t ∧ gvM Sa (S 0 25 (240 * x + 10 * q + r)) = -1)) (zn : f ≤ n ∧ n ≤ q) (zT : ∀ (a1 b1 : Nat) (i1 : Int), Sb a1 b1 i1 = wvF S x r G n q a1 b1 i1) (zk : hs ≠ 0 → n = f) (e1 : t ≤ q ∨ hs = 0) (e2 : q ≤ n ∨ hs ≠ 0) :
    wvP ad S x r f t (some (.int (i32 hs))) ad Sb := by
  refine ⟨rfl, ?_⟩
  rcases zh with h | ⟨h, h2, h3⟩
  · have hq : q = t := by omega
    have hn : n = f := zk (by omega)
    subst hq; subst hn; subst h
    exact Or.inl ⟨G, zG, rfl, by funext a b i; exact zT a b i⟩
  · have hn : n = q := by omega
    subst hn; subst h
    have eS : Sa = wvF S x r G f n := by funext a b i; exact zS a b i
    refine Or.inr ⟨G, n, zc.1, h2, zG, by rw [← eS]; exact h3, rfl, ?_⟩
    funext a b i
    rw [zT]
    exact (wv_0 S x r G n a b i).symm
