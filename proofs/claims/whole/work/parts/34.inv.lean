/-! ===== what holds between the class's rows and the reference's ===== -/
def iW (S : St) : Prop := S 1 0 1 = S 0 0 0 ∧ ∀ j, 0 ≤ j → j < 12 → S 1 1 j = S 0 2 j ∧ 0 ≤ S 0 2 j ∧ S 0 2 j ≤ 6
def iC (S : St) (j : Int) : Prop := cC S (4 + j.toNat) ∧ S (4 + j.toNat) 0 0 = S 0 4 j ∧ S (4 + j.toNat) 0 1 = S 0 5 j ∧ S (4 + j.toNat) 0 3 = S 0 6 j ∧ S (4 + j.toNat) 0 4 = S 0 7 j ∧ (0 ≤ S 0 6 j ∧ S 0 6 j ≤ 5) ∧ (0 ≤ S 0 7 j ∧ S 0 7 j ≤ 5) ∧ ∀ k, 0 ≤ k → k < 120 → S (4 + j.toNat) 3 k = S 0 8 (120 * j + k)
def iCs (S : St) : Prop := S 1 0 3 = S 0 0 2 ∧ (∀ j : Nat, S 1 3 j = 1 ↔ (j : Int) < S 0 0 2) ∧ (∀ j, 0 ≤ j → j < S 0 0 2 → iC S j) ∧ (∀ k, 0 ≤ k → k < 600 → 0 ≤ S 0 8 k ∧ S 0 8 k ≤ 6) ∧ ∀ j, S 0 0 2 ≤ j → j < 5 → S 0 5 j = 0 ∧ ∀ k, 0 ≤ k → k < 120 → S 0 8 (120 * j + k) = 0
def iL (S : St) : Prop := S 2 0 0 = S 0 0 8 ∧ ∀ j, 0 ≤ j → j < 20 → S 2 2 j = S 0 10 j ∧ S 2 3 j = S 0 11 j ∧ S 2 4 j = S 0 12 j ∧ S 2 5 j = S 0 13 j ∧ S 2 6 j = S 0 14 j ∧ (0 ≤ S 0 10 j ∧ S 0 10 j ≤ 5) ∧ (0 ≤ S 0 11 j ∧ S 0 11 j ≤ 999) ∧ (0 ≤ S 0 12 j ∧ S 0 12 j ≤ 999) ∧ (0 ≤ S 0 13 j ∧ S 0 13 j ≤ 9) ∧ (S 0 0 8 ≤ j → S 0 11 j = 0 ∧ S 0 12 j = 0)
/-- a cell of a piece: its colour, its lot, its shade -/
def okc (S : St) (v t u : Int) : Prop := (0 ≤ v ∧ v ≤ 5) ∧ ((t = -1 ∧ u = 0) ∨ (0 ≤ t ∧ t < S 0 0 8 ∧ S 0 10 t = v))
def pQ (S : St) (x : Int) : Prop := (dnM S x ∧ ∀ c r, 0 ≤ c → c < S 0 16 x → 0 ≤ r → r < S 0 17 x → S 0 26 (240 * x + 10 * c + r) ≠ -1) ∨
  (S 0 16 x = S 0 21 x ∧ S 0 16 x ≤ 12 ∧ 1 ≤ S 0 18 x ∧ S 0 18 x ≤ S 0 16 x ∧ (∀ w, 0 ≤ w → w < S 0 18 x → S 0 20 (4 * x + w) ≤ S 0 17 x) ∧ ∀ w c r, 0 ≤ w → w < S 0 18 x → w * S 0 21 x / S 0 18 x ≤ c → c < (w + 1) * S 0 21 x / S 0 18 x → 0 ≤ r → r < S 0 17 x → (S 0 26 (240 * x + 10 * c + r) ≠ -1 ↔ r < S 0 20 (4 * x + w)))
def pR (S : St) (o : Nat) (x : Int) : Prop := S o 0 (-1) = 1 ∧ S o 0 0 = S 0 16 x ∧ S o 0 1 = S 0 17 x ∧ S o 0 2 = S 0 18 x ∧ (1 ≤ S 0 16 x ∧ S 0 16 x ≤ 24) ∧ (1 ≤ S 0 17 x ∧ S 0 17 x ≤ 10) ∧ (∀ w, 0 ≤ w → w < 4 → S o 4 w = S 0 20 (4 * x + w)) ∧
  (∀ j, 0 ≤ j → j < 240 → 0 ≤ S o 7 j ∧ S o 7 j ≤ 100) ∧ (∀ j, 0 ≤ j → j < 24 → 0 ≤ S o 8 j ∧ S o 8 j ≤ 1000)
def pX (S : St) (o : Nat) (x : Int) : Prop := ∀ c r, 0 ≤ c → c < S 0 16 x → 0 ≤ r → r < S 0 17 x → S o 5 (r * 24 + c) = S 0 25 (240 * x + 10 * c + r) ∧ S o 6 (r * 24 + c) = S 0 26 (240 * x + 10 * c + r) ∧ S o 7 (r * 24 + c) = S 0 27 (240 * x + 10 * c + r) ∧ okc S (S 0 25 (240 * x + 10 * c + r)) (S 0 26 (240 * x + 10 * c + r)) (S 0 27 (240 * x + 10 * c + r))
def pY (S : St) (o : Nat) (x : Int) : Prop := ∀ c, 0 ≤ c → c < S 0 16 x → S o 9 c = S 0 24 (24 * x + c) ∧ S o 8 c = 24 * S 0 22 (24 * x + c) + S 0 23 (24 * x + c) ∧ (0 ≤ S 0 22 (24 * x + c) ∧ S 0 22 (24 * x + c) < 20) ∧ (0 ≤ S 0 23 (24 * x + c) ∧ S 0 23 (24 * x + c) ≤ 11)
def iP (S : St) (x : Int) : Prop := pR S (10 + x.toNat) x ∧ pX S (10 + x.toNat) x ∧ pY S (10 + x.toNat) x ∧ pQ S x
def iPs (S : St) : Prop := S 1 0 6 = S 0 0 14 ∧ (∀ j : Nat, S 1 6 j = 1 ↔ ((j : Int) < S 0 0 14 ∧ S 0 19 j = 0)) ∧ (∀ x, isP S x → iP S x) ∧ (∀ x, S 0 0 14 ≤ x → x < 20 → S 0 18 x = 0 ∧ S 0 19 x = 0 ∧ (∀ w, 0 ≤ w → w < 4 → S 0 20 (4 * x + w) = 0) ∧ ∀ k, 0 ≤ k → k < 240 → S 0 27 (240 * x + k) = 0) ∧ ∀ j, 0 ≤ j → j < 480 → 0 ≤ S 0 23 j ∧ S 0 23 j ≤ 24
def Inv (S : St) : Prop := wM S ∧ (S 1 0 (-1) = 1 ∧ S 2 0 (-1) = 1 ∧ S 3 0 (-1) = 1) ∧ iW S ∧ iCs S ∧ iL S ∧ iPs S
theorem Inv.m {S : St} (h : Inv S) : wM S := h.1
theorem Inv.a1 {S : St} (h : Inv S) : S 1 0 (-1) = 1 := h.2.1.1
theorem Inv.a2 {S : St} (h : Inv S) : S 2 0 (-1) = 1 := h.2.1.2.1
theorem Inv.a3 {S : St} (h : Inv S) : S 3 0 (-1) = 1 := h.2.1.2.2
theorem Inv.w {S : St} (h : Inv S) : iW S := h.2.2.1
theorem Inv.c {S : St} (h : Inv S) : iCs S := h.2.2.2.1
theorem Inv.l {S : St} (h : Inv S) : iL S := h.2.2.2.2.1
theorem Inv.p {S : St} (h : Inv S) : iPs S := h.2.2.2.2.2
theorem Inv.hcf {S : St} (h : Inv S) : ∀ j : Nat, S 1 3 j = 1 → (j : Int) < S 1 0 3 := fun j q => by
  rw [h.c.1]; exact (h.c.2.1 j).mp q
theorem Inv.hpf {S : St} (h : Inv S) : ∀ j : Nat, S 1 6 j = 1 → (j : Int) < S 1 0 6 := fun j q => by
  rw [h.p.1]; exact ((h.p.2.1 j).mp q).1
theorem Inv.ce {S : St} (h : Inv S) {x : Int} : ceC S x ↔ isC S x := by
  have h5 := h.m.cs
  unfold ceC isC
  constructor
  · rintro ⟨h0, h1, h2⟩
    have := (h.c.2.1 x.toNat).mp (by rw [Int.toNat_of_nonneg h0]; exact h2)
    omega
  · rintro ⟨h0, h1⟩
    have := (h.c.2.1 x.toNat).mpr (by omega)
    rw [Int.toNat_of_nonneg h0] at this
    exact ⟨h0, by omega, this⟩
theorem Inv.pe {S : St} (h : Inv S) {x : Int} : peC S x ↔ isP S x := by
  have h5 := h.m.ps
  unfold peC isP
  constructor
  · rintro ⟨h0, h1, h2⟩
    have := (h.p.2.1 x.toNat).mp (by rw [Int.toNat_of_nonneg h0]; exact h2)
    rw [Int.toNat_of_nonneg h0] at this
    exact ⟨h0, this.1, this.2⟩
  · rintro ⟨h0, h1, h2⟩
    have := (h.p.2.1 x.toNat).mpr (by rw [Int.toNat_of_nonneg h0]; exact ⟨h1, h2⟩)
    rw [Int.toNat_of_nonneg h0] at this
    exact ⟨h0, by omega, this⟩
theorem Inv.ip {S : St} (h : Inv S) {x : Int} (q : isP S x) : iP S x := h.p.2.2.1 x q
theorem Inv.x20 {S : St} (h : Inv S) {x : Int} (q : isP S x) : 0 ≤ x ∧ x < 20 := by
  have h5 := h.m.ps
  unfold isP at q
  omega
/-! sums over cells, row by row and column by column -/
theorem sm_add (f g : Int → Int) (n : Nat) : sm (fun i => f i + g i) n = sm f n + sm g n := by
  induction n with
  | zero => rfl
  | succ n ih =>
    show sm (fun i => f i + g i) n + (f n + g n) = (sm f n + f n) + (sm g n + g n)
    rw [ih]; omega
theorem sm_zero (n : Nat) : sm (fun _ => 0) n = 0 := by
  induction n with
  | zero => rfl
  | succ n ih => show sm (fun _ => 0) n + 0 = 0; rw [ih]; rfl
theorem sm_swap (F : Int → Int → Int) (n k : Nat) : sm (fun i => sm (fun j => F i j) k) n = sm (fun j => sm (fun i => F i j) n) k := by
  induction n with
  | zero => show (0 : Int) = sm (fun _ => 0) k; rw [sm_zero]
  | succ n ih =>
    show sm (fun i => sm (fun j => F i j) k) n + sm (fun j => F n j) k = sm (fun j => sm (fun i => F i j) n + F n j) k
    rw [ih, sm_add]
theorem sm_app (f : Int → Int) (n k : Nat) : sm f (n + k) = sm f n + sm (fun i => f (n + i)) k := by
  induction k with
  | zero => show sm f n = sm f n + 0; omega
  | succ k ih =>
    show sm f (n + k) + f ((n + k : Nat) : Int) = sm f n + (sm (fun i => f (n + i)) k + f (n + k))
    rw [ih, show ((n + k : Nat) : Int) = (n : Int) + k by omega]; omega
/-- column by column -/
theorem sm_col (F : Int → Int → Int) (W H : Nat) (hH : 0 < H) : sm (fun n => F (n % H) (n / H)) (W * H) = sm (fun c => sm (fun r => F r c) H) W := by
  induction W with
  | zero => rw [Nat.zero_mul]; rfl
  | succ W ih =>
    rw [Nat.succ_mul, sm_app, ih]
    show _ = sm (fun c => sm (fun r => F r c) H) W + sm (fun r => F r W) H
    congr 1
    refine sm_c (fun i h0 h1 => ?_)
    have e1 : (((W * H : Nat) : Int) + i) / H = W := by
      rw [Int.natCast_mul, Int.add_comm, Int.add_mul_ediv_right _ _ (by omega), Int.ediv_eq_zero_of_lt h0 h1]; omega
    have e2 : (((W * H : Nat) : Int) + i) % H = i := by
      rw [Int.natCast_mul, Int.add_comm, Int.add_mul_emod_self_right, Int.emod_eq_of_lt h0 h1]
    rw [e1, e2]
theorem sm_cells (F : Int → Int → Int) {W H : Int} (hW : 0 ≤ W) (hH : 0 < H) : sm (fun n => F (n % H) (n / H)) (W * H).toNat = sm (fun r => sm (fun c => F r c) W.toNat) H.toNat := by
  obtain ⟨w, rfl⟩ := Int.eq_ofNat_of_zero_le hW
  obtain ⟨k, rfl⟩ := Int.eq_ofNat_of_zero_le (Int.le_of_lt hH)
  have := sm_col F w k (by omega)
  rw [show ((w : Int) * (k : Int)).toNat = w * k by rw [← Int.natCast_mul]; rfl, this, sm_swap]
  rfl
theorem sm_ge {f g : Int → Int} {n : Nat} (h : ∀ i : Int, 0 ≤ i → i < n → f i ≤ g i) : sm f n ≤ sm g n := by
  induction n with
  | zero => exact Int.le_refl _
  | succ n ih =>
    show sm f n + f n ≤ sm g n + g n
    have := ih (fun i h0 h1 => h i h0 (by omega))
    have := h n (by omega) (by omega)
    omega
/-- a sum of zeros and ones that is as great as it can be -/
theorem sm_full {φ : Int → Prop} {n : Nat} : sm (fun i => b2 (φ i)) n = n ↔ ∀ i : Int, 0 ≤ i → i < n → φ i := by
  induction n with
  | zero => exact ⟨fun _ i h0 h1 => by omega, fun _ => rfl⟩
  | succ n ih =>
    have hb := sm_b (f := fun i => b2 (φ i)) (B := 1) (n := n) (by decide) (fun i _ _ => b2_b _)
    have hc := b2_b (φ n)
    constructor
    · intro h i h0 h1
      have h' : sm (fun i => b2 (φ i)) n + b2 (φ n) = ((n + 1 : Nat) : Int) := h
      have e1 : sm (fun i => b2 (φ i)) n = n := by omega
      have e2 : b2 (φ n) = 1 := by omega
      by_cases hi : i = n
      · rw [hi]; exact b2_1.mp e2
      · exact ih.mp e1 i h0 (by omega)
    · intro h
      show sm (fun i => b2 (φ i)) n + b2 (φ n) = ((n + 1 : Nat) : Int)
      rw [ih.mpr (fun i h0 h1 => h i h0 (by omega)), b2_t (h n (by omega) (by omega))]
      omega
/-! the class's bounds -/
theorem wnC_full {S : St} {o : Nat} (hw : 0 ≤ S o 0 0) (hh : 0 ≤ S o 0 1) : dnC S o ↔ ∀ r c, 0 ≤ r → r < S o 0 1 → 0 ≤ c → c < S o 0 0 → S o 6 (r * 24 + c) ≠ -1 := by
  unfold dnC wnC s2
  have hrow : ∀ r, 0 ≤ sm (fun c => b2 (S o 6 (r * 24 + c) ≠ -1)) (S o 0 0).toNat ∧ sm (fun c => b2 (S o 6 (r * 24 + c) ≠ -1)) (S o 0 0).toNat ≤ S o 0 0 := by
    intro r
    have := sm_b (f := fun c => b2 (S o 6 (r * 24 + c) ≠ -1)) (B := 1) (n := (S o 0 0).toNat) (by decide) (fun i _ _ => b2_b _)
    omega
  generalize S o 0 0 = W at hw hrow ⊢
  generalize S o 0 1 = H at hh ⊢
  obtain ⟨w, rfl⟩ := Int.eq_ofNat_of_zero_le hw
  obtain ⟨k, rfl⟩ := Int.eq_ofNat_of_zero_le hh
  show sm (fun r => sm (fun c => b2 (S o 6 (r * 24 + c) ≠ -1)) w) k = (w : Int) * k ↔ _
  have hrow : ∀ r, 0 ≤ sm (fun c => b2 (S o 6 (r * 24 + c) ≠ -1)) w ∧ sm (fun c => b2 (S o 6 (r * 24 + c) ≠ -1)) w ≤ w := hrow
  clear hw hh
  induction k with
  | zero => exact ⟨fun _ r c h0 h1 => by omega, fun _ => by show (0 : Int) = w * ((0 : Nat) : Int); simp⟩
  | succ k ih =>
    have hsum := sm_b (f := fun r => sm (fun c => b2 (S o 6 (r * 24 + c) ≠ -1)) w) (B := w) (n := k) (by omega) (fun r _ _ => hrow r)
    have hk := hrow k
    have em : (w : Int) * ((k + 1 : Nat) : Int) = w * k + w := by rw [Int.natCast_succ, Int.mul_add, Int.mul_one]
    have ec : (k : Int) * w = w * k := Int.mul_comm _ _
    constructor
    · intro h r c h0 h1 h2 h3
      have h' : sm (fun r => sm (fun c => b2 (S o 6 (r * 24 + c) ≠ -1)) w) k + sm (fun c => b2 (S o 6 ((k : Int) * 24 + c) ≠ -1)) w = (w : Int) * ((k + 1 : Nat) : Int) := h
      have e1 : sm (fun r => sm (fun c => b2 (S o 6 (r * 24 + c) ≠ -1)) w) k = (w : Int) * k := by omega
      have e2 : sm (fun c => b2 (S o 6 ((k : Int) * 24 + c) ≠ -1)) w = w := by omega
      by_cases hr : r = k
      · rw [hr]; exact sm_full.mp e2 c h2 h3
      · exact ih.mp e1 r c h0 (by omega) h2 h3
    · intro h
      show sm (fun r => sm (fun c => b2 (S o 6 (r * 24 + c) ≠ -1)) w) k + sm (fun c => b2 (S o 6 ((k : Int) * 24 + c) ≠ -1)) w = (w : Int) * ((k + 1 : Nat) : Int)
      rw [ih.mpr (fun r c h0 h1 h2 h3 => h r c h0 (by omega) h2 h3), sm_full.mpr (fun c h2 h3 => h k c (by omega) (by omega) h2 h3), em]
/-- the weaver of a column -/
theorem wvr {d v c : Int} (hv : 1 ≤ v) (hd : 0 ≤ c) (hc : c < d) : ∃ w, 0 ≤ w ∧ w < v ∧ w * d / v ≤ c ∧ c < (w + 1) * d / v := by
  have key : ∀ k : Nat, (k : Int) ≤ v → c < (k : Int) * d / v → ∃ w, 0 ≤ w ∧ w < v ∧ w * d / v ≤ c ∧ c < (w + 1) * d / v := by
    intro k
    induction k with
    | zero =>
      intro _ h
      rw [show ((0 : Nat) : Int) * d = 0 by simp, Int.zero_ediv] at h
      omega
    | succ k ih =>
      intro hk h
      by_cases h2 : c < (k : Int) * d / v
      · exact ih (by omega) h2
      · exact ⟨k, by omega, by omega, by omega, by rw [show (k : Int) + 1 = ((k + 1 : Nat) : Int) by omega]; exact h⟩
  obtain ⟨k, rfl⟩ := Int.eq_ofNat_of_zero_le (show 0 ≤ v by omega)
  exact key k (Int.le_refl _) (by rw [Int.mul_comm, Int.mul_ediv_cancel _ (by omega)]; exact hc)
theorem wv_ne {d v w : Int} (hv : 1 ≤ v) (hd : v ≤ d) (h0 : 0 ≤ w) : w * d / v < (w + 1) * d / v := by
  have h : (w * d + v) / v ≤ (w + 1) * d / v := Int.ediv_le_ediv (by omega) (by rw [Int.add_mul, Int.one_mul]; omega)
  rw [show w * d + v = w * d + 1 * v by omega, Int.add_mul_ediv_right _ _ (by omega)] at h
  omega
/-- done in the class just if done in the reference -/
theorem Inv.dn {S : St} (h : Inv S) {x : Int} (q : isP S x) : dnC S (10 + x.toNat) ↔ dnM S x := by
  obtain ⟨hR, hX, -, hQ⟩ := h.ip q
  obtain ⟨-, e0, e1, -, hW, hH, -⟩ := hR
  have hx := h.x20 q
  rw [wnC_full (by omega) (by omega), e0, e1]
  rcases hQ with ⟨hd, ha⟩ | ⟨e, h12, hv1, hv2, hle, hq⟩
  · exact ⟨fun _ => hd, fun _ r c h0 h1 h2 h3 => by rw [(hX c r h2 h3 h0 h1).2.1]; exact ha c r h2 h3 h0 h1⟩
  · constructor
    · intro ha w h0 h1
      have hb := dvb h0 h1 (h.m.pc x hx.1 hx.2).2.2.2.2.2.1 (show 0 ≤ S 0 21 x by omega) (show S 0 21 x ≤ 12 by omega)
      have hlt := wv_ne hv1 (show S 0 18 x ≤ S 0 21 x by omega) h0
      have hc1 : (w * S 0 21 x / S 0 18 x) < S 0 16 x := by omega
      have h2 := (hq w (w * S 0 21 x / S 0 18 x) (S 0 17 x - 1) h0 h1 (Int.le_refl _) hlt (by omega) (by omega)).mp (by
        rw [← (hX _ (S 0 17 x - 1) hb.2.2.2.2.1 hc1 (by omega) (by omega)).2.1]
        exact ha _ _ (by omega) (by omega) hb.2.2.2.2.1 hc1)
      have h3 := hle w h0 h1
      omega
    · intro hd r c h0 h1 h2 h3
      obtain ⟨w, w0, w1, w2, w3⟩ := wvr hv1 h2 (show c < S 0 21 x by omega)
      rw [(hX c r h2 h3 h0 h1).2.1]
      exact (hq w c r w0 w1 w2 w3 h0 h1).mpr (by rw [hd w w0 w1]; exact h1)
theorem Inv.wc {S : St} (h : Inv S) : wC S := by
  refine ⟨h.a1, h.a2, by rw [h.w.1]; exact h.m.le, by rw [h.c.1]; exact h.m.cs, by rw [h.p.1]; exact h.m.ps, by rw [h.l.1]; exact h.m.lt, fun j h0 h1 => ?_, fun j h0 h1 => ?_, fun j h0 h1 => ?_, fun x q => ?_, fun x q => ?_⟩
  · obtain ⟨-, -, e, -, -, -, -, q, -⟩ := h.l.2 j h0 h1
    rw [e]; exact q
  · obtain ⟨-, -, -, e, -, -, -, -, q, -⟩ := h.l.2 j h0 h1
    rw [e]; exact q
  · obtain ⟨-, e, -, -, -, -, q, -⟩ := h.l.2 j h0 h1
    rw [e]; exact q
  · have q' := h.ce.mp q
    exact (h.c.2.2.1 x q'.1 q'.2).1
  · have q' := h.pe.mp q
    have hx := h.x20 q'
    have hp := h.m.pc x hx.1 hx.2
    obtain ⟨hR, hX, -, hQ⟩ := h.ip q'
    obtain ⟨ea, e0, e1, e2, hW, hH, h4, h7, h8⟩ := hR
    refine ⟨ea, by rw [e0]; exact hW, by rw [e1]; exact hH, by rw [e2]; omega, h7, h8, fun w w0 w1 => ?_, fun hd r c r0 r1 c0 c1 => ?_, fun w w0 w1 w2 => ?_⟩
    · rw [h4 w w0 w1]
      exact h.m.wv _ (by omega) (by omega)
    · rw [e0] at c1
      rw [e1] at r1
      obtain ⟨-, e6, -, -, hc⟩ := hX c r c0 c1 r0 r1
      have hn := (wnC_full (by rw [e0]; omega) (by rw [e1]; omega)).mp hd r c r0 (by rw [e1]; exact r1) c0 (by rw [e0]; exact c1)
      rw [e6] at hn ⊢
      rw [h.l.1]
      omega
    · rw [e2] at w1
      rw [h4 w w0 (by omega), e1] at w2
      rw [e0]
      rcases hQ with ⟨hd, -⟩ | ⟨-, h12, -⟩
      · have := hd w w0 w1
        omega
      · exact h12
/-! ===== what is kept where nothing of it is written ===== -/
theorem iW_keep {S S' : St} (h : iW S) (e : ∀ (a b : Nat) (i : Int), (a = 1 ∧ ((b = 0 ∧ i = 1) ∨ b = 1)) ∨ (a = 0 ∧ ((b = 0 ∧ i = 0) ∨ b = 2)) → S' a b i = S a b i) : iW S' := by
  refine ⟨by rw [e 1 0 1 (by omega), e 0 0 0 (by omega)]; exact h.1, fun j h0 h1 => ?_⟩
  rw [e 1 1 j (by omega), e 0 2 j (by omega)]
  exact h.2 j h0 h1
theorem iC_keep {S S' : St} {j : Int} (h : iC S j) (h0 : 0 ≤ j ∧ j < 5) (e : ∀ (a b : Nat) (i : Int), (4 ≤ a ∧ a < 10) ∨ (a = 0 ∧ (4 ≤ b ∧ b ≤ 8)) → S' a b i = S a b i) : iC S' j := by
  obtain ⟨⟨h1, h2, h3⟩, h4, h5, h6, h7, h8, h9, h10⟩ := h
  have eo : S' (4 + j.toNat) = S (4 + j.toNat) := by funext b i; exact e _ _ _ (by omega)
  refine ⟨⟨by rw [eo]; exact h1, by rw [eo]; exact h2, by rw [eo]; exact h3⟩, by rw [eo, e 0 4 _ (by omega)]; exact h4, by rw [eo, e 0 5 _ (by omega)]; exact h5, by rw [eo, e 0 6 _ (by omega)]; exact h6, by rw [eo, e 0 7 _ (by omega)]; exact h7, by rw [e 0 6 _ (by omega)]; exact h8, by rw [e 0 7 _ (by omega)]; exact h9, fun k k0 k1 => ?_⟩
  rw [eo, e 0 8 _ (by omega)]
  exact h10 k k0 k1
theorem iCs_keep {S S' : St} (h : iCs S) (hm : wM S) (e : ∀ (a b : Nat) (i : Int), (a = 1 ∧ ((b = 0 ∧ i = 3) ∨ b = 3)) ∨ (4 ≤ a ∧ a < 10) ∨ (a = 0 ∧ ((b = 0 ∧ i = 2) ∨ (4 ≤ b ∧ b ≤ 8))) → S' a b i = S a b i) : iCs S' := by
  obtain ⟨h1, h2, h3, h4, h5⟩ := h
  have hc := hm.cs
  have e2 := e 0 0 2 (by omega)
  refine ⟨by rw [e 1 0 3 (by omega), e2]; exact h1, fun j => by rw [e 1 3 _ (by omega), e2]; exact h2 j, fun j j0 j1 => ?_, fun k k0 k1 => by rw [e 0 8 _ (by omega)]; exact h4 k k0 k1, fun j j0 j1 => ?_⟩
  · rw [e2] at j1
    exact iC_keep (h3 j j0 j1) (by omega) (fun a b i q => e a b i (by omega))
  · rw [e2] at j0
    obtain ⟨q1, q2⟩ := h5 j j0 j1
    exact ⟨by rw [e 0 5 _ (by omega)]; exact q1, fun k k0 k1 => by rw [e 0 8 _ (by omega)]; exact q2 k k0 k1⟩
theorem iL_keep {S S' : St} (h : iL S) (e : ∀ (a b : Nat) (i : Int), a = 2 ∨ (a = 0 ∧ ((b = 0 ∧ i = 8) ∨ (10 ≤ b ∧ b ≤ 14))) → S' a b i = S a b i) : iL S' := by
  refine ⟨by rw [e 2 0 0 (by omega), e 0 0 8 (by omega)]; exact h.1, fun j j0 j1 => ?_⟩
  rw [e 2 2 j (by omega), e 2 3 j (by omega), e 2 4 j (by omega), e 2 5 j (by omega), e 2 6 j (by omega), e 0 10 j (by omega), e 0 11 j (by omega), e 0 12 j (by omega), e 0 13 j (by omega), e 0 14 j (by omega), e 0 0 8 (by omega)]
  exact h.2 j j0 j1
/-- the places of a piece -/
def pS (x : Int) (a b : Nat) (i : Int) : Prop := a = 10 + x.toNat ∨ (a = 0 ∧ (((b = 16 ∨ b = 17 ∨ b = 18 ∨ b = 21) ∧ i = x) ∨ (b = 20 ∧ 4 * x ≤ i ∧ i < 4 * x + 4) ∨ ((b = 22 ∨ b = 23 ∨ b = 24) ∧ 24 * x ≤ i ∧ i < 24 * x + 24) ∨ ((b = 25 ∨ b = 26 ∨ b = 27) ∧ 240 * x ≤ i ∧ i < 240 * x + 240)))
def lgr (S S' : St) : Prop := S 0 0 8 ≤ S' 0 0 8 ∧ ∀ k, 0 ≤ k → k < S 0 0 8 → S' 0 10 k = S 0 10 k
theorem okc_keep {S S' : St} (hL : lgr S S') {v t u : Int} (h : okc S v t u) : okc S' v t u := by
  obtain ⟨h1, h2⟩ := h
  refine ⟨h1, ?_⟩
  rcases h2 with h2 | ⟨t0, t1, t2⟩
  · exact Or.inl h2
  · have := hL.1
    exact Or.inr ⟨t0, by omega, by rw [hL.2 t t0 t1]; exact t2⟩
theorem iP_keep {S S' : St} {x : Int} (h : iP S x) (hx : 0 ≤ x) (hv : S 0 18 x ≤ 4) (e : ∀ (a b : Nat) (i : Int), pS x a b i → S' a b i = S a b i) (hL : lgr S S') : iP S' x := by
  obtain ⟨⟨ea, e0, e1, e2, hW, hH, h4, h7, h8⟩, hX, hY, hQ⟩ := h
  have eo : S' (10 + x.toNat) = S (10 + x.toNat) := by funext b i; exact e _ _ _ (Or.inl rfl)
  have e16 : S' 0 16 x = S 0 16 x := e _ _ _ (by unfold pS; omega)
  have e17 : S' 0 17 x = S 0 17 x := e _ _ _ (by unfold pS; omega)
  have e18 : S' 0 18 x = S 0 18 x := e _ _ _ (by unfold pS; omega)
  have e21 : S' 0 21 x = S 0 21 x := e _ _ _ (by unfold pS; omega)
  have e20 : ∀ w, 0 ≤ w → w < 4 → S' 0 20 (4 * x + w) = S 0 20 (4 * x + w) := fun w _ _ => e _ _ _ (by unfold pS; omega)
  have ec : ∀ b c r, (b = 25 ∨ b = 26 ∨ b = 27) → 0 ≤ c → c < 24 → 0 ≤ r → r < 10 → S' 0 b (240 * x + 10 * c + r) = S 0 b (240 * x + 10 * c + r) := fun b c r _ _ _ _ _ => e _ _ _ (by unfold pS; omega)
  have el : ∀ b c, (b = 22 ∨ b = 23 ∨ b = 24) → 0 ≤ c → c < 24 → S' 0 b (24 * x + c) = S 0 b (24 * x + c) := fun b c _ _ _ => e _ _ _ (by unfold pS; omega)
  have edn : dnM S' x ↔ dnM S x := by
    unfold dnM
    rw [e18, e17]
    refine ⟨fun q j j0 j1 => by rw [← e20 j j0 (by omega)]; exact q j j0 j1, fun q j j0 j1 => by rw [e20 j j0 (by omega)]; exact q j j0 j1⟩
  refine ⟨⟨by rw [eo]; exact ea, by rw [eo, e16]; exact e0, by rw [eo, e17]; exact e1, by rw [eo, e18]; exact e2, by rw [e16]; exact hW, by rw [e17]; exact hH, fun w w0 w1 => by rw [eo, e20 w w0 w1]; exact h4 w w0 w1, fun j j0 j1 => by rw [eo]; exact h7 j j0 j1, fun j j0 j1 => by rw [eo]; exact h8 j j0 j1⟩, fun c r c0 c1 r0 r1 => ?_, fun c c0 c1 => ?_, ?_⟩
  · rw [e16] at c1
    rw [e17] at r1
    obtain ⟨a1, a2, a3, a4⟩ := hX c r c0 c1 r0 r1
    rw [eo, ec 25 c r (by omega) c0 (by omega) r0 (by omega), ec 26 c r (by omega) c0 (by omega) r0 (by omega), ec 27 c r (by omega) c0 (by omega) r0 (by omega)]
    exact ⟨a1, a2, a3, okc_keep hL a4⟩
  · rw [e16] at c1
    rw [eo, el 24 c (by omega) c0 (by omega), el 22 c (by omega) c0 (by omega), el 23 c (by omega) c0 (by omega)]
    exact hY c c0 c1
  · unfold pQ
    rw [propext edn, e16, e17, e18, e21]
    rcases hQ with ⟨hd, ha⟩ | ⟨q1, q2, q3, q4, q5, q6⟩
    · exact Or.inl ⟨hd, fun c r c0 c1 r0 r1 => by rw [ec 26 c r (by omega) c0 (by omega) r0 (by omega)]; exact ha c r c0 c1 r0 r1⟩
    · refine Or.inr ⟨q1, q2, q3, q4, fun w w0 w1 => by rw [e20 w w0 (by omega)]; exact q5 w w0 w1, fun w c r w0 w1 c0 c1 r0 r1 => ?_⟩
      have hb := dvb w0 w1 hv (show 0 ≤ S 0 21 x by omega) (show S 0 21 x ≤ 12 by omega)
      rw [ec 26 c r (by omega) (by omega) (by omega) r0 (by omega), e20 w w0 (by omega)]
      exact q6 w c r w0 w1 c0 c1 r0 r1
theorem iPs_gen {S S' : St} (h : iPs S) (hm : wM S) (hL : lgr S S') (e1 : S' 1 0 6 = S' 0 0 14) (e2 : ∀ j : Nat, S' 1 6 j = 1 ↔ ((j : Int) < S' 0 0 14 ∧ S' 0 19 j = 0)) (e3 : ∀ x, isP S' x → (isP S x ∧ ∀ (a b : Nat) (i : Int), pS x a b i → S' a b i = S a b i) ∨ iP S' x)
    (e4 : ∀ x, S' 0 0 14 ≤ x → x < 20 → S' 0 18 x = 0 ∧ S' 0 19 x = 0 ∧ (∀ w, 0 ≤ w → w < 4 → S' 0 20 (4 * x + w) = 0) ∧ ∀ k, 0 ≤ k → k < 240 → S' 0 27 (240 * x + k) = 0) (e5 : ∀ j, 0 ≤ j → j < 480 → 0 ≤ S' 0 23 j ∧ S' 0 23 j ≤ 24) : iPs S' := by
  refine ⟨e1, e2, fun x q => ?_, e4, e5⟩
  rcases e3 x q with ⟨q1, q2⟩ | q1
  · have hps := hm.ps
    have hx : 0 ≤ x ∧ x < 20 := by unfold isP at q1; omega
    exact iP_keep (h.2.2.1 x q1) hx.1 (hm.pc x hx.1 hx.2).2.2.2.2.2.1 q2 hL
  · exact q1
theorem iPs_keep {S S' : St} (h : iPs S) (hm : wM S) (e : ∀ (a b : Nat) (i : Int), (a = 1 ∧ ((b = 0 ∧ i = 6) ∨ b = 6)) ∨ 10 ≤ a ∨ (a = 0 ∧ ((b = 0 ∧ i = 14) ∨ (16 ≤ b ∧ b ≤ 26) ∨ b = 27 ∧ 0 ≤ i)) → S' a b i = S a b i) (hL : lgr S S') : iPs S' := by
  have h0 := hm.ps
  have e14 := e 0 0 14 (by omega)
  refine iPs_gen h hm hL (by rw [e 1 0 6 (by omega), e14]; exact h.1) (fun j => by rw [e 1 6 _ (by omega), e14, e 0 19 _ (by omega)]; exact h.2.1 j) (fun x q => Or.inl ⟨?_, fun a b i q2 => e a b i ?_⟩) (fun x q1 q2 => ?_) (fun j j0 j1 => by rw [e 0 23 _ (by omega)]; exact h.2.2.2.2 j j0 j1)
  · unfold isP at q ⊢
    rw [e14, e 0 19 _ (by omega)] at q
    exact q
  · have : 0 ≤ x := q.1
    unfold pS at q2
    omega
  · rw [e14] at q1
    obtain ⟨a1, a2, a3, a4⟩ := h.2.2.2.1 x q1 q2
    exact ⟨by rw [e 0 18 _ (by omega)]; exact a1, by rw [e 0 19 _ (by omega)]; exact a2, fun w w0 w1 => by rw [e 0 20 _ (by omega)]; exact a3 w w0 w1, fun k k0 k1 => by rw [e 0 27 _ (by omega)]; exact a4 k k0 k1⟩
theorem lgr_e {S S' : St} (e : ∀ (b : Nat) (i : Int), (b = 0 ∧ i = 8) ∨ b = 10 → S' 0 b i = S 0 b i) : lgr S S' := ⟨by rw [e 0 8 (by omega)]; exact Int.le_refl _, fun k _ _ => e 10 k (by omega)⟩
/-- .. where one piece alone is written -/
theorem iPs_one {S S' : St} {x : Int} (h : iPs S) (hm : wM S) (hL : lgr S S') (e : ∀ (a b : Nat) (i : Int), (a = 1 ∧ ((b = 0 ∧ i = 6) ∨ b = 6)) ∨ (10 ≤ a ∧ a ≠ 10 + x.toNat) ∨ (a = 0 ∧ ((b = 0 ∧ i = 14) ∨ b = 19 ∨ b = 22 ∨ b = 23 ∨ (((b = 16 ∨ b = 17 ∨ b = 18 ∨ b = 21) ∧ i ≠ x) ∨ (b = 20 ∧ ¬ (4 * x ≤ i ∧ i < 4 * x + 4)) ∨ ((b = 24) ∧ ¬ (24 * x ≤ i ∧ i < 24 * x + 24)) ∨ ((b = 25 ∨ b = 26 ∨ b = 27) ∧ ¬ (240 * x ≤ i ∧ i < 240 * x + 240))))) → S' a b i = S a b i)
    (hx : isP S x) (hP : iP S' x) : iPs S' := by
  have h0 := hm.ps
  have e14 := e 0 0 14 (by omega)
  have hx' := hx
  unfold isP at hx'
  refine iPs_gen h hm hL (by rw [e 1 0 6 (by omega), e14]; exact h.1) (fun j => by rw [e 1 6 _ (by omega), e14, e 0 19 _ (by omega)]; exact h.2.1 j) (fun y q => ?_) (fun y q1 q2 => ?_) (fun j j0 j1 => by rw [e 0 23 _ (by omega)]; exact h.2.2.2.2 j j0 j1)
  · by_cases hy : y = x
    · rw [hy]; exact Or.inr hP
    · unfold isP at q
      rw [e14, e 0 19 _ (by omega)] at q
      refine Or.inl ⟨q, fun a b i q2 => e a b i ?_⟩
      unfold pS at q2
      omega
  · rw [e14] at q1
    obtain ⟨a1, a2, a3, a4⟩ := h.2.2.2.1 y q1 q2
    exact ⟨by rw [e 0 18 _ (by omega)]; exact a1, by rw [e 0 19 _ (by omega)]; exact a2, fun w w0 w1 => by rw [e 0 20 _ (by omega)]; exact a3 w w0 w1, fun k k0 k1 => by rw [e 0 27 _ (by omega)]; exact a4 k k0 k1⟩
