/-! ===== sums ===== -/
theorem sm_add (f g : Int → Int) (n : Nat) : sm (fun i => f i + g i) n = sm f n + sm g n := by
  induction n with
  | zero => rfl
  | succ n ih =>
    show sm (fun i => f i + g i) n + (f n + g n) = (sm f n + f n) + (sm g n + g n)
    rw [ih]; omega
theorem sm_zero (n : Nat) : sm (fun _ => 0) n = 0 := by
  induction n with
  | zero => rfl
  | succ n ih => show sm (fun _ => 0) n + 0 = 0; rw [ih]; rfl
theorem sm_0z {f : Int → Int} {n : Nat} (h : ∀ i : Int, 0 ≤ i → i < n → f i = 0) : sm f n = 0 := by
  rw [sm_c (g := fun _ => 0) h, sm_zero]
theorem sm_app (f : Int → Int) (n k : Nat) : sm f (n + k) = sm f n + sm (fun i => f (n + i)) k := by
  induction k with
  | zero => show sm f n = sm f n + 0; omega
  | succ k ih =>
    show sm f (n + k) + f ((n + k : Nat) : Int) = sm f n + (sm (fun i => f (n + i)) k + f (n + k))
    rw [ih, show ((n + k : Nat) : Int) = (n : Int) + k by omega]; omega
theorem sm_ge {f g : Int → Int} {n : Nat} (h : ∀ i : Int, 0 ≤ i → i < n → f i ≤ g i) : sm f n ≤ sm g n := by
  induction n with
  | zero => exact Int.le_refl _
  | succ n ih =>
    show sm f n + f n ≤ sm g n + g n
    have := ih (fun i h0 h1 => h i h0 (by omega))
    have := h n (by omega) (by omega)
    omega
theorem sm_full {φ : Int → Prop} {n : Nat} : sm (fun i => b2 (φ i)) n = n ↔ ∀ i : Int, 0 ≤ i → i < n → φ i := by
  induction n with
  | zero => exact ⟨fun _ i h0 h1 => by omega, fun _ => rfl⟩
  | succ n ih =>
    have hb := sm_b (f := fun i => b2 (φ i)) (B := 1) (n := n) (by decide) (fun i _ _ => b2_b _)
    have hc := b2_b (φ n)
    constructor
    · intro h i h0 h1
      have h' : sm (fun i => b2 (φ i)) n + b2 (φ n) = ((n + 1 : Nat) : Int) := h
      have e1 : sm (fun i => b2 (φ i)) n = n := by omega
      have e2 : b2 (φ n) = 1 := by omega
      by_cases hi : i = n
      · rw [hi]; exact b2_1.mp e2
      · exact ih.mp e1 i h0 (by omega)
    · intro h
      show sm (fun i => b2 (φ i)) n + b2 (φ n) = ((n + 1 : Nat) : Int)
      rw [ih.mpr (fun i h0 h1 => h i h0 (by omega)), b2_t (h n (by omega) (by omega))]
      omega
theorem sm_upd {f g : Int → Int} {n : Nat} {i0 : Int} (h0 : 0 ≤ i0) (h1 : i0 < n) (h : ∀ i : Int, 0 ≤ i → i < n → i ≠ i0 → f i = g i) : sm f n = sm g n + (f i0 - g i0) := by
  induction n with
  | zero => omega
  | succ n ih =>
    show sm f n + f n = sm g n + g n + (f i0 - g i0)
    by_cases hi : i0 = n
    · rw [sm_c (f := f) (g := g) (fun i a b => h i a (by omega) (by omega)), hi]; omega
    · rw [ih (by omega) (fun i a b c => h i a (by omega) c), h n (by omega) (by omega) (by omega)]; omega
theorem sm_upd2 {f g : Int → Int} {n : Nat} {i0 j0 : Int} (h0 : 0 ≤ i0) (h1 : i0 < n) (h2 : 0 ≤ j0) (h3 : j0 < n) (hn : i0 ≠ j0) (h : ∀ i : Int, 0 ≤ i → i < n → i ≠ i0 → i ≠ j0 → f i = g i) : sm f n = sm g n + (f i0 - g i0) + (f j0 - g j0) := by
  have e1 := sm_upd (f := f) (g := fun i => if i = i0 then f i0 else g i) h2 h3 (fun i a b c => by
    by_cases hi : i = i0
    · rw [if_pos hi, hi]
    · rw [if_neg hi]; exact h i a b hi c)
  have e2 := sm_upd (f := fun i => if i = i0 then f i0 else g i) (g := g) h0 h1 (fun i a b c => if_neg c)
  rw [e1, e2]
  rw [if_pos rfl, if_neg (fun q => hn q.symm)]
/-- a sum over rows and columns -/
noncomputable def ss (F : Int → Int → Int) (W H : Int) : Int := sm (fun r => sm (fun c => F r c) W.toNat) H.toNat
theorem s2_ss (S : St) (o : Nat) (F : Int → Int → Int) : s2 S o F = ss F (S o 0 0) (S o 0 1) := rfl
theorem ss_c {F G : Int → Int → Int} {W H : Int} (h : ∀ r c, 0 ≤ r → r < H → 0 ≤ c → c < W → F r c = G r c) : ss F W H = ss G W H :=
  sm_c (fun r h0 h1 => sm_c (fun c h2 h3 => h r c h0 (by omega) h2 (by omega)))
theorem ss_ge {F G : Int → Int → Int} {W H : Int} (h : ∀ r c, 0 ≤ r → r < H → 0 ≤ c → c < W → F r c ≤ G r c) : ss F W H ≤ ss G W H :=
  sm_ge (fun r h0 h1 => sm_ge (fun c h2 h3 => h r c h0 (by omega) h2 (by omega)))
theorem ss_upd {F G : Int → Int → Int} {W H r0 c0 : Int} (h0 : 0 ≤ r0) (h1 : r0 < H) (h2 : 0 ≤ c0) (h3 : c0 < W) (h : ∀ r c, 0 ≤ r → r < H → 0 ≤ c → c < W → ¬ (r = r0 ∧ c = c0) → F r c = G r c) : ss F W H = ss G W H + (F r0 c0 - G r0 c0) := by
  unfold ss
  rw [sm_upd (f := fun r => sm (fun c => F r c) W.toNat) (g := fun r => sm (fun c => G r c) W.toNat) h0 (by omega) (fun r a b d => sm_c (fun c a2 b2 => h r c a (by omega) a2 (by omega) (fun q => d q.1))),
    sm_upd (f := fun c => F r0 c) (g := fun c => G r0 c) h2 (by omega) (fun c a b d => h r0 c h0 h1 a (by omega) (fun q => d q.2))]
  omega
theorem ss_cut (F : Int → Int → Int) {W q : Int} (H : Int) (h0 : 0 ≤ q) (h1 : q ≤ W) : ss F W H = ss F q H + ss (fun r c => F r (q + c)) (W - q) H := by
  unfold ss
  rw [← sm_add]
  refine sm_c (fun r _ _ => ?_)
  rw [show W.toNat = q.toNat + (W - q).toNat by omega, sm_app]
  rw [show ((q.toNat : Nat) : Int) = q by omega]
theorem ss_full {φ : Int → Int → Prop} {W H : Int} (hW : 0 ≤ W) (hH : 0 ≤ H) : ss (fun r c => b2 (φ r c)) W H = W * H ↔ ∀ r c, 0 ≤ r → r < H → 0 ≤ c → c < W → φ r c := by
  obtain ⟨w, rfl⟩ := Int.eq_ofNat_of_zero_le hW
  obtain ⟨k, rfl⟩ := Int.eq_ofNat_of_zero_le hH
  have hrow : ∀ r, 0 ≤ sm (fun c => b2 (φ r c)) w ∧ sm (fun c => b2 (φ r c)) w ≤ w := by
    intro r
    have := sm_b (f := fun c => b2 (φ r c)) (B := 1) (n := w) (by decide) (fun i _ _ => b2_b _)
    omega
  show sm (fun r => sm (fun c => b2 (φ r c)) w) k = (w : Int) * k ↔ _
  clear hW hH
  induction k with
  | zero => exact ⟨fun _ r c h0 h1 => by omega, fun _ => by show (0 : Int) = w * ((0 : Nat) : Int); simp⟩
  | succ k ih =>
    have hsum := sm_b (f := fun r => sm (fun c => b2 (φ r c)) w) (B := w) (n := k) (by omega) (fun r _ _ => hrow r)
    have hk := hrow k
    have em : (w : Int) * ((k + 1 : Nat) : Int) = w * k + w := by rw [Int.natCast_succ, Int.mul_add, Int.mul_one]
    have ec : (k : Int) * w = w * k := Int.mul_comm _ _
    constructor
    · intro h r c h0 h1 h2 h3
      have h' : sm (fun r => sm (fun c => b2 (φ r c)) w) k + sm (fun c => b2 (φ k c)) w = (w : Int) * ((k + 1 : Nat) : Int) := h
      have e1 : sm (fun r => sm (fun c => b2 (φ r c)) w) k = (w : Int) * k := by omega
      have e2 : sm (fun c => b2 (φ k c)) w = w := by omega
      by_cases hr : r = k
      · rw [hr]; exact sm_full.mp e2 c h2 h3
      · exact ih.mp e1 r c h0 (by omega) h2 h3
    · intro h
      show sm (fun r => sm (fun c => b2 (φ r c)) w) k + sm (fun c => b2 (φ k c)) w = (w : Int) * ((k + 1 : Nat) : Int)
      rw [ih.mpr (fun r c h0 h1 h2 h3 => h r c h0 (by omega) h2 h3), sm_full.mpr (fun c h2 h3 => h k c (by omega) (by omega) h2 h3), em]
theorem ss_b {F : Int → Int → Int} {W H : Int} (hW : 0 ≤ W ∧ W ≤ 24) (hH : 0 ≤ H ∧ H ≤ 10) (B : Int) (hB : 0 ≤ B) (h : ∀ r c, 0 ≤ r → r < H → 0 ≤ c → c < W → 0 ≤ F r c ∧ F r c ≤ B) : 0 ≤ ss F W H ∧ ss F W H ≤ B * 240 := by
  have h1 : ∀ r, 0 ≤ r → r < H → 0 ≤ sm (fun c => F r c) W.toNat ∧ sm (fun c => F r c) W.toNat ≤ 24 * B := by
    intro r r0 r1
    have := sm_b (f := fun c => F r c) (B := B) (n := W.toNat) hB (fun c c0 c1 => h r c r0 r1 c0 (by omega))
    have h2 : (W.toNat : Int) * B ≤ 24 * B := Int.mul_le_mul_of_nonneg_right (by omega) hB
    exact ⟨this.1, Int.le_trans this.2 h2⟩
  have := sm_b (f := fun r => sm (fun c => F r c) W.toNat) (B := 24 * B) (n := H.toNat) (by omega) (fun r r0 r1 => h1 r r0 (by omega))
  have h2 : (H.toNat : Int) * (24 * B) ≤ 10 * (24 * B) := Int.mul_le_mul_of_nonneg_right (by omega) (by omega)
  unfold ss
  exact ⟨this.1, Int.le_trans this.2 (Int.le_trans h2 (by omega))⟩
/-- as many as there are: W times H -/
theorem ss_top {φ : Int → Int → Prop} {W H : Int} (hW : 0 ≤ W) (hH : 0 ≤ H) : 0 ≤ ss (fun r c => b2 (φ r c)) W H ∧ ss (fun r c => b2 (φ r c)) W H ≤ W * H := by
  have h1 := (ss_full (φ := fun _ _ => True) hW hH).mpr (fun _ _ _ _ _ _ => trivial)
  have h2 := ss_ge (F := fun r c => b2 (φ r c)) (G := fun _ _ => b2 True) (W := W) (H := H) (fun r c _ _ _ _ => by rw [b2_t trivial]; exact (b2_b _).2)
  have h3 := ss_ge (F := fun _ _ => 0) (G := fun r c => b2 (φ r c)) (W := W) (H := H) (fun r c _ _ _ _ => (b2_b _).1)
  have h4 : ss (fun _ _ => 0) W H = 0 := sm_0z (fun r _ _ => sm_zero _)
  omega
/-- row by row -/
theorem sm_row (F : Int → Int → Int) (W H : Nat) (hW : 0 < W) : sm (fun n => F (n / W) (n % W)) (W * H) = sm (fun r => sm (fun c => F r c) W) H := by
  induction H with
  | zero => rfl
  | succ H ih =>
    rw [Nat.mul_succ, sm_app, ih]
    show _ = sm (fun r => sm (fun c => F r c) W) H + sm (fun c => F H c) W
    congr 1
    refine sm_c (fun i h0 h1 => ?_)
    have e1 : (((W * H : Nat) : Int) + i) / W = H := by
      rw [Int.natCast_mul, Int.mul_comm, Int.add_comm, Int.add_mul_ediv_right _ _ (by omega), Int.ediv_eq_zero_of_lt h0 h1]; omega
    have e2 : (((W * H : Nat) : Int) + i) % W = i := by
      rw [Int.natCast_mul, Int.mul_comm, Int.add_comm, Int.add_mul_emod_self_right, Int.emod_eq_of_lt h0 h1]
    rw [e1, e2]
theorem ss_row (F : Int → Int → Int) {W H : Int} (hW : 0 < W) (hH : 0 ≤ H) : sm (fun n => F (n / W) (n % W)) (W * H).toNat = ss F W H := by
  obtain ⟨w, rfl⟩ := Int.eq_ofNat_of_zero_le (Int.le_of_lt hW)
  obtain ⟨k, rfl⟩ := Int.eq_ofNat_of_zero_le hH
  have := sm_row F w k (by omega)
  rw [show ((w : Int) * (k : Int)).toNat = w * k by rw [← Int.natCast_mul]; rfl, this]
  rfl
/-! ===== what holds of the class's own rows ===== -/
/-- a cell: its colour, its lot, its shade -/
def okC (S : St) (v t u : Int) : Prop := (0 ≤ v ∧ v ≤ 5) ∧ ((t = -1 ∧ u = 0) ∨ (0 ≤ t ∧ t < S 2 0 0 ∧ S 2 2 t = v ∧ 0 ≤ u ∧ u ≤ 100))
def carK (S : St) (o : Nat) : Prop := cC S o ∧ (0 ≤ S o 0 3 ∧ S o 0 3 ≤ 5) ∧ (0 ≤ S o 0 4 ∧ S o 0 4 ≤ 5) ∧ ∀ r c, 0 ≤ r → r < S o 0 1 → 0 ≤ c → c < S o 0 0 → 0 ≤ S o 3 (r * 12 + c) ∧ S o 3 (r * 12 + c) ≤ 6
def pkA (S : St) (o : Nat) : Prop := S o 0 (-1) = 1 ∧ (1 ≤ S o 0 0 ∧ S o 0 0 ≤ 24) ∧ (1 ≤ S o 0 1 ∧ S o 0 1 ≤ 10) ∧ (0 ≤ S o 0 2 ∧ S o 0 2 ≤ 4) ∧ (∀ j, 0 ≤ j → j < 240 → 0 ≤ S o 7 j ∧ S o 7 j ≤ 100) ∧ (∀ j, 0 ≤ j → j < 24 → 0 ≤ S o 8 j ∧ S o 8 j ≤ 1000) ∧ (∀ w, 0 ≤ w → w < 4 → 0 ≤ S o 4 w ∧ S o 4 w ≤ 10)
def pkC (S : St) (o : Nat) : Prop := ∀ r c, 0 ≤ r → r < S o 0 1 → 0 ≤ c → c < S o 0 0 → okC S (S o 5 (r * 24 + c)) (S o 6 (r * 24 + c)) (S o 7 (r * 24 + c))
/-- all is woven -/
def pkD (S : St) (o : Nat) : Prop := (∀ w, 0 ≤ w → w < S o 0 2 → S o 4 w = S o 0 1) ∧ ∀ r c, 0 ≤ r → r < S o 0 1 → 0 ≤ c → c < S o 0 0 → S o 6 (r * 24 + c) ≠ -1
/-- .. or each weaver has woven his rows -/
def pkV (S : St) (o : Nat) : Prop := (1 ≤ S o 0 2 ∧ S o 0 2 ≤ S o 0 0 ∧ S o 0 0 ≤ 12) ∧ (∀ w, 0 ≤ w → w < S o 0 2 → S o 4 w ≤ S o 0 1) ∧ ∀ w c r, 0 ≤ w → w < S o 0 2 → fcC S o w ≤ c → c < fcC S o (w + 1) → 0 ≤ r → r < S o 0 1 → (S o 6 (r * 24 + c) ≠ -1 ↔ r < S o 4 w)
def pkP (S : St) (o : Nat) : Prop := pkA S o ∧ pkC S o ∧ (pkD S o ∨ pkV S o)
def iW (S : St) : Prop := (0 ≤ S 1 0 1 ∧ S 1 0 1 ≤ 12) ∧ ∀ j, 0 ≤ j → j < S 1 0 1 → 0 ≤ S 1 1 j ∧ S 1 1 j ≤ 6
def iK (S : St) : Prop := (0 ≤ S 1 0 3 ∧ S 1 0 3 ≤ 5) ∧ (∀ j : Nat, S 1 3 j = 1 ↔ (j : Int) < S 1 0 3) ∧ ∀ x, 0 ≤ x → x < S 1 0 3 → carK S (4 + x.toNat)
def iL (S : St) : Prop := (0 ≤ S 2 0 0 ∧ S 2 0 0 ≤ 20) ∧ (∀ j, 0 ≤ j → j < 20 → (0 ≤ S 2 3 j ∧ S 2 3 j ≤ 999) ∧ (0 ≤ S 2 4 j ∧ S 2 4 j ≤ 999) ∧ (0 ≤ S 2 5 j ∧ S 2 5 j ≤ 9)) ∧ ∀ j, S 2 0 0 ≤ j → j < 20 → S 2 3 j = 0 ∧ S 2 4 j = 0
def iP (S : St) : Prop := (0 ≤ S 1 0 6 ∧ S 1 0 6 ≤ 20) ∧ (∀ j : Nat, S 1 6 j = 1 → (j : Int) < S 1 0 6) ∧ ∀ x, peC S x → pkP S (10 + x.toNat)
def bal (S : St) : Prop := ∀ j, 0 ≤ j → j < 20 → tbC S 20 j = S 2 3 j - S 2 4 j
def iA (S : St) : Prop := S 1 0 (-1) = 1 ∧ S 2 0 (-1) = 1 ∧ S 3 0 (-1) = 1
def IV (S : St) : Prop := iA S ∧ iW S ∧ iK S ∧ iL S ∧ iP S ∧ bal S
theorem IV.a {S : St} (h : IV S) : iA S := h.1
theorem IV.w {S : St} (h : IV S) : iW S := h.2.1
theorem IV.k {S : St} (h : IV S) : iK S := h.2.2.1
theorem IV.l {S : St} (h : IV S) : iL S := h.2.2.2.1
theorem IV.p {S : St} (h : IV S) : iP S := h.2.2.2.2.1
theorem IV.b {S : St} (h : IV S) : bal S := h.2.2.2.2.2
theorem IV.hcf {S : St} (h : IV S) : ∀ j : Nat, S 1 3 j = 1 → (j : Int) < S 1 0 3 := fun j q => (h.k.2.1 j).mp q
theorem IV.hpf {S : St} (h : IV S) : ∀ j : Nat, S 1 6 j = 1 → (j : Int) < S 1 0 6 := h.p.2.1
theorem IV.ce {S : St} (h : IV S) {x : Int} : ceC S x ↔ 0 ≤ x ∧ x < S 1 0 3 := by
  have h5 := h.k.1
  unfold ceC
  constructor
  · rintro ⟨h0, h1, h2⟩
    have := (h.k.2.1 x.toNat).mp (by rw [Int.toNat_of_nonneg h0]; exact h2)
    omega
  · rintro ⟨h0, h1⟩
    have := (h.k.2.1 x.toNat).mpr (by omega)
    rw [Int.toNat_of_nonneg h0] at this
    exact ⟨h0, by omega, this⟩
theorem IV.pl {S : St} (h : IV S) {x : Int} (q : peC S x) : 0 ≤ x ∧ x < S 1 0 6 := by
  obtain ⟨h0, h1, h2⟩ := q
  have := h.hpf x.toNat (by rw [Int.toNat_of_nonneg h0]; exact h2)
  omega
theorem IV.pp {S : St} (h : IV S) {x : Int} (q : peC S x) : pkP S (10 + x.toNat) := h.p.2.2 x q
theorem wn_full {S : St} {o : Nat} (hw : 0 ≤ S o 0 0) (hh : 0 ≤ S o 0 1) : dnC S o ↔ ∀ r c, 0 ≤ r → r < S o 0 1 → 0 ≤ c → c < S o 0 0 → S o 6 (r * 24 + c) ≠ -1 := by
  unfold dnC wnC
  rw [s2_ss]
  exact ss_full hw hh
theorem pk_dn {S : St} {o : Nat} (h : pkP S o) : dnC S o ↔ ∀ r c, 0 ≤ r → r < S o 0 1 → 0 ≤ c → c < S o 0 0 → S o 6 (r * 24 + c) ≠ -1 := by
  obtain ⟨⟨-, a, b, -⟩, -⟩ := h
  exact wn_full (by omega) (by omega)
/-- the weaver of a column -/
theorem wvr {d v c : Int} (hv : 1 ≤ v) (hd : 0 ≤ c) (hc : c < d) : ∃ w, 0 ≤ w ∧ w < v ∧ w * d / v ≤ c ∧ c < (w + 1) * d / v := by
  have key : ∀ k : Nat, (k : Int) ≤ v → c < (k : Int) * d / v → ∃ w, 0 ≤ w ∧ w < v ∧ w * d / v ≤ c ∧ c < (w + 1) * d / v := by
    intro k
    induction k with
    | zero =>
      intro _ h
      rw [show ((0 : Nat) : Int) * d = 0 by simp, Int.zero_ediv] at h
      omega
    | succ k ih =>
      intro hk h
      by_cases h2 : c < (k : Int) * d / v
      · exact ih (by omega) h2
      · exact ⟨k, by omega, by omega, by omega, by rw [show (k : Int) + 1 = ((k + 1 : Nat) : Int) by omega]; exact h⟩
  obtain ⟨k, rfl⟩ := Int.eq_ofNat_of_zero_le (show 0 ≤ v by omega)
  exact key k (Int.le_refl _) (by rw [Int.mul_comm, Int.mul_ediv_cancel _ (by omega)]; exact hc)
theorem wv_ne {d v w : Int} (hv : 1 ≤ v) (hd : v ≤ d) (h0 : 0 ≤ w) : w * d / v < (w + 1) * d / v := by
  have h : (w * d + v) / v ≤ (w + 1) * d / v := Int.ediv_le_ediv (by omega) (by rw [Int.add_mul, Int.one_mul]; omega)
  rw [show w * d + v = w * d + 1 * v by omega, Int.add_mul_ediv_right _ _ (by omega)] at h
  omega
theorem fc_ne {S : St} {o : Nat} {w : Int} (hv : 1 ≤ S o 0 2) (hd : S o 0 2 ≤ S o 0 0) (h0 : 0 ≤ w) : fcC S o w < fcC S o (w + 1) := wv_ne hv hd h0
/-- a piece that is done: all weavers have woven all -/
theorem pk_D {S : St} {o : Nat} (h : pkP S o) (hd : dnC S o) : pkD S o := by
  have hf := (pk_dn h).mp hd
  obtain ⟨⟨-, a, b, v, -, -, r4⟩, -, q⟩ := h
  rcases q with q | ⟨⟨q1, q2, q3⟩, q4, q5⟩
  · exact q
  · refine ⟨fun w w0 w1 => ?_, hf⟩
    obtain ⟨g1, g2, g3⟩ := fc_b w0 w1 v.2 (show 0 ≤ S o 0 0 by omega) q3
    have g4 := fc_ne q1 q2 w0
    have := (q5 w (fcC S o w) (S o 0 1 - 1) w0 w1 (Int.le_refl _) g4 (by omega) (by omega)).mp (hf _ _ (by omega) (by omega) g1 (by omega))
    have := q4 w w0 w1
    omega
theorem IV.wc {S : St} (h : IV S) : wC S := by
  obtain ⟨⟨a1, a2, a3⟩, w, k, l, p, b⟩ := id h
  refine ⟨a1, a2, w.1, k.1, p.1, l.1, fun j h0 h1 => (l.2.1 j h0 h1).2.1, fun j h0 h1 => (l.2.1 j h0 h1).2.2, fun j h0 h1 => (l.2.1 j h0 h1).1, fun x q => ?_, fun x q => ?_⟩
  · have q' := h.ce.mp q
    exact (k.2.2 x q'.1 q'.2).1
  · obtain ⟨⟨ea, e0, e1, e2, h7, h8, h4⟩, hC, hQ⟩ := id (p.2.2 x q)
    refine ⟨ea, e0, e1, e2, h7, h8, h4, fun hd r c r0 r1 c0 c1 => ?_, fun w w0 w1 w2 => ?_⟩
    · have h1 := hC r c r0 r1 c0 c1
      have h2 := (pk_dn (p.2.2 x q)).mp hd r c r0 r1 c0 c1
      rcases h1.2 with ⟨t, -⟩ | ⟨t0, t1, -⟩
      · exact absurd t h2
      · exact ⟨t0, t1⟩
    · rcases hQ with ⟨hd, -⟩ | ⟨⟨-, -, h12⟩, -⟩
      · have := hd w w0 w1
        omega
      · exact h12
/-! ===== what is kept where nothing of it is written ===== -/
theorem iW_k {S S' : St} (h : iW S) (e : ∀ (b : Nat) (i : Int), (b = 0 ∧ i = 1) ∨ b = 1 → S' 1 b i = S 1 b i) : iW S' := by
  refine ⟨by rw [e 0 1 (by omega)]; exact h.1, fun j h0 h1 => ?_⟩
  rw [e 0 1 (by omega)] at h1
  rw [e 1 j (by omega)]
  exact h.2 j h0 h1
theorem carK_k {S S' : St} {o : Nat} (h : carK S o) (e : S' o = S o) : carK S' o := by
  unfold carK cC at h ⊢
  rw [e]
  exact h
theorem iK_k {S S' : St} (h : iK S) (e : ∀ (b : Nat) (i : Int), (b = 0 ∧ i = 3) ∨ b = 3 → S' 1 b i = S 1 b i) (e2 : ∀ a : Nat, 4 ≤ a → a < 10 → S' a = S a) : iK S' := by
  have e3 := e 0 3 (by omega)
  refine ⟨by rw [e3]; exact h.1, fun j => by rw [e3, e 3 j (by omega)]; exact h.2.1 j, fun x x0 x1 => ?_⟩
  rw [e3] at x1
  exact carK_k (h.2.2 x x0 x1) (e2 _ (by omega) (by have := h.1; omega))
theorem iL_k {S S' : St} (h : iL S) (e : S' 2 = S 2) : iL S' := by
  unfold iL at h ⊢
  rw [e]
  exact h
def lgr (S S' : St) : Prop := S 2 0 0 ≤ S' 2 0 0 ∧ ∀ k, 0 ≤ k → k < S 2 0 0 → S' 2 2 k = S 2 2 k
theorem lgr_e {S S' : St} (e : S' 2 = S 2) : lgr S S' := by
  unfold lgr
  rw [e]
  exact ⟨Int.le_refl _, fun _ _ _ => rfl⟩
theorem okC_k {S S' : St} (hL : lgr S S') {v t u : Int} (h : okC S v t u) : okC S' v t u := by
  obtain ⟨h1, h2⟩ := h
  refine ⟨h1, ?_⟩
  rcases h2 with h2 | ⟨t0, t1, t2, t3⟩
  · exact Or.inl h2
  · have := hL.1
    exact Or.inr ⟨t0, by omega, by rw [hL.2 t t0 t1]; exact t2, t3⟩
theorem pkP_k {S S' : St} {o : Nat} (h : pkP S o) (hL : lgr S S') (e : S' o = S o) : pkP S' o := by
  obtain ⟨h1, h2, h3⟩ := h
  refine ⟨by unfold pkA at h1 ⊢; rw [e]; exact h1, fun r c r0 r1 c0 c1 => ?_, ?_⟩
  · rw [e] at r1 c1
    rw [e]
    exact okC_k hL (h2 r c r0 r1 c0 c1)
  · unfold pkD pkV fcC at h3 ⊢
    rw [e]
    exact h3
theorem iP_g {S S' : St} (h : iP S) (hL : lgr S S') (e1 : 0 ≤ S' 1 0 6 ∧ S' 1 0 6 ≤ 20) (e2 : ∀ j : Nat, S' 1 6 j = 1 → (j : Int) < S' 1 0 6) (e3 : ∀ x, peC S' x → (peC S x ∧ S' (10 + x.toNat) = S (10 + x.toNat)) ∨ pkP S' (10 + x.toNat)) : iP S' := by
  refine ⟨e1, e2, fun x q => ?_⟩
  rcases e3 x q with ⟨q1, q2⟩ | q1
  · exact pkP_k (h.2.2 x q1) hL q2
  · exact q1
theorem iP_k {S S' : St} (h : iP S) (hL : lgr S S') (e : ∀ (b : Nat) (i : Int), (b = 0 ∧ i = 6) ∨ b = 6 → S' 1 b i = S 1 b i) (e2 : ∀ a : Nat, 10 ≤ a → S' a = S a) : iP S' := by
  have e6 := e 0 6 (by omega)
  refine iP_g h hL (by rw [e6]; exact h.1) (fun j => by rw [e6, e 6 j (by omega)]; exact h.2.1 j) (fun x q => Or.inl ⟨?_, e2 _ (by omega)⟩)
  unfold peC at q ⊢
  rw [e 6 x (by omega)] at q
  exact q
/-- .. where one piece alone is written -/
theorem iP_1 {S S' : St} {x : Int} (h : iP S) (hL : lgr S S') (hx : 0 ≤ x) (e : ∀ (b : Nat) (i : Int), (b = 0 ∧ i = 6) ∨ b = 6 → S' 1 b i = S 1 b i) (e2 : ∀ a : Nat, 10 ≤ a → a ≠ 10 + x.toNat → S' a = S a) (hp : pkP S' (10 + x.toNat)) : iP S' := by
  have e6 := e 0 6 (by omega)
  refine iP_g h hL (by rw [e6]; exact h.1) (fun j => by rw [e6, e 6 j (by omega)]; exact h.2.1 j) (fun y q => ?_)
  by_cases hy : y = x
  · rw [hy]; exact Or.inr hp
  · have q' := q
    unfold peC at q
    rw [e 6 y (by omega)] at q
    exact Or.inl ⟨q, e2 _ (by omega) (by omega)⟩
/-- the cells of a piece that are of a lot -/
noncomputable def kcN (S : St) (o : Nat) (j : Int) : Int := ss (fun r c => b2 (S o 6 (r * 24 + c) = j)) (S o 0 0) (S o 0 1)
theorem tbN_e (S : St) (j k : Int) : tbN S j k = cif (S 1 6 k = 1) (kcN S (10 + k.toNat) j) 0 := by
  unfold tbN atN
  have : (S (10 + k.toNat) 0 1).toNat = (S (10 + k.toNat) 0 1).toNat := rfl
  show cif _ (kcN S (10 + k.toNat) j + 0) 0 = _
  rw [Int.add_zero]
theorem tb_c {S S' : St} {j : Int} (h : ∀ k, 0 ≤ k → k < 20 → tbN S' j k = tbN S j k) : tbC S' 20 j = tbC S 20 j := sm_c (fun k h0 h1 => h k h0 (by omega))
theorem tb_1 {S S' : St} {j x : Int} (h0 : 0 ≤ x) (h1 : x < 20) (h : ∀ k, 0 ≤ k → k < 20 → k ≠ x → tbN S' j k = tbN S j k) : tbC S' 20 j = tbC S 20 j + (tbN S' j x - tbN S j x) := sm_upd h0 (by omega) (fun k a b c => h k a (by omega) c)
theorem tb_2 {S S' : St} {j x z : Int} (h0 : 0 ≤ x) (h1 : x < 20) (h2 : 0 ≤ z) (h3 : z < 20) (hn : x ≠ z) (h : ∀ k, 0 ≤ k → k < 20 → k ≠ x → k ≠ z → tbN S' j k = tbN S j k) : tbC S' 20 j = tbC S 20 j + (tbN S' j x - tbN S j x) + (tbN S' j z - tbN S j z) := sm_upd2 h0 (by omega) h2 (by omega) hn (fun k a b c d => h k a (by omega) c d)
theorem kc_e {S S' : St} {o : Nat} {j : Int} (e : S' o = S o) : kcN S' o j = kcN S o j := by
  unfold kcN
  rw [e]
theorem tbN_k {S S' : St} {j k : Int} (e : S' 1 6 k = S 1 6 k) (e2 : S' (10 + k.toNat) = S (10 + k.toNat)) : tbN S' j k = tbN S j k := by
  rw [tbN_e, tbN_e, e, kc_e e2]
theorem bal_k {S S' : St} (h : bal S) (e : ∀ i : Int, S' 1 6 i = S 1 6 i) (e2 : ∀ a : Nat, 10 ≤ a → S' a = S a) (e3 : S' 2 = S 2) : bal S' := by
  intro j j0 j1
  rw [e3, tb_c (fun k _ _ => tbN_k (e k) (e2 _ (by omega)))]
  exact h j j0 j1
theorem bal_1 {S S' : St} {x : Int} (h : bal S) (hx : peC S x) (e : ∀ i : Int, S' 1 6 i = S 1 6 i) (e2 : ∀ a : Nat, 10 ≤ a → a ≠ 10 + x.toNat → S' a = S a) (e3 : ∀ j, 0 ≤ j → j < 20 → S' 2 3 j = S 2 3 j ∧ kcN S' (10 + x.toNat) j + S' 2 4 j = kcN S (10 + x.toNat) j + S 2 4 j) : bal S' := by
  intro j j0 j1
  obtain ⟨x0, x1, x2⟩ := hx
  obtain ⟨f1, f2⟩ := e3 j j0 j1
  have hh := h j j0 j1
  rw [tb_1 x0 x1 (S := S) (fun k k0 k1 kx => tbN_k (e k) (e2 _ (by omega) (by omega))), tbN_e, tbN_e, e x, cif_t x2, cif_t x2, f1]
  omega
