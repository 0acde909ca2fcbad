/-! ===== a weaver weaves a row ===== -/
theorem gf_no {φ : Int → Prop} : ∀ (n : Nat) (lo : Int), 0 ≤ lo → gf φ n lo = -1 → ∀ k, lo ≤ k → k < lo + n → ¬ φ k
  | 0, _, _, _ => fun k h0 h1 => by omega
  | n + 1, lo, hl, h => by
    have e : gf φ (n + 1) lo = cif (φ lo) lo (gf φ n (lo + 1)) := rfl
    rw [e] at h
    by_cases p : φ lo
    · rw [cif_t p] at h; omega
    · rw [cif_f p] at h
      intro k h0 h1
      by_cases hk : k = lo
      · rw [hk]; exact p
      · exact gf_no n (lo + 1) (by omega) h k (by omega) (by omega)
theorem gf_in {φ : Int → Prop} : ∀ (n : Nat) (lo : Int), 0 ≤ lo → gf φ n lo ≠ -1 → lo ≤ gf φ n lo ∧ gf φ n lo < lo + n ∧ φ (gf φ n lo)
  | 0, _, _, h => absurd rfl h
  | n + 1, lo, hl, h => by
    have e : gf φ (n + 1) lo = cif (φ lo) lo (gf φ n (lo + 1)) := rfl
    rw [e] at h ⊢
    by_cases p : φ lo
    · rw [cif_t p]; exact ⟨Int.le_refl _, by omega, p⟩
    · rw [cif_f p] at h ⊢
      obtain ⟨h1, h2, h3⟩ := gf_in n (lo + 1) (by omega) h
      exact ⟨by omega, by omega, h3⟩
/-- a colour with a thread left: its lot -/
theorem gv_in {T : St} {v : Int} (hl : 0 ≤ T 2 0 0) (h : 1 ≤ thC T v) : 0 ≤ gvC T v ∧ gvC T v < T 2 0 0 ∧ T 2 2 (gvC T v) = v ∧ 0 < T 2 4 (gvC T v) := by
  have hn : gvC T v ≠ -1 := by
    intro q
    unfold gvC at q
    have hno := gf_no _ _ (Int.le_refl 0) q
    have hz := sm_ge (f := fun j => cif (T 2 2 j = v) (T 2 4 j) 0) (g := fun _ => 0) (n := (T 2 0 0).toNat) (fun j j0 j1 => by
      by_cases hp : T 2 2 j = v
      · rw [cif_t hp]
        have h3 := hno j j0 (by omega)
        unfold gvQ at h3
        exact Int.not_lt.mp (fun y => h3 ⟨hp, y⟩)
      · rw [cif_f hp]; exact Int.le_refl _)
    rw [sm_zero] at hz
    unfold thC at h
    omega
  unfold gvC at hn
  obtain ⟨h1, h2, h3, h4⟩ := gf_in (φ := gvQ T v) _ _ (Int.le_refl 0) hn
  exact ⟨h1, by unfold gvC; omega, h3, h4⟩
theorem sm_1st (F : Int → Int) (n : Nat) : sm F (n + 1) = F 0 + sm (fun i => F (1 + i)) n := by
  rw [Nat.add_comm, sm_app]
  show 0 + F 0 + _ = _
  rw [show ((1 : Nat) : Int) = 1 from rfl]
  omega
/-- what the first n cells of a row woven leave -/
def wvI (S T : St) (o : Nat) (r f n : Int) : Prop :=
  (∀ i, T 2 4 i ≤ S 2 4 i ∧ (0 ≤ S 2 4 i → 0 ≤ T 2 4 i)) ∧
  (∀ c, f ≤ c → c < f + n → 0 ≤ T o 6 (r * 24 + c) ∧ T o 6 (r * 24 + c) < S 2 0 0 ∧ S 2 2 (T o 6 (r * 24 + c)) = S o 5 (r * 24 + c) ∧ T o 7 (r * 24 + c) = 100) ∧
  (∀ (a b : Nat) (i : Int), ¬ (a = 2 ∧ b = 4) → ¬ (a = o ∧ (b = 6 ∨ b = 7) ∧ r * 24 + f ≤ i ∧ i < r * 24 + (f + n)) → T a b i = S a b i)
theorem wv_steps {S : St} {o : Nat} {r f : Int} {N : Nat} (ho : o ≠ 2) (hl : 0 ≤ S 2 0 0 ∧ S 2 0 0 ≤ 20) (hr : 0 ≤ r ∧ r < S o 0 1) (hf : 0 ≤ f ∧ f + N ≤ S o 0 0 ∧ S o 0 0 ≤ 24)
    (h6 : ∀ c, f ≤ c → c < f + N → S o 6 (r * 24 + c) = -1) (h5 : ∀ c, f ≤ c → c < f + N → 0 ≤ S o 5 (r * 24 + c) ∧ S o 5 (r * 24 + c) ≤ 5)
    (hs : ∀ v, 0 ≤ v → v < 6 → sm (fun i => b2 (S o 5 (r * 24 + (f + i)) = v)) N ≤ thC S v) (hp : ∀ i, 0 ≤ i → i < 20 → 0 ≤ S 2 4 i) :
    ∀ n : Nat, n ≤ N → wvI S (wrI S o r f n) o r f n ∧ (∀ v, 0 ≤ v → v < 6 → sm (fun i => b2 (S o 5 (r * 24 + (f + (n + i))) = v)) (N - n) ≤ thC (wrI S o r f n) v) ∧ (∀ j, 0 ≤ j → kcN (wrI S o r f n) o j + wrI S o r f n 2 4 j = kcN S o j + S 2 4 j) ∧ wnC (wrI S o r f n) o = wnC S o + n := by
  intro n
  induction n with
  | zero =>
    intro _
    refine ⟨⟨fun i => ⟨Int.le_refl _, fun h => h⟩, fun c c0 c1 => by omega, fun a b i _ _ => rfl⟩, fun v v0 v1 => ?_, fun j _ => rfl, ?_⟩
    · have := hs v v0 v1
      rw [Nat.sub_zero]
      rw [sm_c (g := fun i => b2 (S o 5 (r * 24 + (f + i)) = v)) (fun i _ _ => by rw [show f + (((0 : Nat) : Int) + i) = f + i by omega])]
      exact this
    · show wnC S o = wnC S o + ((0 : Nat) : Int); omega
  | succ n ih =>
    intro hn
    obtain ⟨⟨i1, i2, i3⟩, i4, i5, i6⟩ := ih (by omega)
    have hw : wrI S o r f (n + 1) = wr1 (wrI S o r f n) o (r * 24 + (f + n)) (S o 5 (r * 24 + (f + n))) := rfl
    rw [hw]
    generalize wrI S o r f n = T at i1 i2 i3 i4 i5 i6
    obtain ⟨v, hv⟩ : ∃ v, S o 5 (r * 24 + (f + n)) = v := ⟨_, rfl⟩
    have v5 := h5 (f + n) (by omega) (by omega)
    rw [hv] at v5 ⊢
    have eN : N - n = (N - (n + 1)) + 1 := by omega
    have t20 : T 2 0 0 = S 2 0 0 := i3 2 0 0 (by omega) (by omega)
    have t22 : ∀ k, T 2 2 k = S 2 2 k := fun k => i3 2 2 k (by omega) (by omega)
    have hth : 1 ≤ thC T v := by
      have h1 := i4 v v5.1 (by omega)
      rw [eN, sm_1st, show f + ((n : Int) + 0) = f + n by omega, hv, b2_t rfl] at h1
      have h2 := sm_b (f := fun i => b2 (S o 5 (r * 24 + (f + (n + (1 + i)))) = v)) (B := 1) (n := N - (n + 1)) (by decide) (fun i _ _ => b2_b _)
      omega
    obtain ⟨g, hg⟩ : ∃ g, gvC T v = g := ⟨_, rfl⟩
    have g0 := gv_in (by omega) hth
    rw [hg, t20, t22] at g0
    obtain ⟨g0, g1, g2, g3⟩ := g0
    obtain ⟨Z, hZ⟩ : ∃ Z, r * 24 + (f + (n : Int)) = Z := ⟨_, rfl⟩
    rw [hZ]
    have q : ∀ (a b : Nat) (i : Int), wr1 T o Z v a b i = if a = o ∧ b = 7 ∧ i = Z then 100 else if a = o ∧ b = 6 ∧ i = Z then g else if a = 2 ∧ b = 4 ∧ i = g then T 2 4 g - 1 else T a b i := by
      intro a b i
      unfold wr1
      rw [tk_b hg g0, hg, st_at, st_at, st_at]
    generalize wr1 T o Z v = T' at q
    have q7 : T' o 7 Z = 100 := by rw [q, if_pos ⟨rfl, rfl, rfl⟩]
    have q6 : T' o 6 Z = g := by rw [q, if_neg (by omega), if_pos ⟨rfl, rfl, rfl⟩]
    have q4 : ∀ i, T' 2 4 i = if i = g then T 2 4 g - 1 else T 2 4 i := fun i => by
      rw [q, if_neg (by omega), if_neg (by omega)]
      by_cases hi : i = g
      · rw [if_pos ⟨rfl, rfl, hi⟩, if_pos hi]
      · rw [if_neg (by omega), if_neg hi]
    have qo : ∀ (a b : Nat) (i : Int), ¬ (a = 2 ∧ b = 4) → ¬ (a = o ∧ (b = 6 ∨ b = 7) ∧ i = Z) → T' a b i = T a b i := fun a b i h1 h2 => by rw [q, if_neg (by omega), if_neg (by omega), if_neg (by omega)]
    clear q
    have c6 : ∀ r1 c1, 0 ≤ r1 → r1 < S o 0 1 → 0 ≤ c1 → c1 < S o 0 0 → ¬ (r1 = r ∧ c1 = f + n) → T' o 6 (r1 * 24 + c1) = T o 6 (r1 * 24 + c1) := fun r1 c1 a1 a2 a3 a4 a5 => qo _ _ _ (by omega) (by omega)
    have t6 : T o 6 Z = -1 := by
      rw [i3 o 6 Z (by omega) (by omega), ← hZ]
      exact h6 _ (by omega) (by omega)
    have w0 : T' o 0 0 = S o 0 0 := by rw [qo _ _ _ (by omega) (by omega), i3 _ _ _ (by omega) (by omega)]
    have w1 : T' o 0 1 = S o 0 1 := by rw [qo _ _ _ (by omega) (by omega), i3 _ _ _ (by omega) (by omega)]
    have u0 : T o 0 0 = S o 0 0 := i3 _ _ _ (by omega) (by omega)
    have u1 : T o 0 1 = S o 0 1 := i3 _ _ _ (by omega) (by omega)
    refine ⟨⟨fun i => ?_, fun c c0 c1 => ?_, fun a b i h1 h2 => ?_⟩, fun v' v0 v1 => ?_, fun j j0 => ?_, ?_⟩
    · have := i1 i
      rw [q4]
      by_cases hi : i = g
      · rw [if_pos hi, ← hi]; rw [← hi] at g3; omega
      · rw [if_neg hi]; exact this
    · by_cases hc : c = f + n
      · rw [show r * 24 + c = Z by omega, q6, q7]
        refine ⟨g0, g1, ?_, rfl⟩
        rw [g2, ← hv, hZ]
      · obtain ⟨a1, a2, a3, a4⟩ := i2 c c0 (by omega)
        rw [qo o 6 _ (by omega) (by omega), qo o 7 _ (by omega) (by omega)]
        exact ⟨a1, a2, a3, a4⟩
    · rw [qo a b i h1 (by omega)]
      exact i3 a b i h1 (by omega)
    · have h1 := i4 v' v0 v1
      rw [eN, sm_1st, show f + ((n : Int) + 0) = f + n by omega, hv] at h1
      have h2 : thC T' v' = thC T v' - b2 (v = v') := by
        unfold thC
        have e0 : T' 2 0 0 = T 2 0 0 := qo _ _ _ (by omega) (by omega)
        rw [e0]
        rw [sm_upd (f := fun j => cif (T' 2 2 j = v') (T' 2 4 j) 0) (g := fun j => cif (T 2 2 j = v') (T 2 4 j) 0) g0 (by omega) (fun j j0 j1 jg => by
          show cif (T' 2 2 j = v') (T' 2 4 j) 0 = cif (T 2 2 j = v') (T 2 4 j) 0
          rw [q4, if_neg jg, qo 2 2 j (by omega) (by omega)])]
        show _ + (cif (T' 2 2 g = v') (T' 2 4 g) 0 - cif (T 2 2 g = v') (T 2 4 g) 0) = _
        rw [q4, if_pos rfl, qo 2 2 g (by omega) (by omega), t22, g2]
        by_cases hvv : v = v'
        · rw [cif_t hvv, cif_t hvv, b2_t hvv]; omega
        · rw [cif_f hvv, cif_f hvv, b2_f hvv]; omega
      rw [h2]
      rw [sm_c (g := fun i => b2 (S o 5 (r * 24 + (f + (n + (1 + i)))) = v')) (fun i _ _ => by
        show b2 (S o 5 (r * 24 + (f + (((n + 1 : Nat) : Int) + i))) = v') = _
        rw [show ((n + 1 : Nat) : Int) + i = n + (1 + i) by omega])]
      omega
    · have h1 := i5 j j0
      have h2 : kcN T' o j = kcN T o j + b2 (g = j) := by
        unfold kcN
        rw [w0, w1, u0, u1]
        rw [ss_upd (F := fun r c => b2 (T' o 6 (r * 24 + c) = j)) (G := fun r c => b2 (T o 6 (r * 24 + c) = j)) (r0 := r) (c0 := f + n) hr.1 hr.2 (by omega) (by omega) (fun r1 c1 a1 a2 a3 a4 a5 => by
          show b2 (T' o 6 (r1 * 24 + c1) = j) = b2 (T o 6 (r1 * 24 + c1) = j)
          rw [c6 r1 c1 a1 a2 a3 a4 a5])]
        show _ + (b2 (T' o 6 (r * 24 + (f + n)) = j) - b2 (T o 6 (r * 24 + (f + n)) = j)) = _
        rw [hZ, q6, t6, b2_f (φ := -1 = j) (by omega)]
        omega
      rw [h2, q4]
      by_cases hj : j = g
      · rw [if_pos hj, b2_t hj.symm, ← hj]; omega
      · rw [if_neg hj, b2_f (fun y => hj y.symm)]; omega
    · unfold wnC at i6 ⊢
      rw [s2_ss, s2_ss] at i6 ⊢
      rw [w0, w1]
      rw [u0, u1] at i6
      rw [ss_upd (F := fun r c => b2 (T' o 6 (r * 24 + c) ≠ -1)) (G := fun r c => b2 (T o 6 (r * 24 + c) ≠ -1)) (r0 := r) (c0 := f + n) hr.1 hr.2 (by omega) (by omega) (fun r1 c1 a1 a2 a3 a4 a5 => by
          show b2 (T' o 6 (r1 * 24 + c1) ≠ -1) = b2 (T o 6 (r1 * 24 + c1) ≠ -1)
          rw [c6 r1 c1 a1 a2 a3 a4 a5]), i6]
      show _ + (b2 (T' o 6 (r * 24 + (f + n)) ≠ -1) - b2 (T o 6 (r * 24 + (f + n)) ≠ -1)) = _
      rw [hZ, q6, t6, b2_t (φ := g ≠ -1) (by omega), b2_f (φ := (-1 : Int) ≠ -1) (fun y => y rfl)]
      omega
theorem IV_weave {S : St} {x w : Int} (h : IV S) (hx : peC S x) (hw : 0 ≤ w ∧ w < S (10 + x.toNat) 0 2) (hm : maC S (10 + x.toNat) w) (ht : tsC S (10 + x.toNat) w) :
    IV (wvS S (10 + x.toNat) w) ∧ (∀ (a b : Nat) (i : Int), ¬ (a = 2 ∧ b = 4) → ¬ (a = 10 + x.toNat ∧ (b = 4 ∨ b = 6 ∨ b = 7)) → wvS S (10 + x.toNat) w a b i = S a b i) ∧ wnC S (10 + x.toNat) < wnC (wvS S (10 + x.toNat) w) (10 + x.toNat) ∧ 0 ≤ S (10 + x.toNat) 4 w ∧ S (10 + x.toNat) 4 w < S (10 + x.toNat) 0 1 := by
  obtain ⟨x0, x1, x2⟩ := id hx
  obtain ⟨⟨pa, pw, ph, pv, p7, p8, p4⟩, hC, hQ⟩ := h.pp hx
  obtain ⟨l1, l2, l3⟩ := h.l
  obtain ⟨o, ho⟩ : ∃ o : Nat, 10 + x.toNat = o := ⟨_, rfl⟩
  rw [ho] at pa pw ph pv p7 p8 p4 hC hQ hw hm ht ⊢
  obtain ⟨m1, m2⟩ := hm
  rcases hQ with ⟨hd, -⟩ | ⟨⟨v1, v2, v3⟩, v4, v5⟩
  · have := hd w hw.1 hw.2
    omega
  have h40 := (p4 w hw.1 (by omega)).1
  have hfc := fc_b hw.1 hw.2 pv.2 (show 0 ≤ S o 0 0 by omega) v3
  have hne := fc_ne v1 v2 hw.1
  obtain ⟨r, hr⟩ : ∃ r, S o 4 w = r := ⟨_, rfl⟩
  obtain ⟨f, hf⟩ : ∃ f, fcC S o w = f := ⟨_, rfl⟩
  obtain ⟨t, hte⟩ : ∃ t, fcC S o (w + 1) = t := ⟨_, rfl⟩
  rw [hr] at m1 h40
  rw [hf, hte] at hfc hne
  have st9 := wv_steps (S := S) (o := o) (r := r) (f := f) (N := (t - f).toNat) (by omega) l1 (by omega) (by omega) (fun c c0 c1 => by
      have := (v5 w c r hw.1 hw.2 (by omega) (by omega) h40 m1)
      rw [hr] at this
      exact Classical.byContradiction (fun y => by have := this.mp y; omega)) (fun c c0 c1 => (hC r c h40 m1 (by omega) (by omega)).1) (fun v a b => by
      have := ht v a b
      unfold niC at this
      rw [hr, hf, hte] at this
      exact this) (fun i i0 i1 => (l2 i i0 i1).2.1.1) (t - f).toNat (Nat.le_refl _)
  obtain ⟨⟨i1, i2, i3⟩, -, i5, i6⟩ := st9
  rw [show f + ((t - f).toNat : Int) = t by omega] at i2 i3
  have q : ∀ (a b : Nat) (i : Int), wvS S o w a b i = if a = o ∧ b = 4 ∧ i = w then r + 1 else wrI S o r f (t - f).toNat a b i := by
    intro a b i
    unfold wvS
    rw [st_at, hr, hf, hte]
  have eS : wvS S o w = st (wrI S o r f (t - f).toNat) o 4 w (r + 1) := by unfold wvS; rw [hr, hf, hte]
  generalize wrI S o r f (t - f).toNat = T at i1 i2 i3 i5 i6 q
  generalize wvS S o w = S' at q ⊢
  have q4 : S' o 4 w = r + 1 := by rw [q, if_pos ⟨rfl, rfl, rfl⟩]
  have qT : ∀ (a b : Nat) (i : Int), ¬ (a = o ∧ b = 4 ∧ i = w) → S' a b i = T a b i := fun a b i h1 => by rw [q, if_neg h1]
  have qn : ∀ (a b : Nat) (i : Int), ¬ (a = o ∧ b = 4 ∧ i = w) → ¬ (a = 2 ∧ b = 4) → ¬ (a = o ∧ (b = 6 ∨ b = 7) ∧ r * 24 + f ≤ i ∧ i < r * 24 + t) → S' a b i = S a b i := fun a b i h1 h2 h3 => by rw [qT a b i h1, i3 a b i h2 h3]
  have qo : ∀ (a b : Nat) (i : Int), ¬ (a = 2 ∧ b = 4) → ¬ (a = o ∧ (b = 4 ∨ b = 6 ∨ b = 7)) → S' a b i = S a b i := fun a b i h1 h2 => qn a b i (by omega) h1 (by omega)
  have k24 : ∀ i, S' 2 4 i = T 2 4 i := fun i => qT 2 4 i (by omega)
  have w0 : S' o 0 0 = S o 0 0 := qo _ _ _ (by omega) (by omega)
  have w1 : S' o 0 1 = S o 0 1 := qo _ _ _ (by omega) (by omega)
  have w2 : S' o 0 2 = S o 0 2 := qo _ _ _ (by omega) (by omega)
  have hL : lgr S S' := ⟨by rw [qo 2 0 0 (by omega) (by omega)]; exact Int.le_refl _, fun k _ _ => qo 2 2 k (by omega) (by omega)⟩
  have e1 : S' 1 = S 1 := fe (fun b i => qo _ _ _ (by omega) (by omega))
  have e10 : ∀ a : Nat, 3 ≤ a → a ≠ o → S' a = S a := fun a h1 h2 => fe (fun b i => qo _ _ _ (by omega) (by omega))
  have hk6 : ∀ j, kcN S' o j = kcN T o j := fun j => by
    unfold kcN
    rw [qT o 0 0 (by omega), qT o 0 1 (by omega)]
    exact ss_c (fun r c _ _ _ _ => by rw [qT o 6 _ (by omega)])
  refine ⟨⟨⟨by rw [e1]; exact h.a.1, by rw [qo _ _ _ (by omega) (by omega)]; exact h.a.2.1, by rw [e10 3 (by omega) (by omega)]; exact h.a.2.2⟩, iW_k h.w (fun b i _ => by rw [e1]), iK_k h.k (fun b i _ => by rw [e1]) (fun a _ _ => e10 a (by omega) (by omega)), ⟨by rw [qo _ _ _ (by omega) (by omega)]; exact l1, fun j j0 j1 => ?_, fun j j0 j1 => ?_⟩, iP_1 (x := x) h.p hL x0 (fun b i _ => by rw [e1]) (fun a a1 a2 => e10 a (by omega) (by omega)) ?_, bal_1 (x := x) h.b hx (fun i => by rw [e1]) (fun a a1 a2 => e10 a (by omega) (by omega)) (fun j j0 j1 => ⟨qo _ _ _ (by omega) (by omega), ?_⟩)⟩, qo, ?_, by rw [hr]; exact h40, by rw [hr]; exact m1⟩
  · obtain ⟨a1, a2, a3⟩ := l2 j j0 j1
    have := i1 j
    rw [qo 2 3 _ (by omega) (by omega), qo 2 5 _ (by omega) (by omega), k24]
    exact ⟨a1, by omega, a3⟩
  · rw [qo _ _ _ (by omega) (by omega)] at j0
    obtain ⟨a1, a2⟩ := l3 j j0 j1
    have := i1 j
    rw [qo 2 3 _ (by omega) (by omega), k24]
    exact ⟨a1, by omega⟩
  · rw [ho]
    refine ⟨⟨by rw [qo _ _ _ (by omega) (by omega)]; exact pa, by rw [w0]; exact pw, by rw [w1]; exact ph, by rw [w2]; exact pv, fun j j0 j1 => ?_, fun j j0 j1 => by rw [qo _ _ _ (by omega) (by omega)]; exact p8 j j0 j1, fun y y0 y1 => ?_⟩, fun k c k0 k1 c0 c1 => ?_, Or.inr ⟨by rw [w0, w2]; exact ⟨v1, v2, v3⟩, fun y y0 y1 => ?_, fun y c k y0 y1 c0 c1 k0 k1 => ?_⟩⟩
    · by_cases hj : r * 24 + f ≤ j ∧ j < r * 24 + t
      · rw [qT _ _ _ (by omega), show j = r * 24 + (j - r * 24) by omega, (i2 (j - r * 24) (by omega) (by omega)).2.2.2]; decide
      · rw [qn _ _ _ (by omega) (by omega) (by omega)]
        exact p7 j j0 j1
    · by_cases hy : y = w
      · rw [hy, q4]; omega
      · rw [qn _ _ _ (by omega) (by omega) (by omega)]
        exact p4 y y0 y1
    · rw [w1] at k1
      rw [w0] at c1
      have hc9 := hC k c k0 k1 c0 c1
      rw [qo o 5 _ (by omega) (by omega)]
      by_cases hj : k = r ∧ f ≤ c ∧ c < t
      · obtain ⟨a1, a2, a3, a4⟩ := i2 c hj.2.1 hj.2.2
        rw [hj.1] at hc9 ⊢
        rw [qT o 6 _ (by omega), qT o 7 _ (by omega), a4]
        exact ⟨hc9.1, Or.inr ⟨a1, by rw [qo 2 0 0 (by omega) (by omega)]; exact a2, by rw [qo 2 2 _ (by omega) (by omega)]; exact a3, by decide, by decide⟩⟩
      · rw [qn o 6 _ (by omega) (by omega) (by omega), qn o 7 _ (by omega) (by omega) (by omega)]
        exact okC_k hL hc9
    · rw [w2] at y1
      rw [w1]
      by_cases hy : y = w
      · rw [hy, q4]; omega
      · rw [qn _ _ _ (by omega) (by omega) (by omega)]
        exact v4 y y0 y1
    · rw [w2] at y1
      rw [w1] at k1
      have ef : ∀ z, fcC S' o z = fcC S o z := fun z => by unfold fcC; rw [w0, w2]
      rw [ef] at c0 c1
      have hb := fc_b y0 y1 pv.2 (show 0 ≤ S o 0 0 by omega) v3
      have q7 := v5 y c k y0 y1 c0 c1 k0 k1
      by_cases hy : y = w
      · rw [hy] at q7 c0 c1 ⊢
        rw [q4]
        rw [hr] at q7
        rw [hf] at c0
        rw [hte] at c1
        by_cases hk : k = r
        · obtain ⟨a1, -⟩ := i2 c c0 c1
          rw [hk, qT o 6 _ (by omega)]
          omega
        · rw [qn o 6 _ (by omega) (by omega) (by omega), q7]
          omega
      · have hdis : c < f ∨ t ≤ c := by
          by_cases hyw : y < w
          · left
            have h1 : fcC S o (y + 1) ≤ fcC S o w := Int.ediv_le_ediv (by omega) (Int.mul_le_mul_of_nonneg_right (by omega) (by omega))
            omega
          · right
            have h1 : fcC S o (w + 1) ≤ fcC S o y := Int.ediv_le_ediv (by omega) (Int.mul_le_mul_of_nonneg_right (by omega) (by omega))
            omega
        rw [qn o 6 _ (by omega) (by omega) (by omega), qn o 4 _ (by omega) (by omega) (by omega)]
        exact q7
  · rw [ho, hk6, k24]
    exact i5 j j0
  · have : wnC S' o = wnC T o := by
      unfold wnC
      rw [s2_ss, s2_ss, qT o 0 0 (by omega), qT o 0 1 (by omega)]
      exact ss_c (fun r c _ _ _ _ => by rw [qT o 6 _ (by omega)])
    rw [this, i6]
    omega
