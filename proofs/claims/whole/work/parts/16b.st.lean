theorem wM_16 {S Z : St} {x v : Int} (hw : wM S) (q : ∀ (a1 b1 : Nat) (i1 : Int), Z a1 b1 i1 = if a1 = 0 ∧ b1 = 16 ∧ i1 = x then v else S a1 b1 i1) (h0 : 0 ≤ v) (h1 : v ≤ 24) : wM Z := by
  have e : ∀ r j, r ≠ 16 → Z 0 r j = S 0 r j := fun r j h => by rw [q, if_neg (fun z => h z.2.1)]
  have k := hw.pc
  refine ⟨?_, ?_, ?_, ?_, ?_, fun y a b => ?_, fun y a b => ?_, fun y a b => ?_, fun y a b => ?_⟩
  · rw [e 0 _ (by decide)]; exact hw.al
  · rw [e 0 _ (by decide)]; exact hw.le
  · rw [e 0 _ (by decide)]; exact hw.cs
  · rw [e 0 _ (by decide)]; exact hw.lt
  · rw [e 0 _ (by decide)]; exact hw.ps
  · rw [e 4 _ (by decide), e 5 _ (by decide)]; exact hw.cw y a b
  · rw [e 17 _ (by decide), e 18 _ (by decide), e 21 _ (by decide)]
    obtain ⟨k1, k2, k3⟩ := k y a b
    rw [q]
    by_cases hy : y = x
    · rw [if_pos ⟨rfl, rfl, hy⟩]; exact ⟨h0, h1, k3⟩
    · rw [if_neg (fun z => hy z.2.2)]; exact ⟨k1, k2, k3⟩
  · rw [e 0 _ (by decide)] at b
    rw [e 17 _ (by decide)]; exact hw.pr y a b
  · rw [e 20 _ (by decide)]; exact hw.wv y a b
theorem wM_17 {S Z : St} {x v : Int} (hw : wM S) (q : ∀ (a1 b1 : Nat) (i1 : Int), Z a1 b1 i1 = if a1 = 0 ∧ b1 = 17 ∧ i1 = x then v else S a1 b1 i1) (h0 : 1 ≤ v) (h1 : v ≤ 10) : wM Z := by
  have e : ∀ r j, r ≠ 17 → Z 0 r j = S 0 r j := fun r j h => by rw [q, if_neg (fun z => h z.2.1)]
  have k := hw.pc
  refine ⟨?_, ?_, ?_, ?_, ?_, fun y a b => ?_, fun y a b => ?_, fun y a b => ?_, fun y a b => ?_⟩
  · rw [e 0 _ (by decide)]; exact hw.al
  · rw [e 0 _ (by decide)]; exact hw.le
  · rw [e 0 _ (by decide)]; exact hw.cs
  · rw [e 0 _ (by decide)]; exact hw.lt
  · rw [e 0 _ (by decide)]; exact hw.ps
  · rw [e 4 _ (by decide), e 5 _ (by decide)]; exact hw.cw y a b
  · rw [e 16 _ (by decide), e 18 _ (by decide), e 21 _ (by decide)]
    obtain ⟨k1, k2, k3, k4, k5⟩ := k y a b
    rw [q]
    by_cases hy : y = x
    · rw [if_pos ⟨rfl, rfl, hy⟩]; exact ⟨k1, k2, by omega, h1, k5⟩
    · rw [if_neg (fun z => hy z.2.2)]; exact ⟨k1, k2, k3, k4, k5⟩
  · rw [e 0 _ (by decide)] at b
    rw [q]
    by_cases hy : y = x
    · rw [if_pos ⟨rfl, rfl, hy⟩]; exact h0
    · rw [if_neg (fun z => hy z.2.2)]; exact hw.pr y a b
  · rw [e 20 _ (by decide)]; exact hw.wv y a b
theorem wM_18 {S Z : St} {x v : Int} (hw : wM S) (q : ∀ (a1 b1 : Nat) (i1 : Int), Z a1 b1 i1 = if a1 = 0 ∧ b1 = 18 ∧ i1 = x then v else S a1 b1 i1) (h0 : 0 ≤ v) (h1 : v ≤ 4) : wM Z := by
  have e : ∀ r j, r ≠ 18 → Z 0 r j = S 0 r j := fun r j h => by rw [q, if_neg (fun z => h z.2.1)]
  have k := hw.pc
  refine ⟨?_, ?_, ?_, ?_, ?_, fun y a b => ?_, fun y a b => ?_, fun y a b => ?_, fun y a b => ?_⟩
  · rw [e 0 _ (by decide)]; exact hw.al
  · rw [e 0 _ (by decide)]; exact hw.le
  · rw [e 0 _ (by decide)]; exact hw.cs
  · rw [e 0 _ (by decide)]; exact hw.lt
  · rw [e 0 _ (by decide)]; exact hw.ps
  · rw [e 4 _ (by decide), e 5 _ (by decide)]; exact hw.cw y a b
  · rw [e 16 _ (by decide), e 17 _ (by decide), e 21 _ (by decide)]
    obtain ⟨k1, k2, k3, k4, k5, k6, k7⟩ := k y a b
    rw [q]
    by_cases hy : y = x
    · rw [if_pos ⟨rfl, rfl, hy⟩]; exact ⟨k1, k2, k3, k4, h0, h1, k7⟩
    · rw [if_neg (fun z => hy z.2.2)]; exact ⟨k1, k2, k3, k4, k5, k6, k7⟩
  · rw [e 0 _ (by decide)] at b
    rw [e 17 _ (by decide)]; exact hw.pr y a b
  · rw [e 20 _ (by decide)]; exact hw.wv y a b
theorem wM_21 {S Z : St} {x v : Int} (hw : wM S) (q : ∀ (a1 b1 : Nat) (i1 : Int), Z a1 b1 i1 = if a1 = 0 ∧ b1 = 21 ∧ i1 = x then v else S a1 b1 i1) (h0 : 0 ≤ v) (h1 : v ≤ 12) : wM Z := by
  have e : ∀ r j, r ≠ 21 → Z 0 r j = S 0 r j := fun r j h => by rw [q, if_neg (fun z => h z.2.1)]
  have k := hw.pc
  refine ⟨?_, ?_, ?_, ?_, ?_, fun y a b => ?_, fun y a b => ?_, fun y a b => ?_, fun y a b => ?_⟩
  · rw [e 0 _ (by decide)]; exact hw.al
  · rw [e 0 _ (by decide)]; exact hw.le
  · rw [e 0 _ (by decide)]; exact hw.cs
  · rw [e 0 _ (by decide)]; exact hw.lt
  · rw [e 0 _ (by decide)]; exact hw.ps
  · rw [e 4 _ (by decide), e 5 _ (by decide)]; exact hw.cw y a b
  · rw [e 16 _ (by decide), e 17 _ (by decide), e 18 _ (by decide)]
    obtain ⟨k1, k2, k3, k4, k5, k6, k7, k8⟩ := k y a b
    rw [q]
    by_cases hy : y = x
    · rw [if_pos ⟨rfl, rfl, hy⟩]; exact ⟨k1, k2, k3, k4, k5, k6, h0, h1⟩
    · rw [if_neg (fun z => hy z.2.2)]; exact ⟨k1, k2, k3, k4, k5, k6, k7, k8⟩
  · rw [e 0 _ (by decide)] at b
    rw [e 17 _ (by decide)]; exact hw.pr y a b
  · rw [e 20 _ (by decide)]; exact hw.wv y a b
theorem cpF_o (S : St) (x q z u : Int) {r : Nat} {j : Int} (h : r ≠ 22 ∧ r ≠ 23 ∧ r ≠ 24 ∧ r ≠ 25 ∧ r ≠ 26 ∧ r ≠ 27) : cpF S x q z u 0 r j = S 0 r j := by
  unfold cpF
  rw [if_neg (by omega), if_neg (by omega), if_neg (by omega), if_neg (by omega), if_neg (by omega)]
/-- n columns of the piece x, from q on, put into the piece z, from w on -/
noncomputable def cmF (S : St) (x q z w n : Int) : St := fun a1 b1 i1 =>
  if a1 = 0 ∧ b1 = 24 ∧ 24 * z + w ≤ i1 ∧ i1 < 24 * z + w + n then b2 (0 < q + (i1 - (24 * z + w)) ∧ 0 < w + (i1 - (24 * z + w)) ∧ S 0 24 (24 * x + q + (i1 - (24 * z + w))) ≠ 0) else
  if a1 = 0 ∧ (b1 = 22 ∨ b1 = 23) ∧ 24 * z + w ≤ i1 ∧ i1 < 24 * z + w + n then S 0 b1 (24 * x + q + (i1 - (24 * z + w))) else
  if a1 = 0 ∧ (b1 = 25 ∨ b1 = 26 ∨ b1 = 27) ∧ 240 * z + 10 * w ≤ i1 ∧ i1 < 240 * z + 10 * (w + n) ∧ (i1 - 240 * z) % 10 < S 0 17 x then S 0 b1 (240 * x + 10 * q + (i1 - (240 * z + 10 * w))) else S a1 b1 i1
theorem cmF_o (S : St) (x q z w n : Int) {r : Nat} {j : Int} (h : r ≠ 22 ∧ r ≠ 23 ∧ r ≠ 24 ∧ r ≠ 25 ∧ r ≠ 26 ∧ r ≠ 27) : cmF S x q z w n 0 r j = S 0 r j := by
  unfold cmF
  rw [if_neg (by omega), if_neg (by omega), if_neg (by omega)]
theorem cmF_0 (S : St) (x q z w : Int) (a1 b1 : Nat) (i1 : Int) : S a1 b1 i1 = cmF S x q z w 0 a1 b1 i1 := by
  unfold cmF
  rw [if_neg (by omega), if_neg (by omega), if_neg (by omega)]
theorem cmF_grow (S : St) {x q z w n : Int} (hn : 0 ≤ n) (hr : 0 ≤ S 0 17 x ∧ S 0 17 x ≤ 10) (a1 b1 : Nat) (i1 : Int)
    (h : ¬ (a1 = 0 ∧ (((b1 = 22 ∨ b1 = 23 ∨ b1 = 24) ∧ i1 = 24 * z + (w + n)) ∨ ((b1 = 25 ∨ b1 = 26 ∨ b1 = 27) ∧ 240 * z + 10 * (w + n) ≤ i1 ∧ i1 < 240 * z + 10 * (w + n) + S 0 17 x)))) : cmF S x q z w n a1 b1 i1 = cmF S x q z w (n + 1) a1 b1 i1 := by
  have c1 : (a1 = 0 ∧ b1 = 24 ∧ 24 * z + w ≤ i1 ∧ i1 < 24 * z + w + n) ↔ (a1 = 0 ∧ b1 = 24 ∧ 24 * z + w ≤ i1 ∧ i1 < 24 * z + w + (n + 1)) := by omega
  have c2 : (a1 = 0 ∧ (b1 = 22 ∨ b1 = 23) ∧ 24 * z + w ≤ i1 ∧ i1 < 24 * z + w + n) ↔ (a1 = 0 ∧ (b1 = 22 ∨ b1 = 23) ∧ 24 * z + w ≤ i1 ∧ i1 < 24 * z + w + (n + 1)) := by omega
  have c3 : (a1 = 0 ∧ (b1 = 25 ∨ b1 = 26 ∨ b1 = 27) ∧ 240 * z + 10 * w ≤ i1 ∧ i1 < 240 * z + 10 * (w + n) ∧ (i1 - 240 * z) % 10 < S 0 17 x) ↔ (a1 = 0 ∧ (b1 = 25 ∨ b1 = 26 ∨ b1 = 27) ∧ 240 * z + 10 * w ≤ i1 ∧ i1 < 240 * z + 10 * (w + (n + 1)) ∧ (i1 - 240 * z) % 10 < S 0 17 x) := by omega
  unfold cmF
  simp only [c1, c2, c3]
theorem cmF_s {S Sa : St} {x q z w n : Int} (hS : ∀ (a1 b1 : Nat) (i1 : Int), Sa a1 b1 i1 = cmF S x q z w n a1 b1 i1) (hn : 0 ≤ n) (hq : 0 ≤ q ∧ q + n < 24) (hw : 0 ≤ w ∧ w + n < 24) (hx : 0 ≤ x ∧ 0 ≤ z) (hxz : x ≠ z) (hr : 0 ≤ S 0 17 x ∧ S 0 17 x ≤ 10) :
    ∀ (a1 b1 : Nat) (i1 : Int), cpF Sa x (q + n) z (w + n) a1 b1 i1 = cmF S x q z w (n + 1) a1 b1 i1 := by
  have e17 : Sa 0 17 x = S 0 17 x := by rw [hS, cmF_o _ _ _ _ _ _ (by decide)]
  have es : ∀ b, (b = 22 ∨ b = 23 ∨ b = 24) → Sa 0 b (24 * x + (q + n)) = S 0 b (24 * x + (q + n)) := fun b hb => by
    rw [hS]; unfold cmF
    rw [if_neg (by omega), if_neg (by omega), if_neg (by omega)]
  have ec : ∀ b t, (b = 25 ∨ b = 26 ∨ b = 27) → 0 ≤ t → t < 10 → Sa 0 b (240 * x + 10 * (q + n) + t) = S 0 b (240 * x + 10 * (q + n) + t) := fun b t hb h0 h1 => by
    rw [hS]; unfold cmF
    rw [if_neg (by omega), if_neg (by omega), if_neg (by omega)]
  intro a b i
  by_cases hnew : a = 0 ∧ (((b = 22 ∨ b = 23 ∨ b = 24) ∧ i = 24 * z + (w + n)) ∨ ((b = 25 ∨ b = 26 ∨ b = 27) ∧ 240 * z + 10 * (w + n) ≤ i ∧ i < 240 * z + 10 * (w + n) + S 0 17 x))
  · obtain ⟨rfl, ⟨hb, rfl⟩ | ⟨hb, h1, h2⟩⟩ := hnew
    · rcases hb with rfl | rfl | rfl
      · have hl : cpF Sa x (q + n) z (w + n) 0 22 (24 * z + (w + n)) = S 0 22 (24 * x + (q + n)) := by
          unfold cpF
          rw [if_neg (by omega), if_neg (by omega), if_neg (by omega), if_pos ⟨rfl, rfl, rfl⟩, es 22 (by omega)]
        rw [hl]
        unfold cmF
        rw [if_neg (by omega), if_pos ⟨rfl, by omega, by omega, by omega⟩, show 24 * x + q + (24 * z + (w + n) - (24 * z + w)) = 24 * x + (q + n) from by omega]
      · have hl : cpF Sa x (q + n) z (w + n) 0 23 (24 * z + (w + n)) = S 0 23 (24 * x + (q + n)) := by
          unfold cpF
          rw [if_neg (by omega), if_neg (by omega), if_pos ⟨rfl, rfl, rfl⟩, es 23 (by omega)]
        rw [hl]
        unfold cmF
        rw [if_neg (by omega), if_pos ⟨rfl, by omega, by omega, by omega⟩, show 24 * x + q + (24 * z + (w + n) - (24 * z + w)) = 24 * x + (q + n) from by omega]
      · have hl : cpF Sa x (q + n) z (w + n) 0 24 (24 * z + (w + n)) = b2 (0 < q + n ∧ 0 < w + n ∧ S 0 24 (24 * x + (q + n)) ≠ 0) := by
          unfold cpF
          rw [if_pos ⟨rfl, rfl, rfl⟩, es 24 (by omega)]
        rw [hl]
        unfold cmF
        rw [if_pos ⟨rfl, rfl, by omega, by omega⟩, show q + (24 * z + (w + n) - (24 * z + w)) = q + n from by omega, show w + (24 * z + (w + n) - (24 * z + w)) = w + n from by omega, show 24 * x + q + (24 * z + (w + n) - (24 * z + w)) = 24 * x + (q + n) from by omega]
    · have hl : cpF Sa x (q + n) z (w + n) 0 b i = S 0 b (240 * x + 10 * (q + n) + (i - (240 * z + 10 * (w + n)))) := by
        unfold cpF
        rw [if_neg (by omega), if_neg (by omega), if_neg (by omega), if_neg (by omega), e17, if_pos ⟨rfl, hb, h1, h2⟩, show i - (240 * z + 10 * (w + n)) + (240 * x + 10 * (q + n)) = 240 * x + 10 * (q + n) + (i - (240 * z + 10 * (w + n))) from by omega]
        exact ec b _ hb (by omega) (by omega)
      rw [hl]
      unfold cmF
      rw [if_neg (by omega), if_neg (by omega), if_pos ⟨rfl, hb, by omega, by omega, by omega⟩, show 240 * x + 10 * q + (i - (240 * z + 10 * w)) = 240 * x + 10 * (q + n) + (i - (240 * z + 10 * (w + n))) from by omega]
  · have hl : cpF Sa x (q + n) z (w + n) a b i = Sa a b i := by
      unfold cpF
      rw [e17, if_neg (by omega), if_neg (by omega), if_neg (by omega), if_neg (by omega), if_neg (by omega)]
    rw [hl, hS]
    exact cmF_grow S hn hr a b i hnew
theorem cmF_fc {S : St} {x q z w n : Int} (h : ∀ j, 0 ≤ j → j < 480 → 0 ≤ S 0 23 j ∧ S 0 23 j ≤ 24) (hq : 0 ≤ q ∧ q + n ≤ 24) (hw : 0 ≤ w ∧ w + n ≤ 24) (hx : 0 ≤ x ∧ x < 20) (hz : 0 ≤ z ∧ z < 20) : ∀ j, 0 ≤ j → j < 480 → 0 ≤ cmF S x q z w n 0 23 j ∧ cmF S x q z w n 0 23 j ≤ 24 := by
  intro j h0 h1
  unfold cmF
  rw [if_neg (by omega)]
  by_cases hj : 24 * z + w ≤ j ∧ j < 24 * z + w + n
  · rw [if_pos ⟨rfl, by omega, hj⟩]; exact h _ (by omega) (by omega)
  · rw [if_neg (by omega), if_neg (by omega)]; exact h j h0 h1
