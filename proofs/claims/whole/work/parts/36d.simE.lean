theorem sm_ext {f : Int → Int} {n m : Nat} (h : n ≤ m) (hf : ∀ i : Int, n ≤ i → i < m → f i = 0) : sm f n = sm f m := by
  induction m with
  | zero => rw [show n = 0 by omega]
  | succ m ih =>
    by_cases hn : n = m + 1
    · rw [hn]
    · rw [ih (by omega) (fun i i0 i1 => hf i i0 (by omega))]
      have h2 := hf m (by omega) (by omega)
      show sm f m = sm f m + f m
      omega
theorem sm_cif {φ : Prop} {f : Int → Int} {n : Nat} : sm (fun i => cif φ (f i) 0) n = cif φ (sm f n) 0 := by
  by_cases h : φ
  · rw [cif_t h]
    exact sm_c (fun i _ _ => cif_t h)
  · rw [cif_f h]
    exact sm_0z (fun i _ _ => cif_f h)
/-- threads of a lot, by pieces -/
noncomputable def lnM (S : St) (x k : Int) : Int := sm (fun n => b2 (cM S 26 x n = k)) (S 0 16 x * S 0 17 x).toNat
theorem wo_20 {S : St} (hm : wM S) (k : Int) : woM S k = sm (fun x => cif (x < S 0 0 14 ∧ S 0 19 x = 0) (lnM S x k) 0) 20 := by
  have h := hm.ps
  have h1 : sm (fun x => cif (x < S 0 0 14 ∧ S 0 19 x = 0) (lnM S x k) 0) (S 0 0 14).toNat = sm (fun x => cif (x < S 0 0 14 ∧ S 0 19 x = 0) (lnM S x k) 0) 20 := sm_ext (by omega) (fun i i0 i1 => cif_f (by omega))
  rw [← h1]
  unfold woM
  refine sm_c (fun x x0 x1 => ?_)
  unfold wpM lnM
  by_cases hg : S 0 19 x = 0
  · rw [cif_t hg, cif_t ⟨by omega, hg⟩]
  · rw [cif_f hg, cif_f (fun y => hg y.2)]
theorem Inv.fl {S : St} (h : Inv S) {x : Int} (x0 : 0 ≤ x) : S 1 6 x = 1 ↔ (x < S 0 0 14 ∧ S 0 19 x = 0) := by
  have := h.p.2.1 x.toNat
  rw [Int.toNat_of_nonneg x0] at this
  exact this
theorem woM_27 (S : St) (v k : Int) : woM (st S 0 0 27 v) k = woM S k := by
  unfold woM wpM cM
  have e : ∀ r, r ≠ 0 → (st S 0 0 27 v) 0 r = S 0 r := fun r h => by funext i; rw [st_at, if_neg (by omega)]
  rw [e 16 (by decide), e 17 (by decide), e 19 (by decide), e 26 (by decide), st_at, if_neg (by omega)]
theorem wo_e {S U : St} (e : U 0 = S 0) (k : Int) : woM U k = woM S k := by
  unfold woM wpM cM
  rw [e]
set_option maxHeartbeats 4000000 in
theorem sim_gold {S : St} (hI : Inv S) : gdC S = gdM (st S 0 0 27 0) := by
  have hl := hI.m.lt
  have hm := hI.m
  unfold gdM
  rw [st_at, if_neg (by omega)]
  have e10 : ∀ k, st S 0 0 27 0 0 10 k = S 0 10 k := fun k => by rw [st_at, if_neg (by omega)]
  have h1 : sm (fun k => cif (st S 0 0 27 0 0 10 k = 5) (woM (st S 0 0 27 0) k) 0) (S 0 0 8).toNat = sm (fun k => sm (fun x => cif (x < S 0 0 14 ∧ S 0 19 x = 0) (cif (S 0 10 k = 5) (lnM S x k) 0) 0) 20) (S 0 0 8).toNat := by
    refine sm_c (fun k k0 k1 => ?_)
    rw [e10, woM_27, wo_20 hm, ← sm_cif]
    refine sm_c (fun x x0 x1 => ?_)
    by_cases hp : S 0 10 k = 5
    · rw [cif_t hp, cif_t hp]
    · rw [cif_f hp, cif_f hp]
      by_cases hq : x < S 0 0 14 ∧ S 0 19 x = 0
      · rw [cif_t hq]
      · rw [cif_f hq]
  rw [h1, sm_swap]
  unfold gdC
  refine sm_c (fun x x0 x1 => ?_)
  rw [sm_cif]
  by_cases hp : x < S 0 0 14 ∧ S 0 19 x = 0
  · rw [cif_t hp, cif_t ((hI.fl x0).mpr hp)]
    have hx : isP S x := ⟨x0, hp.1, hp.2⟩
    obtain ⟨⟨-, g0, g1, -, hW, hH, -⟩, hX, -⟩ := hI.ip hx
    have h2 : sm (fun k => cif (S 0 10 k = 5) (lnM S x k) 0) (S 0 0 8).toNat = sm (fun k => sm (fun n => cif (S 0 10 k = 5) (b2 (cM S 26 x n = k)) 0) (S 0 16 x * S 0 17 x).toNat) (S 0 0 8).toNat := sm_c (fun k _ _ => by unfold lnM; rw [sm_cif])
    rw [h2, sm_swap]
    refine cells_eq g0 g1 (by omega) (by omega) (fun r c => b2 (S (10 + x.toNat) 6 (r * 24 + c) ≠ -1 ∧ S (10 + x.toNat) 5 (r * 24 + c) = 5)) (fun r c => sm (fun k => cif (S 0 10 k = 5) (b2 (S 0 26 (240 * x + 10 * c + r) = k)) 0) (S 0 0 8).toNat) (fun r c r0 r1 c0 c1 => ?_)
    obtain ⟨a1, a2, -, -, a5⟩ := hX c r c0 c1 r0 r1
    rw [a1, a2]
    rcases a5 with ⟨a6, -⟩ | ⟨a6, a7, a8⟩
    · rw [a6, b2_f (fun y => y.1 rfl)]
      refine (sm_0z (fun k k0 k1 => ?_)).symm
      rw [b2_f (by omega)]
      by_cases hc : S 0 10 k = 5
      · rw [cif_t hc]
      · rw [cif_f hc]
    · rw [sm_pt (φ := fun k => S 0 10 k = 5) a6 (by omega)]
      refine b2_c ?_
      rw [a8]
      exact ⟨fun y => y.2, fun y => ⟨by omega, y⟩⟩
  · rw [cif_f hp, cif_f (fun y => hp ((hI.fl x0).mp y))]
theorem tb_wo {S : St} (hI : Inv S) (j : Int) : tbC S 20 j = woM S j := by
  rw [wo_20 hI.m]
  unfold tbC
  refine sm_c (fun x x0 x1 => ?_)
  unfold tbN
  by_cases hp : x < S 0 0 14 ∧ S 0 19 x = 0
  · rw [cif_t hp, cif_t ((hI.fl x0).mpr hp)]
    obtain ⟨⟨-, g0, g1, -, hW, hH, -⟩, hX, -⟩ := hI.ip (x := x) ⟨x0, hp.1, hp.2⟩
    have h1 := cells_eq g0 g1 (by omega) (by omega) (fun r c => b2 (S (10 + x.toNat) 6 (r * 24 + c) = j)) (fun r c => b2 (S 0 26 (240 * x + 10 * c + r) = j)) (fun r c r0 r1 c0 c1 => by rw [(hX c r c0 c1 r0 r1).2.1])
    show _ = sm (fun n => b2 (S 0 26 (240 * x + 10 * (n / S 0 17 x) + n % S 0 17 x) = j)) (S 0 16 x * S 0 17 x).toNat
    rw [← h1]
    unfold atN s2
    exact Int.add_zero _
  · rw [cif_f hp, cif_f (fun y => hp ((hI.fl x0).mp y))]
set_option maxHeartbeats 4000000 in
theorem sim_balances {S : St} (hI : Inv S) : (∀ j, 0 ≤ j → j < 20 → tbC S 20 j = S 2 3 j - S 2 4 j) ↔ blM (st (blS S 20) 0 0 27 0) := by
  have hl := hI.m.lt
  have e0 : (blS S 20) 0 = S 0 := by funext b i; exact blS_o (by omega)
  have e27 : ∀ b i, b ≠ 0 ∨ i ≠ 27 → st (blS S 20) 0 0 27 0 0 b i = S 0 b i := fun b i h => by rw [st_at, if_neg (by omega), e0]
  unfold blM
  rw [e27 0 8 (by omega)]
  constructor
  · intro h j j0 j1
    rw [e27 11 j (by omega), e27 12 j (by omega), woM_27, wo_e e0]
    have h1 := h j j0 (by omega)
    obtain ⟨-, u2, u3, -⟩ := hI.l.2 j j0 (by omega)
    rw [tb_wo hI, u2, u3] at h1
    exact h1
  · intro h j j0 j1
    obtain ⟨-, u2, u3, -, -, -, -, -, -, u4⟩ := hI.l.2 j j0 j1
    rw [tb_wo hI, u2, u3]
    by_cases hj : j < S 0 0 8
    · have h1 := h j j0 hj
      rw [e27 11 j (by omega), e27 12 j (by omega), woM_27, wo_e e0] at h1
      exact h1
    · obtain ⟨u5, u6⟩ := u4 (by omega)
      rw [u5, u6, wo_20 hI.m]
      refine sm_0z (fun x x0 x1 => ?_)
      by_cases hp : x < S 0 0 14 ∧ S 0 19 x = 0
      · rw [cif_t hp]
        obtain ⟨⟨-, g0, g1, -, hW, hH, -⟩, hX, -⟩ := hI.ip (x := x) ⟨x0, hp.1, hp.2⟩
        unfold lnM
        refine sm_0z (fun n n0 n1 => b2_f ?_)
        have hn : n < S 0 16 x * S 0 17 x := by omega
        obtain ⟨d0, d1, d2, d3⟩ := dmb n0 hn (by omega)
        obtain ⟨-, -, -, -, a5⟩ := hX _ _ d0 d1 d2 d3
        unfold cM
        omega
      · rw [cif_f hp]
