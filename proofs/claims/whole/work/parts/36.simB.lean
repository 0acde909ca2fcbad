theorem cells_eq {S : St} {o : Nat} {x : Int} (e0 : S o 0 0 = S 0 16 x) (e1 : S o 0 1 = S 0 17 x) (hW : 0 ≤ S 0 16 x) (hH : 1 ≤ S 0 17 x) (G F : Int → Int → Int) (h : ∀ r c, 0 ≤ r → r < S 0 17 x → 0 ≤ c → c < S 0 16 x → G r c = F r c) : s2 S o G = sm (fun n => F (n % S 0 17 x) (n / S 0 17 x)) (S 0 16 x * S 0 17 x).toNat := by
  rw [sm_cells F hW (by omega)]
  unfold s2
  rw [e0, e1]
  exact sm_c (fun r r0 r1 => sm_c (fun c c0 c1 => h r c r0 (by omega) c0 (by omega)))
theorem wn_eq {S : St} {o : Nat} {x : Int} (hR : pR S o x) (hX : pX S o x) : wnC S o = wnM S x := by
  obtain ⟨-, e0, e1, -, hW, hH, -⟩ := hR
  exact cells_eq e0 e1 (by omega) (by omega) (fun r c => b2 (S o 6 (r * 24 + c) ≠ -1)) (fun r c => b2 (S 0 26 (240 * x + 10 * c + r) ≠ -1)) (fun r c r0 r1 c0 c1 => by rw [(hX c r c0 c1 r0 r1).2.1])
theorem sh_eq {S : St} {o : Nat} {x : Int} (hR : pR S o x) (hX : pX S o x) : shC S o = shM S x := by
  obtain ⟨-, e0, e1, -, hW, hH, -⟩ := hR
  exact cells_eq e0 e1 (by omega) (by omega) (fun r c => S o 7 (r * 24 + c)) (fun r c => S 0 27 (240 * x + 10 * c + r)) (fun r c r0 r1 c0 c1 => (hX c r c0 c1 r0 r1).2.2.1)
theorem rl_c {u v : Int → Prop} {n : Nat} (h : ∀ i : Int, 0 ≤ i → i < n → (u i ↔ v i)) : rl u n = rl v n := by
  induction n with
  | zero => rfl
  | succ n ih =>
    have e1 := ih (fun i h0 h1 => h i h0 (by omega))
    have e2 := h n (by omega) (by omega)
    unfold rl
    rw [e1, propext e2]
theorem mxl_c {u v : Int → Prop} {n : Nat} (h : ∀ i : Int, 0 ≤ i → i < n → (u i ↔ v i)) : mxl u n = mxl v n := by
  induction n with
  | zero => rfl
  | succ n ih =>
    have e1 := ih (fun i h0 h1 => h i h0 (by omega))
    have e2 := rl_c (n := n + 1) h
    unfold mxl
    rw [e1, e2]
theorem rl_3 (u : Int → Prop) : ∀ n : Nat, 3 ≤ rl u n → ∃ j : Int, 0 ≤ j ∧ j < n ∧ rl u (j + 1).toNat = 3
  | 0, h => by have : rl u 0 = 0 := rfl; omega
  | n + 1, h => by
    by_cases hu : u n
    · have e : rl u (n + 1) = rl u n + 1 := if_pos hu
      by_cases h3 : rl u (n + 1) = 3
      · exact ⟨n, by omega, by omega, h3⟩
      · obtain ⟨j, j0, j1, j2⟩ := rl_3 u n (by omega)
        exact ⟨j, j0, by omega, j2⟩
    · have e : rl u (n + 1) = 0 := if_neg hu
      omega
theorem mxl_3 (u : Int → Prop) (n : Nat) : 3 ≤ mxl u n ↔ ∃ j : Int, 0 ≤ j ∧ j < n ∧ rl u (j + 1).toNat = 3 := by
  induction n with
  | zero =>
    have e : mxl u 0 = 0 := rfl
    exact ⟨fun h => by omega, fun ⟨j, j0, j1, _⟩ => by omega⟩
  | succ n ih =>
    have e : mxl u (n + 1) = if mxl u n < rl u (n + 1) then rl u (n + 1) else mxl u n := rfl
    constructor
    · intro h
      by_cases h2 : 3 ≤ rl u (n + 1)
      · exact rl_3 u (n + 1) h2
      · have h3 : 3 ≤ mxl u n := by
          rw [e] at h
          split at h <;> omega
        obtain ⟨j, j0, j1, j2⟩ := ih.mp h3
        exact ⟨j, j0, by omega, j2⟩
    · rintro ⟨j, j0, j1, j2⟩
      by_cases hj : j = n
      · rw [hj, show ((n : Int) + 1).toNat = n + 1 by omega] at j2
        rw [e]
        split <;> omega
      · have := ih.mpr ⟨j, j0, by omega, j2⟩
        rw [e]
        split <;> omega
theorem sl_eq {S : St} {o : Nat} {x c : Int} (hR : pR S o x) (hX : pX S o x) (hY : pY S o x) (h0 : 1 ≤ c) (h1 : c < S 0 16 x) : slC S o c ↔ slM S x c := by
  obtain ⟨-, e0, e1, -, hW, hH, -⟩ := hR
  have hu : ∀ i : Int, 0 ≤ i → i < (S 0 17 x).toNat → (unC S o c i ↔ unM S x c i) := fun i i0 i1 => by
    unfold unC unM
    rw [(hX (c - 1) i (by omega) (by omega) i0 (by omega)).1, (hX c i (by omega) (by omega) i0 (by omega)).1]
  unfold slC slM
  rw [(hY c (by omega) h1).1, e1, mxl_c hu, mxl_3]
  constructor
  · rintro ⟨a1, j, j0, j1, j2⟩
    exact ⟨⟨j, j0, by omega, j2⟩, a1⟩
  · rintro ⟨⟨j, j0, j1, j2⟩, a1⟩
    exact ⟨a1, j, j0, by omega, j2⟩
theorem ri_eq {S : St} {o : Nat} {x c : Int} (hY : pY S o x) (h0 : 1 ≤ c) (h1 : c < S 0 16 x) : S o 8 (c - 1) + 1 = S o 8 c ↔ riM S x c := by
  obtain ⟨-, a1, a2, a3⟩ := hY (c - 1) (by omega) (by omega)
  obtain ⟨-, b1, b2, b3⟩ := hY c (by omega) h1
  unfold riM
  rw [show 24 * x + (c - 1) = 24 * x + c - 1 by omega] at a1 a2 a3
  rw [a1, b1]
  omega
theorem dc_eq {S : St} {j r c : Int} (h : iC S j) (r0 : 0 ≤ r) (r1 : r < 10) (c0 : 0 ≤ c) (c1 : c < 12) : dcF S (4 + j.toNat) r c = drM S j r c := by
  obtain ⟨-, g4, g5, g6, g7, -, -, g10⟩ := h
  unfold dcF drM
  rw [g10 (r * 12 + c) (by omega) (by omega), g6, g7, show 120 * j + (r * 12 + c) = 120 * j + 12 * r + c by omega]
theorem pcM_e {S U : St} (e : ∀ r, r ≠ 0 → U 0 r = S 0 r) (x w : Int) : pcM U x w = pcM S x w := by
  unfold pcM wnM dnM stM dnM slM unM shM cM
  rw [e 16 (by decide), e 17 (by decide), e 18 (by decide), e 20 (by decide), e 24 (by decide), e 25 (by decide), e 26 (by decide), e 27 (by decide)]
theorem slM_e {S U : St} (e : ∀ r, r ≠ 0 → U 0 r = S 0 r) (x c : Int) : slM U x c = slM S x c := by
  unfold slM unM
  rw [e 17 (by decide), e 24 (by decide), e 25 (by decide)]
theorem trM_e {S U : St} (e : ∀ r, r ≠ 0 → U 0 r = S 0 r) (x : Int) : trM U x = trM S x := by
  unfold trM riM
  rw [e 16 (by decide), e 22 (by decide), e 23 (by decide)]
theorem lkM_e {S U : St} (e : ∀ r, r ≠ 0 → U 0 r = S 0 r) (x i : Int) : lkM U x i = lkM S x i := by
  unfold lkM lkA lkB drM cM
  rw [e 16 (by decide), e 17 (by decide), e 4 (by decide), e 5 (by decide), e 6 (by decide), e 7 (by decide), e 8 (by decide), e 25 (by decide)]
theorem Inv.pc {S : St} (h : Inv S) {x w : Int} (q : isP S x) (hw : 0 ≤ w ∧ w < 6) : pcC S (10 + x.toNat) w = pcM S x w := by
  obtain ⟨hR, hX, hY, -⟩ := h.ip q
  have hd := h.dn q
  have e0 := hR.2.1
  have e1 := hR.2.2.1
  rcases (show w = 0 ∨ w = 1 ∨ w = 2 ∨ w = 3 ∨ w = 4 ∨ w = 5 by omega) with e | e | e | e | e | e
  · rw [pcC_0 e, pcM_0 e, e0]
  · rw [pcC_1 e, pcM_1 e, e1]
  · rw [pcC_2 e, pcM_2 e, wn_eq hR hX]
  · rw [pcC_3 e, pcM_3 e, b2_c hd]
  · rw [pcC_4 e, pcM_4 e]
    unfold stM
    rw [propext hd]
    by_cases hm : dnM S x
    · rw [cif_t hm, cif_t hm]
      unfold snC
      rw [e0]
      refine sm_c (fun i i0 i1 => ?_)
      rw [show i + 1 = 1 + i by omega]
      exact b2_c (sl_eq hR hX hY (by omega) (by omega))
    · rw [cif_f hm, cif_f hm]
  · rw [pcC_5 e, pcM_5 (by omega), sh_eq hR hX]
theorem pR_keep {S S' : St} {o : Nat} {x : Int} (h : pR S o x) (eo : ∀ (b : Nat) (i : Int), (b = 0 ∨ b = 4 ∨ b = 7 ∨ b = 8) → S' o b i = S o b i) (em : ∀ (b : Nat) (i : Int), ((b = 16 ∨ b = 17 ∨ b = 18) ∧ i = x) ∨ (b = 20 ∧ 4 * x ≤ i ∧ i < 4 * x + 4) → S' 0 b i = S 0 b i) : pR S' o x := by
  obtain ⟨ea, e0, e1, e2, hW, hH, h4, h7, h8⟩ := h
  exact ⟨by rw [eo 0 _ (by omega)]; exact ea, by rw [eo 0 _ (by omega), em 16 _ (by omega)]; exact e0, by rw [eo 0 _ (by omega), em 17 _ (by omega)]; exact e1, by rw [eo 0 _ (by omega), em 18 _ (by omega)]; exact e2, by rw [em 16 _ (by omega)]; exact hW, by rw [em 17 _ (by omega)]; exact hH, fun w w0 w1 => by rw [eo 4 _ (by omega), em 20 _ (by omega)]; exact h4 w w0 w1, fun j j0 j1 => by rw [eo 7 _ (by omega)]; exact h7 j j0 j1, fun j j0 j1 => by rw [eo 8 _ (by omega)]; exact h8 j j0 j1⟩
theorem pX_keep {S S' : St} {o : Nat} {x : Int} (h : pX S o x) (hH : S 0 16 x ≤ 24 ∧ S 0 17 x ≤ 10) (eo : ∀ (b : Nat) (i : Int), (b = 5 ∨ b = 6 ∨ b = 7) → S' o b i = S o b i) (em : ∀ (b : Nat) (i : Int), ((b = 16 ∨ b = 17) ∧ i = x) ∨ ((b = 25 ∨ b = 26 ∨ b = 27) ∧ 240 * x ≤ i ∧ i < 240 * x + 240) → S' 0 b i = S 0 b i) (hL : lgr S S') : pX S' o x := by
  intro c r c0 c1 r0 r1
  rw [em 16 _ (by omega)] at c1
  rw [em 17 _ (by omega)] at r1
  rw [eo 5 _ (by omega), eo 6 _ (by omega), eo 7 _ (by omega), em 25 _ (by omega), em 26 _ (by omega), em 27 _ (by omega)]
  obtain ⟨a1, a2, a3, a4⟩ := h c r c0 c1 r0 r1
  exact ⟨a1, a2, a3, okc_keep hL a4⟩
theorem pY_keep {S S' : St} {o : Nat} {x : Int} (h : pY S o x) (hW : S 0 16 x ≤ 24) (eo : ∀ (b : Nat) (i : Int), (b = 8 ∨ b = 9) → S' o b i = S o b i) (em : ∀ (b : Nat) (i : Int), (b = 16 ∧ i = x) ∨ ((b = 22 ∨ b = 23 ∨ b = 24) ∧ 24 * x ≤ i ∧ i < 24 * x + 24) → S' 0 b i = S 0 b i) : pY S' o x := by
  intro c c0 c1
  rw [em 16 _ (by omega)] at c1
  rw [eo 8 _ (by omega), eo 9 _ (by omega), em 22 _ (by omega), em 23 _ (by omega), em 24 _ (by omega)]
  exact h c c0 c1
theorem pQ_keep {S S' : St} {x : Int} (h : pQ S x) (hv : S 0 18 x ≤ 4) (hH : 1 ≤ S 0 16 x ∧ S 0 16 x ≤ 24 ∧ S 0 17 x ≤ 10) (em : ∀ (b : Nat) (i : Int), ((b = 16 ∨ b = 17 ∨ b = 18 ∨ b = 21) ∧ i = x) ∨ (b = 20 ∧ 4 * x ≤ i ∧ i < 4 * x + 4) ∨ (b = 26 ∧ 240 * x ≤ i ∧ i < 240 * x + 240) → S' 0 b i = S 0 b i) : pQ S' x := by
  have e16 := em 16 x (by omega)
  have e17 := em 17 x (by omega)
  have e18 := em 18 x (by omega)
  have e21 := em 21 x (by omega)
  unfold pQ dnM
  rw [e16, e17, e18, e21]
  rcases h with ⟨hd, ha⟩ | ⟨q1, q2, q3, q4, q5, q6⟩
  · exact Or.inl ⟨fun j j0 j1 => by rw [em 20 _ (by omega)]; exact hd j j0 j1, fun c r c0 c1 r0 r1 => by rw [em 26 _ (by omega)]; exact ha c r c0 c1 r0 r1⟩
  · refine Or.inr ⟨q1, q2, q3, q4, fun w w0 w1 => by rw [em 20 _ (by omega)]; exact q5 w w0 w1, fun w c r w0 w1 c0 c1 r0 r1 => ?_⟩
    have hb := dvb w0 w1 hv (show 0 ≤ S 0 21 x by omega) (show S 0 21 x ≤ 12 by omega)
    rw [em 26 _ (by omega), em 20 _ (by omega)]
    exact q6 w c r w0 w1 c0 c1 r0 r1
theorem e27 {S : St} {v t : Int} : ∀ r, r ≠ 0 → (st (st S 3 1 0 v) 0 0 27 t) 0 r = S 0 r := fun r h => by
  funext i
  rw [st_at, if_neg (by omega), st_at, if_neg (by omega)]
set_option maxHeartbeats 4000000 in
theorem sim_pieceIs {S S1 S2 : St} {ad ad1 ad2 : Nat → Nat → Nat} {r1 r2 : Option Value} {x w : Int} (hI : Inv S) (hrn : rng x) (hrn2 : rng w) (h1 : lhP ad (peC S x) (0 ≤ w ∧ w < 6) (True) S (st (S) 3 1 0 (wr (pcC S (10 + x.toNat) w))) r1 ad1 S1) (h2 : (mP ad1 (isP S1 x) (0 ≤ w ∧ w ≤ 5) (True) S1 (some (.int (i32 (pcM (st S1 0 0 27 (thr (isP S1 x) (0 ≤ w ∧ w ≤ 5) (True))) x w)))) (fun Z => Z = (st S1 0 0 27 (thr (isP S1 x) (0 ≤ w ∧ w ≤ 5) (True))))) r2 ad2 S2) : Gd ad (thr (peC S x) (0 ≤ w ∧ w < 6) (True)) r2 ad2 S2 := by
  have e0 := lhP_0 h1 zk_pieceIs.1
  have ek := (lhP_k h1).2
  have hk : thr (isP S1 x) (0 ≤ w ∧ w ≤ 5) True = thr (peC S x) (0 ≤ w ∧ w < 6) True := thr_c (by rw [isP_e e0, hI.pe]) (fun _ => by omega) (fun _ _ => Iff.rfl)
  rcases h1.2 with ⟨hn, ha, hs⟩ | ⟨hc, ha, hs⟩
  · rw [ha, hs] at h2
    rw [hs] at hk
    exact sim_no hI hk hn h2
  · obtain ⟨h3, h4, h5⟩ := mP_y (hk.trans (thr_z.mpr hc)) h2
    rw [h3]
    rw [hk] at h4 h5
    rw [hs] at h4 h5
    have q : ∀ (a b : Nat) (i : Int), ¬ (a = 0 ∧ b = 0 ∧ i = 27) → ¬ (a = 3 ∧ b = 1 ∧ i = 0) → S2 a b i = S a b i := fun a b i z1 z2 => by rw [h5, st_at, if_neg z1, st_at, if_neg z2]
    refine ⟨⟨_, h4, fun _ => ?_⟩, by rw [h5, st_at, if_pos ⟨rfl, rfl, rfl⟩], hI.keep (fun a b i h => q a b i (by omega) (by omega)), ek⟩
    rw [h5, st_at, if_neg (by omega), st_at, if_pos ⟨rfl, rfl, rfl⟩]
    rw [pcM_e e27, hI.pc (hI.pe.mp hc.1) hc.2.1]
set_option maxHeartbeats 4000000 in
theorem sim_cell {S S1 S2 : St} {ad ad1 ad2 : Nat → Nat → Nat} {r1 r2 : Option Value} {x r c w : Int} (hI : Inv S) (hrn : rng x) (hrn2 : rng r) (hrn3 : rng c) (hrn4 : rng w) (h1 : lhP ad (peC S x ∧ (0 ≤ r ∧ r < S (10 + x.toNat) 0 1 ∧ 0 ≤ c ∧ c < S (10 + x.toNat) 0 0)) (0 ≤ w ∧ w < 3) (True) S (st (S) 3 1 0 (wr (ceF S (10 + x.toNat) r c w))) r1 ad1 S1) (h2 : (mP ad1 ((isP S1 x) ∧ (0 ≤ r ∧ r ≤ ((S1 0 17 x) - 1)) ∧ (0 ≤ c ∧ c ≤ ((S1 0 16 x) - 1))) (0 ≤ w ∧ w ≤ 2) (True) S1 (some (.int (i32 (ceM S1 x r c w)))) (fun Z => Z = (st S1 0 0 27 (thr ((isP S1 x) ∧ (0 ≤ r ∧ r ≤ ((S1 0 17 x) - 1)) ∧ (0 ≤ c ∧ c ≤ ((S1 0 16 x) - 1))) (0 ≤ w ∧ w ≤ 2) (True))))) r2 ad2 S2) : Gd ad (thr (peC S x ∧ (0 ≤ r ∧ r < S (10 + x.toNat) 0 1 ∧ 0 ≤ c ∧ c < S (10 + x.toNat) 0 0)) (0 ≤ w ∧ w < 3) (True)) r2 ad2 S2 := by
  have e0 := lhP_0 h1 zk_cell.1
  have ek := (lhP_k h1).2
  have hk : thr (isP S1 x ∧ (0 ≤ r ∧ r ≤ S1 0 17 x - 1) ∧ (0 ≤ c ∧ c ≤ S1 0 16 x - 1)) (0 ≤ w ∧ w ≤ 2) True = thr (peC S x ∧ (0 ≤ r ∧ r < S (10 + x.toNat) 0 1 ∧ 0 ≤ c ∧ c < S (10 + x.toNat) 0 0)) (0 ≤ w ∧ w < 3) True := by
    refine thr_c ?_ (fun _ => by omega) (fun _ _ => Iff.rfl)
    rw [isP_e e0, hI.pe, e0]
    refine and_congr_right (fun y => ?_)
    obtain ⟨⟨-, g0, g1, -⟩, -⟩ := hI.ip y
    rw [g0, g1]
    omega
  rcases h1.2 with ⟨hn, ha, hs⟩ | ⟨hc, ha, hs⟩
  · rw [ha, hs] at h2
    rw [hs] at hk
    exact sim_no hI hk hn h2
  · obtain ⟨h3, h4, h5⟩ := mP_y (hk.trans (thr_z.mpr hc)) h2
    rw [h3]
    rw [hk] at h5
    rw [hs] at h4 h5
    have q : ∀ (a b : Nat) (i : Int), ¬ (a = 0 ∧ b = 0 ∧ i = 27) → ¬ (a = 3 ∧ b = 1 ∧ i = 0) → S2 a b i = S a b i := fun a b i z1 z2 => by rw [h5, st_at, if_neg z1, st_at, if_neg z2]
    refine ⟨⟨_, h4, fun _ => ?_⟩, by rw [h5, st_at, if_pos ⟨rfl, rfl, rfl⟩], hI.keep (fun a b i h => q a b i (by omega) (by omega)), ek⟩
    rw [h5, st_at, if_neg (by omega), st_at, if_pos ⟨rfl, rfl, rfl⟩]
    unfold ceM
    rw [← hs, e0]
    congr 1
    obtain ⟨⟨-, g0, g1, -⟩, hX, -⟩ := hI.ip (hI.pe.mp hc.1.1)
    have hrc := hc.1.2
    rw [g0, g1] at hrc
    obtain ⟨b1, b2, b3, -⟩ := hX c r hrc.2.2.1 hrc.2.2.2 hrc.1 hrc.2.1
    have hw := hc.2.1
    rcases (show w = 0 ∨ w = 1 ∨ w = 2 by omega) with e | e | e
    · rw [ceF_0 e, cif_t e, b1]
    · rw [ceF_1 e, cif_f (by omega), cif_t e, b2]
    · rw [ceF_2 e, cif_f (by omega), cif_f (by omega), b3]
set_option maxHeartbeats 4000000 in
theorem sim_isTrue {S S1 S2 : St} {ad ad1 ad2 : Nat → Nat → Nat} {r1 r2 : Option Value} {x : Int} (hI : Inv S) (hrn : rng x) (h1 : lhP ad (peC S x) (True) (True) S (st (S) 3 1 0 (b2 (∀ j, 1 ≤ j → j < S (10 + x.toNat) 0 0 → S (10 + x.toNat) 8 (j - 1) + 1 = S (10 + x.toNat) 8 j))) r1 ad1 S1) (h2 : (mP ad1 (isP S1 x) (True) (True) S1 (some (.int (i32 (b2 (trM (st S1 0 0 27 (thr (isP S1 x) (True) (True))) x))))) (fun Z => Z = (st S1 0 0 27 (thr (isP S1 x) (True) (True))))) r2 ad2 S2) : GdB ad (thr (peC S x) (True) (True)) r2 ad2 S2 := by
  have e0 := lhP_0 h1 zk_isTrue.1
  have ek := (lhP_k h1).2
  have hk : thr (isP S1 x) True True = thr (peC S x) True True := thr_c (by rw [isP_e e0, hI.pe]) (fun _ => Iff.rfl) (fun _ _ => Iff.rfl)
  rcases h1.2 with ⟨hn, ha, hs⟩ | ⟨hc, ha, hs⟩
  · rw [ha, hs] at h2
    rw [hs] at hk
    exact sim_nb hI hk hn h2
  · obtain ⟨h3, h4, h5⟩ := mP_y (hk.trans (thr_z.mpr hc)) h2
    rw [h3]
    rw [hk] at h4 h5
    rw [hs] at h4 h5
    have q : ∀ (a b : Nat) (i : Int), ¬ (a = 0 ∧ b = 0 ∧ i = 27) → ¬ (a = 3 ∧ b = 1 ∧ i = 0) → S2 a b i = S a b i := fun a b i z1 z2 => by rw [h5, st_at, if_neg z1, st_at, if_neg z2]
    refine ⟨⟨_, h4, fun _ => ?_⟩, by rw [h5, st_at, if_pos ⟨rfl, rfl, rfl⟩], hI.keep (fun a b i h => q a b i (by omega) (by omega)), ek⟩
    rw [h5, st_at, if_neg (by omega), st_at, if_pos ⟨rfl, rfl, rfl⟩]
    refine b2_c ?_
    rw [trM_e e27]
    obtain ⟨⟨-, g0, g1, -⟩, -, hY, -⟩ := hI.ip (hI.pe.mp hc.1)
    rw [g0]
    unfold trM
    exact ⟨fun y j j0 j1 => (ri_eq hY j0 j1).mp (y j j0 j1), fun y j j0 j1 => (ri_eq hY j0 j1).mpr (y j j0 j1)⟩
set_option maxHeartbeats 4000000 in
theorem sim_sew {S S1 S2 : St} {ad ad1 ad2 : Nat → Nat → Nat} {r1 r2 : Option Value} {x q : Int} (hI : Inv S) (hrn : rng x) (hrn2 : rng q) (h1 : lhP ad (peC S x ∧ (1 ≤ q ∧ q < S (10 + x.toNat) 0 0)) (dnC S (10 + x.toNat)) (True) S (st (st S (10 + x.toNat) 9 q 1) 3 1 0 (b2 (slC S (10 + x.toNat) q))) r1 ad1 S1) (h2 : (mP ad1 (inM S1 x q) ((inM S1 x q) ∧ (dnM S1 x)) (True) S1 (some (.int (i32 (b2 (slM (st S1 0 0 27 (thr (inM S1 x q) ((inM S1 x q) ∧ (dnM S1 x)) (True))) x q))))) (fun Z => Z = st (st S1 0 0 27 (thr (inM S1 x q) ((inM S1 x q) ∧ (dnM S1 x)) (True))) 0 24 ((24 * x) + q) 1)) r2 ad2 S2) : GdB ad (thr (peC S x ∧ (1 ≤ q ∧ q < S (10 + x.toNat) 0 0)) (dnC S (10 + x.toNat)) (True)) r2 ad2 S2 := by
  have e0 := lhP_0 h1 zk_sew.1
  have ek := (lhP_k h1).2
  have hk : thr (inM S1 x q) (inM S1 x q ∧ dnM S1 x) True = thr (peC S x ∧ (1 ≤ q ∧ q < S (10 + x.toNat) 0 0)) (dnC S (10 + x.toNat)) True := by
    have hA : peC S x ∧ (1 ≤ q ∧ q < S (10 + x.toNat) 0 0) ↔ inM S x q := by
      unfold inM
      rw [hI.pe]
      refine and_congr_right (fun y => ?_)
      obtain ⟨⟨-, g0, -⟩, -⟩ := hI.ip y
      rw [g0]
      omega
    rw [propext (inM_e e0 x q), propext (dnM_e e0 x)]
    exact thr_c hA (fun y => by rw [hI.dn (hI.pe.mp y.1)]; exact ⟨fun u => ⟨hA.mp y, u⟩, fun u => u.2⟩) (fun _ _ => Iff.rfl)
  rcases h1.2 with ⟨hn, ha, hs⟩ | ⟨hc, ha, hs⟩
  · rw [ha, hs] at h2
    rw [hs] at hk
    exact sim_nb hI hk hn h2
  · obtain ⟨h3, h4, h5⟩ := mP_y (hk.trans (thr_z.mpr hc)) h2
    rw [h3]
    rw [hk] at h4 h5
    have hx := hI.pe.mp hc.1.1
    have hx20 := hI.x20 hx
    have hq := hc.1.2
    obtain ⟨hR, hX, hY, hQ⟩ := hI.ip hx
    have hp := hI.m.pc x hx20.1 hx20.2
    obtain ⟨ga, g0, g1, g2, hW, hH, -⟩ := id hR
    rw [g0] at hq
    have hsl : b2 (slC S (10 + x.toNat) q) = b2 (slM S x q) := b2_c (sl_eq hR hX hY hq.1 hq.2)
    generalize thr (peC S x ∧ (1 ≤ q ∧ q < S (10 + x.toNat) 0 0)) (dnC S (10 + x.toNat)) True = T at h4 h5 ⊢
    rw [hs] at h4 h5
    rw [hsl] at h4 h5
    generalize hV : b2 (slM S x q) = V at h4 h5 hsl
    have qq : ∀ (a b : Nat) (i : Int), S2 a b i = if a = 0 ∧ b = 24 ∧ i = 24 * x + q then 1 else if a = 0 ∧ b = 0 ∧ i = 27 then T else if a = 3 ∧ b = 1 ∧ i = 0 then V else if a = 10 + x.toNat ∧ b = 9 ∧ i = q then 1 else S a b i := by
      intro a b i
      rw [h5, st_at, st_at, st_at, st_at]
    refine ⟨⟨_, h4, fun _ => ?_⟩, by rw [qq 0 0 27, if_neg (by omega), if_pos ⟨rfl, rfl, rfl⟩], ?_, ek⟩
    · rw [qq 3 1 0, if_neg (by omega), if_neg (by omega), if_pos ⟨rfl, rfl, rfl⟩]
      refine hV.symm.trans (b2_c ?_)
      unfold slM unM
      have e : ∀ r, r ≠ 0 → r ≠ 24 ∨ True → (st (st (st S (10 + x.toNat) 9 q 1) 3 1 0 V) 0 0 27 T) 0 r = S 0 r := fun r z _ => by
        funext i
        rw [st_at, if_neg (by omega), st_at, if_neg (by omega), st_at, if_neg (by omega)]
      rw [e 17 (by decide) (Or.inr trivial), e 24 (by decide) (Or.inr trivial), e 25 (by decide) (Or.inr trivial)]
    · have hL : lgr S S2 := lgr_e (fun b i z => by rw [qq, if_neg (by omega), if_neg (by omega), if_neg (by omega), if_neg (by omega)])
      refine ⟨hI.m.keep (fun r j z => by unfold wrow at z; rw [qq, if_neg (by omega), if_neg (by omega), if_neg (by omega), if_neg (by omega)]), ⟨by rw [qq, if_neg (by omega), if_neg (by omega), if_neg (by omega), if_neg (by omega)]; exact hI.a1, by rw [qq, if_neg (by omega), if_neg (by omega), if_neg (by omega), if_neg (by omega)]; exact hI.a2, by rw [qq, if_neg (by omega), if_neg (by omega), if_neg (by omega), if_neg (by omega)]; exact hI.a3⟩, iW_keep hI.w (fun a b i z => by rw [qq, if_neg (by omega), if_neg (by omega), if_neg (by omega), if_neg (by omega)]), iCs_keep hI.c hI.m (fun a b i z => by rw [qq, if_neg (by omega), if_neg (by omega), if_neg (by omega), if_neg (by omega)]), iL_keep hI.l (fun a b i z => by rw [qq, if_neg (by omega), if_neg (by omega), if_neg (by omega), if_neg (by omega)]), iPs_one (x := x) hI.p hI.m hL (fun a b i z => by rw [qq, if_neg (by omega), if_neg (by omega), if_neg (by omega), if_neg (by omega)]) hx ?_⟩
      refine ⟨pR_keep hR (fun b i z => by rw [qq, if_neg (by omega), if_neg (by omega), if_neg (by omega), if_neg (by omega)]) (fun b i z => by rw [qq, if_neg (by omega), if_neg (by omega), if_neg (by omega), if_neg (by omega)]), pX_keep hX ⟨hW.2, hH.2⟩ (fun b i z => by rw [qq, if_neg (by omega), if_neg (by omega), if_neg (by omega), if_neg (by omega)]) (fun b i z => by rw [qq, if_neg (by omega), if_neg (by omega), if_neg (by omega), if_neg (by omega)]) hL, fun c c0 c1 => ?_, pQ_keep hQ hp.2.2.2.2.2.1 ⟨hW.1, hW.2, hH.2⟩ (fun b i z => by rw [qq, if_neg (by omega), if_neg (by omega), if_neg (by omega), if_neg (by omega)])⟩
      rw [qq 0 16 x, if_neg (by omega), if_neg (by omega), if_neg (by omega), if_neg (by omega)] at c1
      obtain ⟨y1, y2, y3, y4⟩ := hY c c0 c1
      rw [qq _ 8, if_neg (by omega), if_neg (by omega), if_neg (by omega), if_neg (by omega), qq 0 22, if_neg (by omega), if_neg (by omega), if_neg (by omega), if_neg (by omega), qq 0 23, if_neg (by omega), if_neg (by omega), if_neg (by omega), if_neg (by omega)]
      refine ⟨?_, y2, y3, y4⟩
      by_cases hcq : c = q
      · rw [hcq, qq (10 + x.toNat) 9 q, if_neg (by omega), if_neg (by omega), if_neg (by omega), if_pos ⟨rfl, rfl, rfl⟩, qq 0 24 (24 * x + q), if_pos ⟨rfl, rfl, rfl⟩]
      · rw [qq (10 + x.toNat) 9 c, if_neg (by omega), if_neg (by omega), if_neg (by omega), if_neg (by omega), qq 0 24 (24 * x + c), if_neg (by omega), if_neg (by omega), if_neg (by omega), if_neg (by omega)]
        exact y1
set_option maxHeartbeats 4000000 in
theorem sim_match {S S1 S2 : St} {ad ad1 ad2 : Nat → Nat → Nat} {r1 r2 : Option Value} {x z : Int} (hI : Inv S) (hrn : rng x) (hrn2 : rng z) (h1 : lhP ad (peC S x ∧ peC S z) (x ≠ z) (dnC S (10 + x.toNat) ∧ dnC S (10 + z.toNat)) S (st (S) 3 1 0 (wr (mtC S (10 + x.toNat) (10 + z.toNat)))) r1 ad1 S1) (h2 : (mP ad1 ((isP S1 x) ∧ (isP S1 z)) (x ≠ z) (((isP S1 x) ∧ (isP S1 z)) ∧ (dnM S1 x) ∧ (dnM S1 z)) S1 (some (.int (i32 (mcM S1 x z)))) (fun Z => Z = (st S1 0 0 27 (thr ((isP S1 x) ∧ (isP S1 z)) (x ≠ z) (((isP S1 x) ∧ (isP S1 z)) ∧ (dnM S1 x) ∧ (dnM S1 z)))))) r2 ad2 S2) : Gd ad (thr (peC S x ∧ peC S z) (x ≠ z) (dnC S (10 + x.toNat) ∧ dnC S (10 + z.toNat))) r2 ad2 S2 := by
  have e0 := lhP_0 h1 zk_match.1
  have ek := (lhP_k h1).2
  have hk : thr (isP S1 x ∧ isP S1 z) (x ≠ z) ((isP S1 x ∧ isP S1 z) ∧ dnM S1 x ∧ dnM S1 z) = thr (peC S x ∧ peC S z) (x ≠ z) (dnC S (10 + x.toNat) ∧ dnC S (10 + z.toNat)) := by
    refine thr_c (by rw [isP_e e0, isP_e e0, hI.pe, hI.pe]) (fun _ => Iff.rfl) (fun y _ => ?_)
    have hx := hI.pe.mp y.1
    have hz := hI.pe.mp y.2
    rw [isP_e e0, isP_e e0, dnM_e e0, dnM_e e0, hI.dn hx, hI.dn hz]
    exact ⟨fun u => ⟨⟨hx, hz⟩, u⟩, fun u => u.2⟩
  rcases h1.2 with ⟨hn, ha, hs⟩ | ⟨hc, ha, hs⟩
  · rw [ha, hs] at h2
    rw [hs] at hk
    exact sim_no hI hk hn h2
  · obtain ⟨h3, h4, h5⟩ := mP_y (hk.trans (thr_z.mpr hc)) h2
    rw [h3]
    rw [hk] at h5
    rw [hs] at h4 h5
    have q : ∀ (a b : Nat) (i : Int), ¬ (a = 0 ∧ b = 0 ∧ i = 27) → ¬ (a = 3 ∧ b = 1 ∧ i = 0) → S2 a b i = S a b i := fun a b i z1 z2 => by rw [h5, st_at, if_neg z1, st_at, if_neg z2]
    refine ⟨⟨_, h4, fun _ => ?_⟩, by rw [h5, st_at, if_pos ⟨rfl, rfl, rfl⟩], hI.keep (fun a b i h => q a b i (by omega) (by omega)), ek⟩
    rw [h5, st_at, if_neg (by omega), st_at, if_pos ⟨rfl, rfl, rfl⟩]
    rw [← hs]
    unfold mcM mtC
    rw [e0]
    congr 1
    obtain ⟨⟨-, g0, g1, -, hW, hH, -⟩, hX, -⟩ := hI.ip (hI.pe.mp hc.1.1)
    obtain ⟨⟨-, k0, k1, -, kW, kH, -⟩, kX, -⟩ := hI.ip (hI.pe.mp hc.1.2)
    rw [g1, k1]
    by_cases hh : S 0 17 x = S 0 17 z
    · rw [cif_t hh, cif_t hh]
      unfold mcC
      rw [g0, g1]
      refine sm_c (fun r r0 r1 => ?_)
      rw [(hX (S 0 16 x - 1) r (by omega) (by omega) r0 (by omega)).2.1, (kX 0 r (by omega) (by omega) r0 (by omega)).2.1]
    · rw [cif_f hh, cif_f hh]
set_option maxHeartbeats 4000000 in
theorem sim_likeness {S S1 S2 : St} {ad ad1 ad2 : Nat → Nat → Nat} {r1 r2 : Option Value} {x z : Int} (hI : Inv S) (hrn : rng x) (hrn2 : rng z) (h1 : lhP ad (peC S x ∧ ceC S z) (True) (True) S (st (S) 3 1 0 (wr (lnC S (10 + x.toNat) (4 + z.toNat)))) r1 ad1 S1) (h2 : (mP ad1 ((isP S1 x) ∧ (isC S1 z)) (True) (True) S1 (some (.int (i32 (lkM (st S1 0 0 27 (thr ((isP S1 x) ∧ (isC S1 z)) (True) (True))) x z)))) (fun Z => Z = (st S1 0 0 27 (thr ((isP S1 x) ∧ (isC S1 z)) (True) (True))))) r2 ad2 S2) : Gd ad (thr (peC S x ∧ ceC S z) (True) (True)) r2 ad2 S2 := by
  have e0 := lhP_0 h1 zk_likeness.1
  have ek := (lhP_k h1).2
  have hk : thr (isP S1 x ∧ isC S1 z) True True = thr (peC S x ∧ ceC S z) True True := thr_c (by rw [isP_e e0, isC_e e0, hI.pe, hI.ce]) (fun _ => Iff.rfl) (fun _ _ => Iff.rfl)
  rcases h1.2 with ⟨hn, ha, hs⟩ | ⟨hc, ha, hs⟩
  · rw [ha, hs] at h2
    rw [hs] at hk
    exact sim_no hI hk hn h2
  · obtain ⟨h3, h4, h5⟩ := mP_y (hk.trans (thr_z.mpr hc)) h2
    rw [h3]
    rw [hk] at h4 h5
    rw [hs] at h4 h5
    have q : ∀ (a b : Nat) (i : Int), ¬ (a = 0 ∧ b = 0 ∧ i = 27) → ¬ (a = 3 ∧ b = 1 ∧ i = 0) → S2 a b i = S a b i := fun a b i z1 z2 => by rw [h5, st_at, if_neg z1, st_at, if_neg z2]
    refine ⟨⟨_, h4, fun _ => ?_⟩, by rw [h5, st_at, if_pos ⟨rfl, rfl, rfl⟩], hI.keep (fun a b i h => q a b i (by omega) (by omega)), ek⟩
    rw [h5, st_at, if_neg (by omega), st_at, if_pos ⟨rfl, rfl, rfl⟩]
    rw [lkM_e e27]
    congr 1
    unfold lkM lnC
    have hz := hI.ce.mp hc.1.2
    have hC := hI.c.2.2.1 z hz.1 hz.2
    obtain ⟨⟨-, g0, g1, -, hW, hH, -⟩, hX, -⟩ := hI.ip (hI.pe.mp hc.1.1)
    have k0 := hC.2.1
    have k1 := hC.2.2.1
    have kw := hC.1.2.1
    rw [g0, g1, k0, k1]
    rw [k0] at kw
    by_cases hh : S 0 16 x = S 0 4 z ∧ S 0 17 x = S 0 5 z
    · rw [cif_t hh, cif_t ⟨hh.2, hh.1⟩]
      have eA : lkC S (10 + x.toNat) (4 + z.toNat) False = lkA S x z := by
        refine (cells_eq g0 g1 (by omega) (by omega) (fun r c => b2 (S (10 + x.toNat) 5 (r * 24 + c) = dcF S (4 + z.toNat) r (cif False (S (4 + z.toNat) 0 0 - 1 - c) c))) (fun r c => b2 (S 0 25 (240 * x + 10 * c + r) = drM S z r c)) (fun r c r0 r1 c0 c1 => ?_))
        rw [cif_f not_false, (hX c r c0 c1 r0 r1).1, dc_eq hC r0 (by omega) c0 (by omega)]
      have eB : lkC S (10 + x.toNat) (4 + z.toNat) True = lkB S x z := by
        refine (cells_eq g0 g1 (by omega) (by omega) (fun r c => b2 (S (10 + x.toNat) 5 (r * 24 + c) = dcF S (4 + z.toNat) r (cif True (S (4 + z.toNat) 0 0 - 1 - c) c))) (fun r c => b2 (S 0 25 (240 * x + 10 * c + r) = drM S z r (S 0 16 x - 1 - c))) (fun r c r0 r1 c0 c1 => ?_))
        rw [cif_t trivial, (hX c r c0 c1 r0 r1).1, k0, dc_eq hC r0 (by omega) (by omega) (by omega), hh.1]
      rw [eA, eB]
    · rw [cif_f hh, cif_f (fun y => hh ⟨y.2, y.1⟩)]
