/-! ===== references put into arrays ===== -/
section QA
variable {p : Program} {l : Launch} {e : Env} {R : Room} {s : State} {m : MethodId} {args : Array Value} {below : List Frame} {meth : Method} {c : Code} {H : Heap} {locs : List Loc} {cells slots : Nat} {Q : State → Prop}
variable {cc : ByteArray} {pc : Nat} {ls : Array Slot} {rest st0 : List Value} {g : GT} {base : Nat} {ad : Nat → Nat → Nat} {S : St} {own : String}
theorem p_aastC (hx : p.tables.exec = Jvm.exec) (hb : c.code = cc) (hK : KK g s) (hP : pic g base ad S H) (hS : va_S (fun q => base ≤ q) s.heap H locs) {o r k n : Nat} (hal : S o 0 (-1) = 1) (hk : kd o = k) (ha : arK k r = some (3, n)) (hr : r ≠ 0) (hn : n < 2147483648) {z : Int} (h0 : 0 ≤ z) (h1 : z < n) (hal2 : S (4 + z.toNat) 0 (-1) = 1) (hk2 : kd (4 + z.toNat) = 4) (hdg : decode cc pc = .ok (.aastore, 1))
    (kk : ∀ (H1 : Heap) (locs1 : List Loc), pic g base ad (st S o r z 1) H1 → va_S (fun q => base ≤ q) s.heap H1 locs1 → W p l e R s m args below meth c H1 locs1 cells slots Q (F0 m (pc + 1) ls rest)) : W p l e R s m args below meth c H locs cells slots Q (F0 m pc ls (.ref (ad (4 + z.toNat) 0) :: .int (i32 z) :: .ref (ad o r) :: rest)) := by
  have hA := p_arr hP hal hk ha hr
  have hok : okr k r = true := by unfold okr; rw [ha]; simp
  have hba : base ≤ ad o r := (hP.1 o r hal (hk ▸ hok)).2
  have hV := hP.one hal2 hk2 (r := 0) rfl (x := .inr (0, fldsK 4 ad (4 + z.toNat) (S (4 + z.toNat) 0))) (by rfl)
  obtain ⟨r', hr', cellV, g1, g2, g3, -⟩ := hV 0 _ rfl
  have hcls := (hK.1.1 0 _ rfl).2
  obtain ⟨kA, comp, k1, k2, k3, -⟩ := (hK.1.2 2 _ rfl).2
  have hcomp : comp = g.1.1 0 := Option.some.inj (k3.symm.trans hcls.1)
  subst hcomp
  obtain ⟨kC, hkC, -⟩ := hcls.2
  have hz : (i32 z).toNatClampNeg < n := Nat.not_le.mp fun q => i32_in h0 h1 hn (Or.inr q)
  have hz0 : ¬ i32 z < 0 := fun q => i32_in h0 h1 hn (Or.inl q)
  refine W.aast hx hb (hA 0 _ rfl) (fun q h => by cases h) (fun h => by cases h) k1 k2 rfl hkC ⟨hz0, by show _ < (arrV _ _ _).slots.size; rw [arrV_size]; exact hz⟩ g1 (fun q h => by rw [g3] at h; cases h) (by rw [g2]; exact hkC) (by rw [g2]; exact va_assign hcls) rfl rfl hdg fun H1 e9 z9 oq => ?_
  refine kk H1 _ (hP.put hal hk hok h0 (by exact ⟨by decide, by decide⟩) ?_ z9 oq) (hS.put z9 oq hba)
  have : cellK g ad k o r (ud (S o r) z 1) = arCell g ad (ud (S o r) z 1) (3, n) := by unfold cellK; rw [if_neg hr, ha]
  rw [this]
  show H1[ad o r]? = some (vp_cell _ _)
  rw [e9]
  show some ((vp_cell g.2.2.2.1 (n, .inr (.inr (.inr (.inr (fun j => if S o r j = 1 then some (ad (4 + j) 0) else none)))))).setSlot _ _) = some (vp_cell g.2.2.2.1 (n, .inr (.inr (.inr (.inr (fun j : Nat => if ud (S o r) z 1 j = 1 then some (ad (4 + j) 0) else none))))))
  rw [vp_cell_q, vp_cell_q, arrV_store, i32_clamp h0 (by omega)]
  congr 2
  funext q
  unfold updV ud
  by_cases hq : q = z.toNat
  · subst hq
    rw [if_pos rfl, if_pos (Int.toNat_of_nonneg h0), if_pos rfl]
    rfl
  · rw [if_neg hq, if_neg (show ¬ ((q : Int) = z) from by omega)]
theorem p_aastP (hx : p.tables.exec = Jvm.exec) (hb : c.code = cc) (hK : KK g s) (hP : pic g base ad S H) (hS : va_S (fun q => base ≤ q) s.heap H locs) {o r k n : Nat} (hal : S o 0 (-1) = 1) (hk : kd o = k) (ha : arK k r = some (4, n)) (hr : r ≠ 0) (hn : n < 2147483648) {z : Int} (h0 : 0 ≤ z) (h1 : z < n) (hal2 : S (10 + z.toNat) 0 (-1) = 1) (hk2 : kd (10 + z.toNat) = 5) (hdg : decode cc pc = .ok (.aastore, 1))
    (kk : ∀ (H1 : Heap) (locs1 : List Loc), pic g base ad (st S o r z 1) H1 → va_S (fun q => base ≤ q) s.heap H1 locs1 → W p l e R s m args below meth c H1 locs1 cells slots Q (F0 m (pc + 1) ls rest)) : W p l e R s m args below meth c H locs cells slots Q (F0 m pc ls (.ref (ad (10 + z.toNat) 0) :: .int (i32 z) :: .ref (ad o r) :: rest)) := by
  have hA := p_arr hP hal hk ha hr
  have hok : okr k r = true := by unfold okr; rw [ha]; simp
  have hba : base ≤ ad o r := (hP.1 o r hal (hk ▸ hok)).2
  have hV := hP.one hal2 hk2 (r := 0) rfl (x := .inr (2, fldsK 5 ad (10 + z.toNat) (S (10 + z.toNat) 0))) (by rfl)
  obtain ⟨r', hr', cellV, g1, g2, g3, -⟩ := hV 0 _ rfl
  have hcls := (hK.1.1 2 _ rfl).2
  obtain ⟨kA, comp, k1, k2, k3, -⟩ := (hK.1.2 3 _ rfl).2
  have hcomp : comp = g.1.1 2 := Option.some.inj (k3.symm.trans hcls.1)
  subst hcomp
  obtain ⟨kC, hkC, -⟩ := hcls.2
  have hz : (i32 z).toNatClampNeg < n := Nat.not_le.mp fun q => i32_in h0 h1 hn (Or.inr q)
  have hz0 : ¬ i32 z < 0 := fun q => i32_in h0 h1 hn (Or.inl q)
  refine W.aast hx hb (hA 0 _ rfl) (fun q h => by cases h) (fun h => by cases h) k1 k2 rfl hkC ⟨hz0, by show _ < (arrV _ _ _).slots.size; rw [arrV_size]; exact hz⟩ g1 (fun q h => by rw [g3] at h; cases h) (by rw [g2]; exact hkC) (by rw [g2]; exact va_assign hcls) rfl rfl hdg fun H1 e9 z9 oq => ?_
  refine kk H1 _ (hP.put hal hk hok h0 (by exact ⟨by decide, by decide⟩) ?_ z9 oq) (hS.put z9 oq hba)
  have : cellK g ad k o r (ud (S o r) z 1) = arCell g ad (ud (S o r) z 1) (4, n) := by unfold cellK; rw [if_neg hr, ha]
  rw [this]
  show H1[ad o r]? = some (vp_cell _ _)
  rw [e9]
  show some ((vp_cell g.2.2.2.2 (n, .inr (.inr (.inr (.inr (fun j => if S o r j = 1 then some (ad (10 + j) 0) else none)))))).setSlot _ _) = some (vp_cell g.2.2.2.2 (n, .inr (.inr (.inr (.inr (fun j : Nat => if ud (S o r) z 1 j = 1 then some (ad (10 + j) 0) else none))))))
  rw [vp_cell_q, vp_cell_q, arrV_store, i32_clamp h0 (by omega)]
  congr 2
  funext q
  unfold updV ud
  by_cases hq : q = z.toNat
  · subst hq
    rw [if_pos rfl, if_pos (Int.toNat_of_nonneg h0), if_pos rfl]
    rfl
  · rw [if_neg hq, if_neg (show ¬ ((q : Int) = z) from by omega)]
/-- null is put into the array of pieces -/
theorem p_aastN (hx : p.tables.exec = Jvm.exec) (hb : c.code = cc) (hK : KK g s) (hP : pic g base ad S H) (hS : va_S (fun q => base ≤ q) s.heap H locs) {o r k n : Nat} (hal : S o 0 (-1) = 1) (hk : kd o = k) (ha : arK k r = some (4, n)) (hr : r ≠ 0) (hn : n < 2147483648) {z : Int} (h0 : 0 ≤ z) (h1 : z < n) (hdg : decode cc pc = .ok (.aastore, 1))
    (kk : ∀ (H1 : Heap) (locs1 : List Loc), pic g base ad (st S o r z 0) H1 → va_S (fun q => base ≤ q) s.heap H1 locs1 → W p l e R s m args below meth c H1 locs1 cells slots Q (F0 m (pc + 1) ls rest)) : W p l e R s m args below meth c H locs cells slots Q (F0 m pc ls (.null :: .int (i32 z) :: .ref (ad o r) :: rest)) := by
  have hA := p_arr hP hal hk ha hr
  have hok : okr k r = true := by unfold okr; rw [ha]; simp
  have hba : base ≤ ad o r := (hP.1 o r hal (hk ▸ hok)).2
  refine va_WaastN (C := RX2) hx hb (hA 0 _ rfl) ((hK.1.2 3 _ rfl).1 n (fun j => va_rf (if S o r j = 1 then some (ad (10 + j) 0) else none))) (fun h => by cases h) (by show ¬ (_ ∨ (arrV _ _ _).slots.size ≤ _); rw [arrV_size]; exact i32_in h0 h1 hn) rfl rfl hdg fun H1 e9 z9 oq => ?_
  refine kk H1 _ (hP.put hal hk hok h0 (by exact ⟨by decide, by decide⟩) ?_ z9 oq) (hS.put z9 oq hba)
  have : cellK g ad k o r (ud (S o r) z 0) = arCell g ad (ud (S o r) z 0) (4, n) := by unfold cellK; rw [if_neg hr, ha]
  rw [this]
  show H1[ad o r]? = some (vp_cell _ _)
  rw [e9]
  show some ((vp_cell g.2.2.2.2 (n, .inr (.inr (.inr (.inr (fun j => if S o r j = 1 then some (ad (10 + j) 0) else none)))))).setSlot _ _) = some (vp_cell g.2.2.2.2 (n, .inr (.inr (.inr (.inr (fun j : Nat => if ud (S o r) z 0 j = 1 then some (ad (10 + j) 0) else none))))))
  rw [vp_cell_q, vp_cell_q, arrV_store, i32_clamp h0 (by omega)]
  congr 2
  funext q
  unfold updV ud
  by_cases hq : q = z.toNat
  · subst hq
    rw [if_pos rfl, if_pos (Int.toNat_of_nonneg h0), if_neg (by decide)]
    rfl
  · rw [if_neg hq, if_neg (show ¬ ((q : Int) = z) from by omega)]
end QA
