/-! ===== objects in the making: their cells beside the picture ===== -/
section QN
variable {p : Program} {l : Launch} {e : Env} {R : Room} {s : State} {m : MethodId} {args : Array Value} {below : List Frame} {meth : Method} {c : Code} {H : Heap} {locs : List Loc} {cells slots : Nat} {Q : State → Prop}
variable {cc : ByteArray} {pc : Nat} {ls : Array Slot} {rest st0 : List Value} {g : GT} {base : Nat} {ad : Nat → Nat → Nat} {S : St} {own : String} {ws : va_W}
def frs (base : Nat) (ad : Nat → Nat → Nat) (S : St) : Nat → Prop := fun q => base ≤ q ∧ ∀ o r, S o 0 (-1) = 1 → okr (kd o) r = true → ad o r ≠ q
def piw (g : GT) (base : Nat) (ad : Nat → Nat → Nat) (S : St) (ws : va_W) (H : Heap) : Prop := pic g base ad S H ∧ va_P g.1 vwCl ws H ∧ va_D (frs base ad S) ws
theorem pic.keepAt (hP : pic g base ad S H) {a : Nat} {H1 : Heap} (hz : H1.size = H.size) (oq : ∀ q : Nat, q ≠ a → H1[q]? = H[q]?) (ha : ∀ o r, S o 0 (-1) = 1 → okr (kd o) r = true → ad o r ≠ a) : pic g base ad S H1 :=
  ⟨fun o r h1 h2 => ⟨(hP.1 o r h1 h2).1.kept (oq _ (ha o r h1 h2)), (hP.1 o r h1 h2).2⟩, hP.2.1, by rw [hz]; exact hP.2.2.1, hP.2.2.2⟩
theorem pic.fresh (hP : pic g base ad S H) : frs base ad S H.size := ⟨hP.2.2.1, fun o r h1 h2 h => Nat.lt_irrefl _ (h ▸ (hP.1 o r h1 h2).1.lt)⟩
theorem pic.piw (hP : pic g base ad S H) : piw g base ad S [] H := ⟨hP, fun k q h => (nomatch h), fun i j p q h => (nomatch h), fun k q h => (nomatch h)⟩
theorem piw.push (hW : piw g base ad S ws H) {x : va_E} {H1 : Heap} (z1 : H1.size = H.size + 1) (o1 : ∀ q : Nat, q < H.size → H1[q]? = H[q]?) (he : va_at g.1 vwCl (H.size, x) H1) : piw g base ad S (ws ++ [(H.size, x)]) H1 := by
  obtain ⟨hP, hV, hD⟩ := hW
  refine ⟨hP.grow (by omega) o1, (hV.kept (fun k x hx => o1 x.1 ((hV k x hx).lt))).app (fun k x hx => ?_), hD.push hV rfl hP.fresh⟩
  have hz : k < 1 := (List.getElem?_eq_some_iff.mp hx).1
  rw [show k = 0 by omega] at hx
  cases hx
  exact he
theorem vaS_push {A : Nat → Prop} (hS : va_S A s.heap H locs) {H1 : Heap} (z1 : H1.size = H.size + 1) (o1 : ∀ q : Nat, q < H.size → H1[q]? = H[q]?) : va_S A s.heap H1 locs :=
  ⟨Nat.le_trans hS.1 (by omega), fun x h1 h2 => (o1 x (Nat.lt_of_lt_of_le h1 hS.1)).trans (hS.2.1 x h1 h2), hS.2.2⟩
theorem KK.arr (hK : KK g s) {ty : FieldType} (h : Cond.arrayClass ty ∈ lw_tbl) : (Cond.arrayClass ty).before args s = true := by
  have := hK.2.2.2.1 ty h
  simp only [Cond.before, Cond.holds, Cond.value] at this ⊢
  exact this
theorem w_newI (hx : p.tables.exec = Jvm.exec) (hb : c.code = cc) (hK : KK g s) (hW : piw g base ad S ws H) (hS : va_S (fun q => base ≤ q) s.heap H locs) {n : Int32} {N : Nat} (hn : ¬ n < 0) (hN : n.toNatClampNeg = N) (hN2 : N ≤ 5000) (hcells : cells + 1 ≤ R.cells) (hslots : slots + N ≤ R.slots) (harr : Cond.arrayClass .int ∈ lw_tbl) (hdg : decode cc pc = .ok (.newarray .int, 2))
    (kk : ∀ (q : Nat) (H1 : Heap), piw g base ad S (ws ++ [(q, arCell g ad (fun _ => 0) (0, N))]) H1 → va_S (fun q => base ≤ q) s.heap H1 locs → W p l e R s m args below meth c H1 locs (cells + 1) (slots + N) Q (F0 m (pc + 2) ls (.ref q :: rest))) : W p l e R s m args below meth c H locs cells slots Q (F0 m pc ls (.int n :: rest)) := by
  refine va_newaK (atype := .int) hx hb (hK.arr harr) rfl hdg rfl hn hN (by show N * 4 ≤ _; omega) hcells hslots rfl fun H1 cA e1 z1 o1 hAr hNm => ?_
  have hc : cA = g.2.1 := Option.some.inj (hNm.symm.trans (hK.1.2 0 _ rfl).2)
  subst hc
  refine kk H.size H1 (hW.push z1 o1 ?_) (vaS_push hS z1 o1)
  show H1[H.size]? = some (vp_cell g.2.1 (N, .inl (fun _ => i32 0)))
  rw [e1]
  rfl
theorem w_newZ (hx : p.tables.exec = Jvm.exec) (hb : c.code = cc) (hK : KK g s) (hW : piw g base ad S ws H) (hS : va_S (fun q => base ≤ q) s.heap H locs) {n : Int32} {N : Nat} (hn : ¬ n < 0) (hN : n.toNatClampNeg = N) (hN2 : N ≤ 5000) (hcells : cells + 1 ≤ R.cells) (hslots : slots + N ≤ R.slots) (harr : Cond.arrayClass .boolean ∈ lw_tbl) (hdg : decode cc pc = .ok (.newarray .boolean, 2))
    (kk : ∀ (q : Nat) (H1 : Heap), piw g base ad S (ws ++ [(q, arCell g ad (fun _ => 0) (1, N))]) H1 → va_S (fun q => base ≤ q) s.heap H1 locs → W p l e R s m args below meth c H1 locs (cells + 1) (slots + N) Q (F0 m (pc + 2) ls (.ref q :: rest))) : W p l e R s m args below meth c H locs cells slots Q (F0 m pc ls (.int n :: rest)) := by
  refine va_newaK (atype := .boolean) hx hb (hK.arr harr) rfl hdg rfl hn hN (by show N * 1 ≤ _; omega) hcells hslots rfl fun H1 cA e1 z1 o1 hAr hNm => ?_
  have hc : cA = g.2.2.1 := Option.some.inj (hNm.symm.trans (hK.1.2 1 _ rfl).2)
  subst hc
  refine kk H.size H1 (hW.push z1 o1 ?_) (vaS_push hS z1 o1)
  show H1[H.size]? = some (vp_cell g.2.2.1 (N, .inl (fun _ => i32 0)))
  rw [e1]
  rfl
end QN
