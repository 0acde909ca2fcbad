/-! ===== the law's own rows ===== -/
def zs (xs : Nat → Int32) (j : Int) : Int := (xs j.toNat).toInt
theorem zs_r (xs : Nat → Int32) (j : Int) : rng (zs xs j) := ⟨by have := (xs j.toNat).le_toInt; unfold zs; omega, by have := (xs j.toNat).toInt_lt; unfold zs; omega⟩
def chz (z : Int) : Int := (((i32 z).toUInt32 % 65536).toInt32).toInt
theorem chz_r (z : Int) : rng (chz z) := ⟨by have := (((i32 z).toUInt32 % 65536).toInt32).le_toInt; unfold chz; omega, by have := (((i32 z).toUInt32 % 65536).toInt32).toInt_lt; unfold chz; omega⟩
theorem chz_i (z : Int) : ((i32 z).toUInt32 % 65536).toInt32 = i32 (chz z) := (Int32.ofInt_toInt _).symm
theorem lhP_k {ad ad' : Nat → Nat → Nat} {A B C : Prop} {S Z S' : St} {r : Option Value} (h : lhP ad A B C S Z r ad' S') : r = some (.int (i32 (thr A B C))) ∧ ∀ x q, x < 4 → ad' x q = ad x q :=
  ⟨h.1, by
    rcases h.2 with ⟨-, q, -⟩ | ⟨-, q, -⟩
    · intro x y _; rw [q]
    · exact q⟩
theorem lhP_0 {ad ad' : Nat → Nat → Nat} {A B C : Prop} {S Z S' : St} {r : Option Value} (h : lhP ad A B C S Z r ad' S') (hz : Z 0 = S 0) : S' 0 = S 0 := by
  rcases h.2 with ⟨-, -, q⟩ | ⟨-, -, q⟩
  · rw [q]
  · rw [q]; exact hz
theorem lhP_3 {ad ad' : Nat → Nat → Nat} {A B C : Prop} {S Z S' : St} {r : Option Value} (h : lhP ad A B C S Z r ad' S') (hz : Z 3 0 (-1) = S 3 0 (-1)) : S' 3 0 (-1) = S 3 0 (-1) := by
  rcases h.2 with ⟨-, -, q⟩ | ⟨-, -, q⟩
  · rw [q]
  · rw [q]; exact hz
theorem Inv.hla {S : St} (h : Inv S) : ∀ j, 0 ≤ j → j < 20 → 0 ≤ S 0 12 j ∧ S 0 12 j ≤ 999 := fun j h0 h1 => (h.l.2 j h0 h1).2.2.2.2.2.2.2.1
theorem Inv.hla2 {S : St} (h : Inv S) : ∀ j, 0 ≤ j → j < 20 → 0 ≤ S 0 11 j ∧ S 0 11 j ≤ 999 ∧ 0 ≤ S 0 12 j ∧ S 0 12 j ≤ 999 := fun j h0 h1 => by
  obtain ⟨-, -, -, -, -, -, q1, q2, -⟩ := h.l.2 j h0 h1
  exact ⟨q1.1, q1.2, q2.1, q2.2⟩
theorem Inv.hfd {S : St} (h : Inv S) : ∀ j, 0 ≤ j → j < 20 → 0 ≤ S 0 13 j ∧ S 0 13 j ≤ 9 := fun j h0 h1 => (h.l.2 j h0 h1).2.2.2.2.2.2.2.2.1
theorem Inv.hfc {S : St} (h : Inv S) : ∀ j, 0 ≤ j → j < 480 → 0 ≤ S 0 23 j ∧ S 0 23 j ≤ 24 := h.p.2.2.2.2
theorem Inv.hcl {S : St} (h : Inv S) : ∀ a1, isP S a1 → 1 ≤ S 0 16 a1 := fun x q => (h.ip q).1.2.2.2.2.1.1
theorem Inv.alw {S : St} (h : Inv S) {x : Int} (q : isP S x) (hd : dnM S x) : ∀ c r, 0 ≤ c → c < S 0 16 x → 0 ≤ r → r < S 0 17 x → 0 ≤ S 0 26 (240 * x + 10 * c + r) ∧ S 0 26 (240 * x + 10 * c + r) < S 0 0 8 := by
  intro c r c0 c1 r0 r1
  have hx := h.x20 q
  obtain ⟨⟨-, e0, e1, -, hW, hH, -⟩, hX, -, -⟩ := h.ip q
  have hn := (wnC_full (by rw [e0]; omega) (by rw [e1]; omega)).mp ((h.dn q).mpr hd) r c r0 (by rw [e1]; exact r1) c0 (by rw [e0]; exact c1)
  obtain ⟨-, e6, -, -, hc⟩ := hX c r c0 c1 r0 r1
  rw [e6] at hn
  omega
theorem Inv.hlo {S : St} (h : Inv S) (x : Int) : isP S x → dnM S x → ∀ a1 b1, 0 ≤ a1 → a1 < S 0 16 x → 0 ≤ b1 → b1 < S 0 17 x → 0 ≤ S 0 26 (240 * x + 10 * a1 + b1) ∧ S 0 26 (240 * x + 10 * a1 + b1) < 20 := fun q hd c r c0 c1 r0 r1 => by
  have := h.alw q hd c r c0 c1 r0 r1
  have := h.m.lt
  omega
theorem Inv.hun {S : St} (h : Inv S) (x w : Int) : isP S x → 0 ≤ w → w < S 0 18 x → S 0 20 (4 * x + w) < S 0 17 x → ∀ j, w * S 0 21 x / S 0 18 x ≤ j → j < (w + 1) * S 0 21 x / S 0 18 x → S 0 26 (240 * x + 10 * j + S 0 20 (4 * x + w)) = -1 ∧ S 0 27 (240 * x + 10 * j + S 0 20 (4 * x + w)) = 0 := fun q w0 w1 hlt j j0 j1 => by
  have hx := h.x20 q
  obtain ⟨⟨-, e0, e1, -, hW, hH, -⟩, hX, -, hQ⟩ := h.ip q
  rcases hQ with ⟨hd, -⟩ | ⟨e, h12, hv1, hv2, hle, hq⟩
  · have := hd w w0 w1
    omega
  · have hp := h.m.pc x hx.1 hx.2
    have hb := dvb w0 w1 hp.2.2.2.2.2.1 (show 0 ≤ S 0 21 x by omega) (show S 0 21 x ≤ 12 by omega)
    have hr := h.m.wv (4 * x + w) (by omega) (by omega)
    have h1 := hq w j (S 0 20 (4 * x + w)) w0 w1 j0 j1 hr.1 hlt
    obtain ⟨-, -, -, -, hc⟩ := hX j (S 0 20 (4 * x + w)) (by omega) (by omega) hr.1 hlt
    have h2 : S 0 26 (240 * x + 10 * j + S 0 20 (4 * x + w)) = -1 := Classical.byContradiction (fun y => absurd (h1.mp y) (by omega))
    rcases hc with ⟨-, h3⟩ | h3
    · exact ⟨h2, h3⟩
    · omega
section QS
variable {p : Program} {l : Launch} {e : Env} {R : Room} {s : State} {m : MethodId} {args : Array Value} {below : List Frame} {meth : Method} {c : Code} {H : Heap} {locs : List Loc} {cells slots : Nat} {Q : State → Prop}
variable {cc : ByteArray} {pc : Nat} {ls : Array Slot} {rest st0 : List Value} {g : GT} {ad : Nat → Nat → Nat} {S : St} {own : String}
theorem p_sld (hx : p.tables.exec = Jvm.exec) (hb : c.code = cc) {b L : Nat} {xs : Nat → Int32} (hX : va_X b L xs s s.heap) (hbl : b < s.heap.size) (hL : L ≤ 2560) (hS : va_S (fun q => s.heap.size ≤ q) s.heap H locs) {z : Int} (h0 : 0 ≤ z) (h1 : z < L) (hdg : decode cc pc = .ok (.iaload, 1))
    (kk : W p l e R s m args below meth c H locs cells slots Q (F0 m (pc + 1) ls (.int (i32 (zs xs z)) :: rest))) : W p l e R s m args below meth c H locs cells slots Q (F0 m pc ls (.int (i32 z) :: .ref b :: rest)) := by
  refine va_sld hx hb hX hbl (A := fun q => s.heap.size ≤ q) (Nat.not_le_of_lt hbl) hS (i32_in h0 h1 (by omega)) hdg ?_
  rw [i32_clamp h0 (by omega)]
  have : xs z.toNat = i32 (zs xs z) := (Int32.ofInt_toInt _).symm
  rw [this]
  exact kk
/-- 'z != 0' -/
theorem q_z01 (hx : p.tables.exec = Jvm.exec) (hb : c.code = cc) {z : Int} (hz : rng z) {o1 o2 : Int} {L1 : Nat} (d0 : decode cc pc = .ok (.ifCond .eq o1, 3)) (d1 : decode cc (pc + 3) = .ok (.iconst 1, 1)) (d2 : decode cc (pc + 4) = .ok (.goto o2, 3)) (d3 : decode cc L1 = .ok (.iconst 0, 1)) (t1 : (pc : Int) + o1 = (L1 : Int)) (t2 : ((pc + 4 : Nat) : Int) + o2 = ((L1 + 1 : Nat) : Int))
    (k : W p l e R s m args below meth c H locs cells slots Q (F0 m (L1 + 1) ls (.int (i32 (b2 (z ≠ 0))) :: rest))) : W p l e R s m args below meth c H locs cells slots Q (F0 m pc ls (.int (i32 z) :: rest)) := by
  refine q_if_eq (tgt := L1) hx hb hz d0 t1 (fun h => ?_) (fun h => ?_)
  · refine lv_iconst (v := i32 0) hx hb d3 rfl ?_
    rw [b2_f (fun q => q h)] at k
    exact k
  · refine lv_iconst (v := i32 1) hx hb d1 rfl ?_
    refine lv_goto (tgt := L1 + 1) hx hb d2 t2 ?_
    rw [b2_t h] at k
    exact k
/-- 'b ? 1L : 0L' -/
theorem q_l01 (hx : p.tables.exec = Jvm.exec) (hb : c.code = cc) {φ : Prop} {o1 o2 : Int} {L1 : Nat} (d0 : decode cc pc = .ok (.ifCond .eq o1, 3)) (d1 : decode cc (pc + 3) = .ok (.lconst 1, 1)) (d2 : decode cc (pc + 4) = .ok (.goto o2, 3)) (d3 : decode cc L1 = .ok (.lconst 0, 1)) (t1 : (pc : Int) + o1 = (L1 : Int)) (t2 : ((pc + 4 : Nat) : Int) + o2 = ((L1 + 1 : Nat) : Int))
    (k : W p l e R s m args below meth c H locs cells slots Q (F0 m (L1 + 1) ls (.long (i64 (b2 φ)) :: rest))) : W p l e R s m args below meth c H locs cells slots Q (F0 m pc ls (.int (i32 (b2 φ)) :: rest)) := by
  refine q_if_eqb (tgt := L1) hx hb d0 t1 (fun h => ?_) (fun h => ?_)
  · refine lv_lconst (v := i64 0) hx hb d3 rfl ?_
    rw [b2_f h] at k
    exact k
  · refine lv_lconst (v := i64 1) hx hb d1 rfl ?_
    refine lv_goto (tgt := L1 + 1) hx hb d2 t2 ?_
    rw [b2_t h] at k
    exact k
theorem q_lcmp0 (hx : p.tables.exec = Jvm.exec) (hb : c.code = cc) {x y : Int} (h : x = y) (hdg : decode cc pc = .ok (.lcmp, 1))
    (k : W p l e R s m args below meth c H locs cells slots Q (F0 m (pc + 1) ls (.int (i32 0) :: rest))) : W p l e R s m args below meth c H locs cells slots Q (F0 m pc ls (.long (i64 y) :: .long (i64 x) :: rest)) := by
  refine W.lcmp hx hb hdg ?_
  have : lg_cmp (i64 x) (i64 y) = i32 0 := by
    unfold lg_cmp
    rw [h, if_neg (show ¬ (i64 y > i64 y) from fun q => by rw [gt_iff_lt, Int64.lt_iff_toInt_lt] at q; omega), if_pos rfl]
    rfl
  rw [this]
  exact k
theorem q_icmp_eqi (hx : p.tables.exec = Jvm.exec) (hb : c.code = cc) {a : Int} {off : Int} {tgt : Nat} (hdg : decode cc pc = .ok (.if_icmp .eq off, 3)) (ht : (pc : Int) + off = (tgt : Int))
    (kt : W p l e R s m args below meth c H locs cells slots Q (F0 m tgt ls rest)) : W p l e R s m args below meth c H locs cells slots Q (F0 m pc ls (.int (i32 a) :: .int (i32 a) :: rest)) := lv_icmp_eq hx hb hdg ht (fun _ => kt) (fun h => absurd rfl h)
end QS
theorem sim_empty {S : St} (hI : Inv S) : S 1 0 1 = S 0 0 0 ∧ Inv (st (st (st S 1 0 1 0) 0 0 27 0) 0 0 0 0) := by
  sorry
theorem sim_gold {S : St} (hI : Inv S) : gdC S = gdM (st S 0 0 27 0) := by
  sorry
theorem sim_balances {S : St} (hI : Inv S) : (∀ j, 0 ≤ j → j < 20 → tbC S 20 j = S 2 3 j - S 2 4 j) ↔ blM (st (blS S 20) 0 0 27 0) := by
  sorry
theorem Inv.rl {S : St} (h : Inv S) : rng (S 0 0 0) := by
  have := h.m.le
  exact ⟨by omega, by omega⟩
