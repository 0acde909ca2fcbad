/-! ===== the law's own rows ===== -/
def zs (xs : Nat → Int32) (j : Int) : Int := (xs j.toNat).toInt
theorem zs_r (xs : Nat → Int32) (j : Int) : rng (zs xs j) := ⟨by have := (xs j.toNat).le_toInt; unfold zs; omega, by have := (xs j.toNat).toInt_lt; unfold zs; omega⟩
def chz (z : Int) : Int := (((i32 z).toUInt32 % 65536).toInt32).toInt
theorem chz_r (z : Int) : rng (chz z) := ⟨by have := (((i32 z).toUInt32 % 65536).toInt32).le_toInt; unfold chz; omega, by have := (((i32 z).toUInt32 % 65536).toInt32).toInt_lt; unfold chz; omega⟩
theorem chz_i (z : Int) : ((i32 z).toUInt32 % 65536).toInt32 = i32 (chz z) := (Int32.ofInt_toInt _).symm
section QS
variable {p : Program} {l : Launch} {e : Env} {R : Room} {s : State} {m : MethodId} {args : Array Value} {below : List Frame} {meth : Method} {c : Code} {H : Heap} {locs : List Loc} {cells slots : Nat} {Q : State → Prop}
variable {cc : ByteArray} {pc : Nat} {ls : Array Slot} {rest st0 : List Value} {g : GT} {ad : Nat → Nat → Nat} {S : St} {own : String}
theorem p_sld (hx : p.tables.exec = Jvm.exec) (hb : c.code = cc) {b L : Nat} {xs : Nat → Int32} (hX : va_X b L xs s s.heap) (hbl : b < s.heap.size) (hL : L ≤ 2560) (hS : va_S (fun q => s.heap.size ≤ q) s.heap H locs) {z : Int} (h0 : 0 ≤ z) (h1 : z < L) (hdg : decode cc pc = .ok (.iaload, 1))
    (kk : W p l e R s m args below meth c H locs cells slots Q (F0 m (pc + 1) ls (.int (i32 (zs xs z)) :: rest))) : W p l e R s m args below meth c H locs cells slots Q (F0 m pc ls (.int (i32 z) :: .ref b :: rest)) := by
  refine va_sld hx hb hX hbl (A := fun q => s.heap.size ≤ q) (Nat.not_le_of_lt hbl) hS (i32_in h0 h1 (by omega)) hdg ?_
  rw [i32_clamp h0 (by omega)]
  have : xs z.toNat = i32 (zs xs z) := (Int32.ofInt_toInt _).symm
  rw [this]
  exact kk
/-- 'z != 0' -/
theorem q_z01 (hx : p.tables.exec = Jvm.exec) (hb : c.code = cc) {z : Int} (hz : rng z) {o1 o2 : Int} {L1 : Nat} (d0 : decode cc pc = .ok (.ifCond .eq o1, 3)) (d1 : decode cc (pc + 3) = .ok (.iconst 1, 1)) (d2 : decode cc (pc + 4) = .ok (.goto o2, 3)) (d3 : decode cc L1 = .ok (.iconst 0, 1)) (t1 : (pc : Int) + o1 = (L1 : Int)) (t2 : ((pc + 4 : Nat) : Int) + o2 = ((L1 + 1 : Nat) : Int))
    (k : W p l e R s m args below meth c H locs cells slots Q (F0 m (L1 + 1) ls (.int (i32 (b2 (z ≠ 0))) :: rest))) : W p l e R s m args below meth c H locs cells slots Q (F0 m pc ls (.int (i32 z) :: rest)) := by
  refine q_if_eq (tgt := L1) hx hb hz d0 t1 (fun h => ?_) (fun h => ?_)
  · refine lv_iconst (v := i32 0) hx hb d3 rfl ?_
    rw [b2_f (fun q => q h)] at k
    exact k
  · refine lv_iconst (v := i32 1) hx hb d1 rfl ?_
    refine lv_goto (tgt := L1 + 1) hx hb d2 t2 ?_
    rw [b2_t h] at k
    exact k
/-- 'b ? 1L : 0L' -/
theorem q_l01 (hx : p.tables.exec = Jvm.exec) (hb : c.code = cc) {φ : Prop} {o1 o2 : Int} {L1 : Nat} (d0 : decode cc pc = .ok (.ifCond .eq o1, 3)) (d1 : decode cc (pc + 3) = .ok (.lconst 1, 1)) (d2 : decode cc (pc + 4) = .ok (.goto o2, 3)) (d3 : decode cc L1 = .ok (.lconst 0, 1)) (t1 : (pc : Int) + o1 = (L1 : Int)) (t2 : ((pc + 4 : Nat) : Int) + o2 = ((L1 + 1 : Nat) : Int))
    (k : W p l e R s m args below meth c H locs cells slots Q (F0 m (L1 + 1) ls (.long (i64 (b2 φ)) :: rest))) : W p l e R s m args below meth c H locs cells slots Q (F0 m pc ls (.int (i32 (b2 φ)) :: rest)) := by
  refine q_if_eqb (tgt := L1) hx hb d0 t1 (fun h => ?_) (fun h => ?_)
  · refine lv_lconst (v := i64 0) hx hb d3 rfl ?_
    rw [b2_f h] at k
    exact k
  · refine lv_lconst (v := i64 1) hx hb d1 rfl ?_
    refine lv_goto (tgt := L1 + 1) hx hb d2 t2 ?_
    rw [b2_t h] at k
    exact k
theorem q_lcmp0 (hx : p.tables.exec = Jvm.exec) (hb : c.code = cc) {x y : Int} (h : x = y) (hdg : decode cc pc = .ok (.lcmp, 1))
    (k : W p l e R s m args below meth c H locs cells slots Q (F0 m (pc + 1) ls (.int (i32 0) :: rest))) : W p l e R s m args below meth c H locs cells slots Q (F0 m pc ls (.long (i64 y) :: .long (i64 x) :: rest)) := by
  refine W.lcmp hx hb hdg ?_
  have : lg_cmp (i64 x) (i64 y) = i32 0 := by
    unfold lg_cmp
    rw [h, if_neg (show ¬ (i64 y > i64 y) from fun q => by rw [gt_iff_lt, Int64.lt_iff_toInt_lt] at q; omega), if_pos rfl]
    rfl
  rw [this]
  exact k
theorem q_icmp_eqi (hx : p.tables.exec = Jvm.exec) (hb : c.code = cc) {a : Int} {off : Int} {tgt : Nat} (hdg : decode cc pc = .ok (.if_icmp .eq off, 3)) (ht : (pc : Int) + off = (tgt : Int))
    (kt : W p l e R s m args below meth c H locs cells slots Q (F0 m tgt ls rest)) : W p l e R s m args below meth c H locs cells slots Q (F0 m pc ls (.int (i32 a) :: .int (i32 a) :: rest)) := lv_icmp_eq hx hb hdg ht (fun _ => kt) (fun h => absurd rfl h)
end QS
theorem Inv.rl {S : St} (h : Inv S) : rng (S 0 0 0) := by
  have := h.m.le
  exact ⟨by omega, by omega⟩
