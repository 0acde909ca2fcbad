/-! ===== rows in integers; ends; calls; throws ===== -/
theorem t_MX0 : lw_tbl[317]? = some (.static Lib.Math.max.name) := by decide +kernel
theorem t_MX1 : lw_tbl[25]? = some (.initialized "java/lang/Math") := by decide +kernel
theorem t_MX2 : lw_tbl[318]? = some (.code Lib.Math.max.name Lib.Math.max.code 2 (some .int)) := by decide +kernel
theorem t_MXL316 : lw_tbl[316]? = some (.methodLink RX2 101 Lib.Math.max.name) := by decide +kernel
theorem t_MXL515 : lw_tbl[515]? = some (.methodLink RX3 259 Lib.Math.max.name) := by decide +kernel
section OPS
variable {p : Program} {l : Launch} {e : Env} {R : Room} {s : State} {m : MethodId} {args : Array Value} {below : List Frame} {meth : Method} {c : Code} {H : Heap} {locs : List Loc} {cells slots : Nat} {Q : State → Prop}
variable {cc : ByteArray} {pc : Nat} {ls : Array Slot} {rest st0 : List Value} {g : GT} {base : Nat} {ad : Nat → Nat → Nat} {S : St} {own : String}
theorem q_iadd (hx : p.tables.exec = Jvm.exec) (hb : c.code = cc) {a b : Int} (hdg : decode cc pc = .ok (.iadd, 1)) (k : W p l e R s m args below meth c H locs cells slots Q (F0 m (pc + 1) ls (.int (i32 (a + b)) :: rest))) : W p l e R s m args below meth c H locs cells slots Q (F0 m pc ls (.int (i32 b) :: .int (i32 a) :: rest)) := lv_iadd hx hb hdg (by rw [i32_add]; exact k)
theorem q_isub (hx : p.tables.exec = Jvm.exec) (hb : c.code = cc) {a b : Int} (hdg : decode cc pc = .ok (.isub, 1)) (k : W p l e R s m args below meth c H locs cells slots Q (F0 m (pc + 1) ls (.int (i32 (a - b)) :: rest))) : W p l e R s m args below meth c H locs cells slots Q (F0 m pc ls (.int (i32 b) :: .int (i32 a) :: rest)) := lv_isub hx hb hdg (by rw [i32_sub]; exact k)
theorem q_imul (hx : p.tables.exec = Jvm.exec) (hb : c.code = cc) {a b : Int} (hdg : decode cc pc = .ok (.imul, 1)) (k : W p l e R s m args below meth c H locs cells slots Q (F0 m (pc + 1) ls (.int (i32 (a * b)) :: rest))) : W p l e R s m args below meth c H locs cells slots Q (F0 m pc ls (.int (i32 b) :: .int (i32 a) :: rest)) := lv_imul hx hb hdg (by rw [i32_mul]; exact k)
theorem i32_ne0 {b : Int} (h0 : 0 < b) (h1 : b < 2147483648) : ¬ i32 b = 0 := by
  rw [← i32_0, i32_inj ⟨by omega, h1⟩ rng_0]
  omega
theorem q_idiv (hx : p.tables.exec = Jvm.exec) (hb : c.code = cc) {a b : Int} (ha : 0 ≤ a) (ha2 : a < 2147483648) (hb1 : 0 < b) (hb2 : b < 2147483648) (hdg : decode cc pc = .ok (.idiv, 1)) (k : W p l e R s m args below meth c H locs cells slots Q (F0 m (pc + 1) ls (.int (i32 (a / b)) :: rest))) : W p l e R s m args below meth c H locs cells slots Q (F0 m pc ls (.int (i32 b) :: .int (i32 a) :: rest)) := lv_idiv hx hb hdg (i32_ne0 hb1 hb2) (by rw [i32_div ha ha2 hb1 hb2]; exact k)
theorem q_irem (hx : p.tables.exec = Jvm.exec) (hb : c.code = cc) {a b : Int} (ha : 0 ≤ a) (ha2 : a < 2147483648) (hb1 : 0 < b) (hb2 : b < 2147483648) (hdg : decode cc pc = .ok (.irem, 1)) (k : W p l e R s m args below meth c H locs cells slots Q (F0 m (pc + 1) ls (.int (i32 (a % b)) :: rest))) : W p l e R s m args below meth c H locs cells slots Q (F0 m pc ls (.int (i32 b) :: .int (i32 a) :: rest)) := lv_irem hx hb hdg (i32_ne0 hb1 hb2) (by rw [i32_rem ha ha2 hb1 hb2]; exact k)
theorem q_if_eq (hx : p.tables.exec = Jvm.exec) (hb : c.code = cc) {a : Int} {off : Int} {tgt : Nat} (ra : rng a) (hdg : decode cc pc = .ok (.ifCond .eq off, 3)) (ht : (pc : Int) + off = (tgt : Int))
    (kt : a = 0 → W p l e R s m args below meth c H locs cells slots Q (F0 m tgt ls rest)) (kf : a ≠ 0 → W p l e R s m args below meth c H locs cells slots Q (F0 m (pc + 3) ls rest)) : W p l e R s m args below meth c H locs cells slots Q (F0 m pc ls (.int (i32 a) :: rest)) :=
  lv_if_eq hx hb hdg ht (fun h => kt ((i32_inj ra rng_0).mp h)) (fun h => kf (fun e => h ((i32_inj ra rng_0).mpr e)))
theorem q_if_ne (hx : p.tables.exec = Jvm.exec) (hb : c.code = cc) {a : Int} {off : Int} {tgt : Nat} (ra : rng a) (hdg : decode cc pc = .ok (.ifCond .ne off, 3)) (ht : (pc : Int) + off = (tgt : Int))
    (kt : a ≠ 0 → W p l e R s m args below meth c H locs cells slots Q (F0 m tgt ls rest)) (kf : a = 0 → W p l e R s m args below meth c H locs cells slots Q (F0 m (pc + 3) ls rest)) : W p l e R s m args below meth c H locs cells slots Q (F0 m pc ls (.int (i32 a) :: rest)) :=
  lv_if_ne hx hb hdg ht (fun h => kt (fun e => h ((i32_inj ra rng_0).mpr e))) (fun h => kf ((i32_inj ra rng_0).mp h))
theorem q_if_lt (hx : p.tables.exec = Jvm.exec) (hb : c.code = cc) {a : Int} {off : Int} {tgt : Nat} (ra : rng a) (hdg : decode cc pc = .ok (.ifCond .lt off, 3)) (ht : (pc : Int) + off = (tgt : Int))
    (kt : a < 0 → W p l e R s m args below meth c H locs cells slots Q (F0 m tgt ls rest)) (kf : 0 ≤ a → W p l e R s m args below meth c H locs cells slots Q (F0 m (pc + 3) ls rest)) : W p l e R s m args below meth c H locs cells slots Q (F0 m pc ls (.int (i32 a) :: rest)) :=
  lv_if_lt hx hb hdg ht (fun h => kt ((i32_lt ra rng_0).mp h)) (fun h => kf (Int.not_lt.mp (fun e => h ((i32_lt ra rng_0).mpr e))))
theorem q_if_ge (hx : p.tables.exec = Jvm.exec) (hb : c.code = cc) {a : Int} {off : Int} {tgt : Nat} (ra : rng a) (hdg : decode cc pc = .ok (.ifCond .ge off, 3)) (ht : (pc : Int) + off = (tgt : Int))
    (kt : 0 ≤ a → W p l e R s m args below meth c H locs cells slots Q (F0 m tgt ls rest)) (kf : a < 0 → W p l e R s m args below meth c H locs cells slots Q (F0 m (pc + 3) ls rest)) : W p l e R s m args below meth c H locs cells slots Q (F0 m pc ls (.int (i32 a) :: rest)) :=
  lv_if_ge hx hb hdg ht (fun h => kt ((i32_le rng_0 ra).mp h)) (fun h => kf (Int.not_le.mp (fun e => h ((i32_le rng_0 ra).mpr e))))
theorem q_if_gt (hx : p.tables.exec = Jvm.exec) (hb : c.code = cc) {a : Int} {off : Int} {tgt : Nat} (ra : rng a) (hdg : decode cc pc = .ok (.ifCond .gt off, 3)) (ht : (pc : Int) + off = (tgt : Int))
    (kt : 0 < a → W p l e R s m args below meth c H locs cells slots Q (F0 m tgt ls rest)) (kf : a ≤ 0 → W p l e R s m args below meth c H locs cells slots Q (F0 m (pc + 3) ls rest)) : W p l e R s m args below meth c H locs cells slots Q (F0 m pc ls (.int (i32 a) :: rest)) :=
  lv_if_gt hx hb hdg ht (fun h => kt ((i32_lt rng_0 ra).mp h)) (fun h => kf (Int.not_lt.mp (fun e => h ((i32_lt rng_0 ra).mpr e))))
theorem q_if_le (hx : p.tables.exec = Jvm.exec) (hb : c.code = cc) {a : Int} {off : Int} {tgt : Nat} (ra : rng a) (hdg : decode cc pc = .ok (.ifCond .le off, 3)) (ht : (pc : Int) + off = (tgt : Int))
    (kt : a ≤ 0 → W p l e R s m args below meth c H locs cells slots Q (F0 m tgt ls rest)) (kf : 0 < a → W p l e R s m args below meth c H locs cells slots Q (F0 m (pc + 3) ls rest)) : W p l e R s m args below meth c H locs cells slots Q (F0 m pc ls (.int (i32 a) :: rest)) :=
  lv_if_le hx hb hdg ht (fun h => kt ((i32_le ra rng_0).mp h)) (fun h => kf (Int.not_le.mp (fun e => h ((i32_le ra rng_0).mpr e))))
theorem q_icmp_eq (hx : p.tables.exec = Jvm.exec) (hb : c.code = cc) {a b : Int} {off : Int} {tgt : Nat} (ra : rng a) (rb : rng b) (hdg : decode cc pc = .ok (.if_icmp .eq off, 3)) (ht : (pc : Int) + off = (tgt : Int))
    (kt : a = b → W p l e R s m args below meth c H locs cells slots Q (F0 m tgt ls rest)) (kf : a ≠ b → W p l e R s m args below meth c H locs cells slots Q (F0 m (pc + 3) ls rest)) : W p l e R s m args below meth c H locs cells slots Q (F0 m pc ls (.int (i32 b) :: .int (i32 a) :: rest)) :=
  lv_icmp_eq hx hb hdg ht (fun h => kt ((i32_inj ra rb).mp h)) (fun h => kf (fun e => h ((i32_inj ra rb).mpr e)))
theorem q_icmp_ne (hx : p.tables.exec = Jvm.exec) (hb : c.code = cc) {a b : Int} {off : Int} {tgt : Nat} (ra : rng a) (rb : rng b) (hdg : decode cc pc = .ok (.if_icmp .ne off, 3)) (ht : (pc : Int) + off = (tgt : Int))
    (kt : a ≠ b → W p l e R s m args below meth c H locs cells slots Q (F0 m tgt ls rest)) (kf : a = b → W p l e R s m args below meth c H locs cells slots Q (F0 m (pc + 3) ls rest)) : W p l e R s m args below meth c H locs cells slots Q (F0 m pc ls (.int (i32 b) :: .int (i32 a) :: rest)) :=
  lv_icmp_ne hx hb hdg ht (fun h => kt (fun e => h ((i32_inj ra rb).mpr e))) (fun h => kf ((i32_inj ra rb).mp h))
theorem q_icmp_lt (hx : p.tables.exec = Jvm.exec) (hb : c.code = cc) {a b : Int} {off : Int} {tgt : Nat} (ra : rng a) (rb : rng b) (hdg : decode cc pc = .ok (.if_icmp .lt off, 3)) (ht : (pc : Int) + off = (tgt : Int))
    (kt : a < b → W p l e R s m args below meth c H locs cells slots Q (F0 m tgt ls rest)) (kf : b ≤ a → W p l e R s m args below meth c H locs cells slots Q (F0 m (pc + 3) ls rest)) : W p l e R s m args below meth c H locs cells slots Q (F0 m pc ls (.int (i32 b) :: .int (i32 a) :: rest)) :=
  lv_icmp_lt hx hb hdg ht (fun h => kt ((i32_lt ra rb).mp h)) (fun h => kf (Int.not_lt.mp (fun e => h ((i32_lt ra rb).mpr e))))
theorem q_icmp_ge (hx : p.tables.exec = Jvm.exec) (hb : c.code = cc) {a b : Int} {off : Int} {tgt : Nat} (ra : rng a) (rb : rng b) (hdg : decode cc pc = .ok (.if_icmp .ge off, 3)) (ht : (pc : Int) + off = (tgt : Int))
    (kt : b ≤ a → W p l e R s m args below meth c H locs cells slots Q (F0 m tgt ls rest)) (kf : a < b → W p l e R s m args below meth c H locs cells slots Q (F0 m (pc + 3) ls rest)) : W p l e R s m args below meth c H locs cells slots Q (F0 m pc ls (.int (i32 b) :: .int (i32 a) :: rest)) :=
  lv_icmp_ge hx hb hdg ht (fun h => kt ((i32_le rb ra).mp h)) (fun h => kf (Int.not_le.mp (fun e => h ((i32_le rb ra).mpr e))))
theorem q_icmp_gt (hx : p.tables.exec = Jvm.exec) (hb : c.code = cc) {a b : Int} {off : Int} {tgt : Nat} (ra : rng a) (rb : rng b) (hdg : decode cc pc = .ok (.if_icmp .gt off, 3)) (ht : (pc : Int) + off = (tgt : Int))
    (kt : b < a → W p l e R s m args below meth c H locs cells slots Q (F0 m tgt ls rest)) (kf : a ≤ b → W p l e R s m args below meth c H locs cells slots Q (F0 m (pc + 3) ls rest)) : W p l e R s m args below meth c H locs cells slots Q (F0 m pc ls (.int (i32 b) :: .int (i32 a) :: rest)) :=
  lv_icmp_gt hx hb hdg ht (fun h => kt ((i32_lt rb ra).mp h)) (fun h => kf (Int.not_lt.mp (fun e => h ((i32_lt rb ra).mpr e))))
theorem q_icmp_le (hx : p.tables.exec = Jvm.exec) (hb : c.code = cc) {a b : Int} {off : Int} {tgt : Nat} (ra : rng a) (rb : rng b) (hdg : decode cc pc = .ok (.if_icmp .le off, 3)) (ht : (pc : Int) + off = (tgt : Int))
    (kt : a ≤ b → W p l e R s m args below meth c H locs cells slots Q (F0 m tgt ls rest)) (kf : b < a → W p l e R s m args below meth c H locs cells slots Q (F0 m (pc + 3) ls rest)) : W p l e R s m args below meth c H locs cells slots Q (F0 m pc ls (.int (i32 b) :: .int (i32 a) :: rest)) :=
  lv_icmp_le hx hb hdg ht (fun h => kt ((i32_le ra rb).mp h)) (fun h => kf (Int.not_le.mp (fun e => h ((i32_le ra rb).mpr e))))
theorem q_ldc (hx : p.tables.exec = Jvm.exec) (hb : c.code = cc) (hown : s.vm.findClass own = some m.cls) (hK : KK g s) {z : Int} {index il : Nat} {v : Int32} (hl : lw_tbl[il]? = some (.constant own index v)) (hv : v = i32 z) (hdg : decode cc pc = .ok (.ldc index, 2)) (k : W p l e R s m args below meth c H locs cells slots Q (F0 m (pc + 2) ls (.int (i32 z) :: rest))) : W p l e R s m args below meth c H locs cells slots Q (F0 m pc ls rest) := lv_ldc hx hb hown (hK.b il hl rfl) hdg (hv ▸ k)
/-- a number with another name -/
theorem q_nm {a b : Int} (h : a = b) (k : W p l e R s m args below meth c H locs cells slots Q (F0 m pc ls (.int (i32 b) :: rest))) : W p l e R s m args below meth c H locs cells slots Q (F0 m pc ls (.int (i32 a) :: rest)) := h ▸ k
theorem q_max (hx : p.tables.exec = Jvm.exec) (hb : c.code = cc) (hown : s.vm.findClass own = some m.cls) (hK : KK g s) {nL : Nat} (hml : c.maxLocals = nL) (hls : ls.size = nL) {index il : Nat} (hl : lw_tbl[il]? = some (.methodLink own index Lib.Math.max.name))
    (hR : 1 ≤ R.frames ∧ (rest.map fun v => v.category).sum + 13 ≤ R.locals) (hc : cells ≤ R.cells) (hs : slots ≤ R.slots) {a b : Int} (ra : rng a) (rb : rng b) (hdg : decode cc pc = .ok (.invokestatic index, 3))
    (kk : W p l e R s m args below meth c H locs cells slots Q (F0 m (pc + 3) ls (.int (i32 (if a < b then b else a)) :: rest))) : W p l e R s m args below meth c H locs cells slots Q (F0 m pc ls (.int (i32 b) :: .int (i32 a) :: rest)) := by
  refine va_mmax hx hb (hml.trans hls.symm) hown (hK.b il hl rfl) (hK.b 317 t_MX0 rfl) (hK.b 25 t_MX1 rfl) (hK.b 318 t_MX2 rfl) hR.1 hR.2 hc hs hdg ?_
  have : (if i32 a < i32 b then i32 b else i32 a) = i32 (if a < b then b else a) := by
    by_cases h : a < b
    · rw [if_pos h, if_pos ((i32_lt ra rb).mpr h)]
    · rw [if_neg h, if_neg (fun q => h ((i32_lt ra rb).mp q))]
  rw [this]
  exact kk
/-! ends -/
variable {P : Option Value → (Nat → Nat → Nat) → St → Prop} {mc ms : Nat} {ad' : Nat → Nat → Nat} {S' : St} {XC : String → State → State → Prop}
theorem q_iret (hx : p.tables.exec = Jvm.exec) (hb : c.code = cc) (hr : meth.sig.returnType = some .int) (hlocks : meth.locks = false) (hP : pic g base ad' S' H) (hS : va_S (fun q => base ≤ q) s.heap H locs) {v : Int} (hQ : P (some (.int (i32 v))) ad' S') (h1 : cells ≤ mc) (h2 : slots ≤ ms) (hdg : decode cc pc = .ok (.ireturn, 1)) : W p l e R s m args below meth c H locs cells slots (MQ below (gQ g base P) args s mc ms (fun q => base ≤ q)) (F0 m pc ls [.int (i32 v)]) :=
  W.widen h1 h2 (W.iret (v := i32 v) hx hb hr (fun t ht _ => ⟨⟨_, _, _, rfl, hQ, by rw [ht]; exact hP⟩, hS.F ht⟩) hS.2.2 hdg hlocks)
theorem q_zret (hx : p.tables.exec = Jvm.exec) (hb : c.code = cc) (hr : meth.sig.returnType = some .boolean) (hlocks : meth.locks = false) (hP : pic g base ad' S' H) (hS : va_S (fun q => base ≤ q) s.heap H locs) {v : Int} (hv : v = 0 ∨ v = 1) (hQ : P (some (.int (i32 v))) ad' S') (h1 : cells ≤ mc) (h2 : slots ≤ ms) (hdg : decode cc pc = .ok (.ireturn, 1)) : W p l e R s m args below meth c H locs cells slots (MQ below (gQ g base P) args s mc ms (fun q => base ≤ q)) (F0 m pc ls [.int (i32 v)]) :=
  W.widen h1 h2 (W.zret (v := i32 v) hx hb hr (by rcases hv with rfl | rfl <;> rfl) (fun t ht _ => ⟨⟨_, _, _, rfl, hQ, by rw [ht]; exact hP⟩, hS.F ht⟩) hS.2.2 hdg hlocks)
theorem q_vret (hx : p.tables.exec = Jvm.exec) (hb : c.code = cc) (hr : meth.sig.returnType = none) (hlocks : meth.locks = false) (hP : pic g base ad' S' H) (hS : va_S (fun q => base ≤ q) s.heap H locs) (hQ : P none ad' S') (h1 : cells ≤ mc) (h2 : slots ≤ ms) (hdg : decode cc pc = .ok (.return_, 1)) : W p l e R s m args below meth c H locs cells slots (MQ below (gQ g base P) args s mc ms (fun q => base ≤ q)) (F0 m pc ls []) :=
  W.widen h1 h2 (W.vret hx hb hr (fun t ht _ => ⟨⟨_, _, _, rfl, hQ, by rw [ht]; exact hP⟩, hS.F ht⟩) hS.2.2 hdg hlocks)
theorem q_aret (hx : p.tables.exec = Jvm.exec) (hb : c.code = cc) {nm : String} (hr : meth.sig.returnType = some (.object nm)) (hlocks : meth.locks = false) (hP : pic g base ad' S' H) (hS : va_S (fun q => base ≤ q) s.heap H locs) {a : Nat} (hQ : P (some (.ref a)) ad' S') (h1 : cells ≤ mc) (h2 : slots ≤ ms) (hdg : decode cc pc = .ok (.areturn, 1)) : W p l e R s m args below meth c H locs cells slots (MQ below (gQ g base P) args s mc ms (fun q => base ≤ q)) (F0 m pc ls [.ref a]) :=
  W.widen h1 h2 (W.aret (v := .ref a) hx hb hr (Or.inl ⟨_, rfl⟩) (Or.inr ⟨_, rfl⟩) (fun t ht _ => ⟨⟨_, _, _, rfl, hQ, by rw [ht]; exact hP⟩, hS.F ht⟩) hS.2.2 hdg hlocks)
/-- a method that throws leaves all as it was -/
def xQ (g : GT) (base : Nat) (ad : Nat → Nat → Nat) (S : St) (PX : String → Prop) : String → State → State → Prop := fun E s t => PX E ∧ pic g base ad S t.heap ∧ va_F (fun q => base ≤ q) s t
theorem pic.grow (h : pic g base ad S H) {H1 : Heap} (hz : H.size ≤ H1.size) (hq : ∀ q : Nat, q < H.size → H1[q]? = H[q]?) : pic g base ad S H1 :=
  ⟨fun o r h1 h2 => ⟨(h.1 o r h1 h2).1.kept (hq _ (h.1 o r h1 h2).1.lt), (h.1 o r h1 h2).2⟩, h.2.1, Nat.le_trans h.2.2.1 hz, h.2.2.2⟩
theorem va_S.grow {A : Nat → Prop} {s : State} (hS : va_S A s.heap H locs) {t : State} (hz : H.size ≤ t.heap.size) (hq : ∀ q : Nat, q < H.size → t.heap[q]? = H[q]?) : va_F A s t :=
  ⟨Nat.le_trans hS.1 hz, fun q h1 h2 => by rw [hq q (Nat.lt_of_lt_of_le h1 hS.1)]; exact hS.2.1 q h1 h2⟩
/-- 'throw new E("text")' -/
theorem q_throw (hx : p.tables.exec = Jvm.exec) (hb : c.code = cc) (hfl : l.stackTraces = false) {cls text : String} {ik is ic it ii iss : Nat} {nL : Nat} (hml : c.maxLocals = nL) (hls : ls.size = nL)
    (hown : s.vm.findClass own = some m.cls) (hK : KK g s) (hZ : ZZ base s s.heap) (hcls : Bundle.fit cls = true)
    (hk : lw_tbl[ik]? = some (.classLink own it cls)) (hini : lw_tbl[ii]? = some (.initialized cls)) (hstr : lw_tbl[iss]? = some (.stringRef own is text)) (hat : ∀ w ∈ vx_atS own ic cls ["java/lang/RuntimeException", "java/lang/Exception"], w.before args s = true)
    (hgood : ∀ w ∈ Cond.classLink own it cls :: Cond.initialized cls :: vx_atS own ic cls ["java/lang/RuntimeException", "java/lang/Exception"], vx_ot w = true)
    (hP : pic g base ad S H) (hS : va_S (fun q => base ≤ q) s.heap H locs)
    (d0 : decode cc pc = .ok (.new it, 3)) (d3 : decode cc (pc + 3) = .ok (.dup, 1)) (d4 : decode cc (pc + 4) = .ok (.ldc is, 2)) (d6 : decode cc (pc + 6) = .ok (.invokespecial ic, 3)) (d9 : decode cc (pc + 9) = .ok (.athrow, 1))
    (hout : ∀ x ∈ c.exceptionTable.toList, False)
    (hRf : 5 < R.frames) (hRl : (rest.map fun v => v.category).sum + 82 ≤ R.locals) (hRc : cells + 1 ≤ R.cells) (hRs : slots + 6 ≤ R.slots) (hlocks : meth.locks = false) {PX : String → Prop} (hPX : PX cls) {Qc : Array Value → State → Outcome → State → Prop}
    (hc : cells + 1 ≤ mc) (hs : slots + 6 ≤ ms) :
    W p l e R s m args below meth c H locs cells slots (vx_MQ below Qc (xQ g base ad S PX) args s mc ms (fun q => base ≤ q)) (F0 m pc ls rest) := by
  obtain ⟨sa, hsa⟩ := hK.2.2.1 iss own is text hstr
  refine vx_throwS (names := ["java/lang/RuntimeException", "java/lang/Exception"]) (A := fun q => base ≤ q) hx hb hfl hown hcls (by decide) (hK.b ik hk rfl) (hK.b ii hini rfl) hsa hat hgood hZ.1 hZ.2 hS (hls.trans hml.symm) d0 d3 d4 d6 d9 (fun x h => (hout x h).elim) hRf hRl hRc hRs hlocks (fun t _ h1 h2 => ⟨hPX, hP.grow h1 h2, hS.grow h1 h2⟩) hS.2.2 hc hs
/-- an exception of a callee goes on to the caller -/
theorem q_out {E : String} {ce : Cell} {q : Nat} (hout : ∀ x ∈ c.exceptionTable.toList, False) (hlocks : meth.locks = false) (hcell : H[q]? = some ce) (hv : ce.vm = .none) (hcl : s.vm.findClass E = some ce.cls) (hP : pic g base ad S H) (hS : va_S (fun q => base ≤ q) s.heap H locs) {PX : String → Prop} (hPX : PX E) {Qc : Array Value → State → Outcome → State → Prop} (hc : cells ≤ mc) (hs : slots ≤ ms) :
    vx_W p l e R s m args below meth c H locs cells slots (vx_MQ below Qc (xQ g base ad S PX) args s mc ms (fun q => base ≤ q)) (F0 m pc ls rest) q :=
  vx_out (fun x h => (hout x h).elim) hlocks hcell hv hcl (fun t ht _ => ⟨hPX, by rw [ht]; exact hP, hS.F ht⟩) hS.2.2 hc hs
/-! calls -/
variable {y : MethodName} {bytes : ByteArray} {maxL nL n index : Nat} {ret : Option FieldType} {rm : Room} {As : List Value}
theorem q_callB (hK : KK g s) (il ii ic : Nat) (hl : lw_tbl[il]? = some (.methodLink own index y)) (hi : lw_tbl[ii]? = some (.initialized y.cls)) (hc : lw_tbl[ic]? = some (.code y bytes maxL ret)) (hf : (y.cls ≠ "java/lang/invoke/MethodHandle" ∧ y.cls ≠ "java/lang/invoke/VarHandle") ∧ (parseMethodDescriptor y.desc).map (fun d => d.parameters.length) = some n) (hR : rm.frames + 1 ≤ R.frames ∧ 8 + (maxL + 11) + rm.locals ≤ R.locals) : CallB R s args own index y bytes maxL ret [Cond.code y bytes maxL ret] rm rm.cells rm.slots n := by
  refine ⟨rfl, rfl, hR.1, hR.2, fun w hw a' U hW => ?_, List.mem_cons_self, hK.b ic hc rfl, hK.b ii hi rfl, hf.1, fun sig h => ?_, hK.b il hl rfl⟩
  · rw [List.mem_singleton.mp hw]
    exact (hK.warm hW).b ic hc rfl
  · have h2 := hf.2
    rw [h] at h2
    exact (Option.some.inj h2).symm
theorem q_pre (hK : KK g s) (hZ : ZZ base s s.heap) (hP : pic g base ad S H) (hS : va_S (fun q => base ≤ q) s.heap H locs) (av : List Value) : FrameBlind (va_Pc av (PK g base ad S)) ∧ ∀ U : State, U.heap = H → s.WarmedH U.vm → (va_Pc av (PK g base ad S)) av.toArray U :=
  ⟨PK_blind, fun U hU hW => ⟨rfl, hK.warm hW, by rw [hU]; exact hZ.go hW.alike hS.2.1, by rw [hU]; exact hP⟩⟩
theorem q_keep {st₀ t T' : State} {L : List Loc} (h0 : st₀.heap = H) (e1 : T'.heap = t.heap) (hS : va_S (fun q => base ≤ q) s.heap H locs) (hL : ∀ q ∈ L, base ≤ q.base) (hF : va_F (fun q => base ≤ q) st₀ t) : va_S (fun q => base ≤ q) s.heap T'.heap (locs ++ L) :=
  (vx_keep h0 e1 hS (fun _ _ h => h) (fun _ h => h) hL hF).2.2
/-- behind a call that returns -/
theorem q_go {a : Array Value} (hr : va_Run p l e R s m args below meth c H locs cells slots mc ms (F0 m pc ls st0) rest (gQ g base P a) (fun q => base ≤ q)) (hS : va_S (fun q => base ≤ q) s.heap H locs)
    (kk : ∀ (r : Option Value) (ad' : Nat → Nat → Nat) (S' : St) (H1 : Heap) (locs1 : List Loc), P r ad' S' → pic g base ad' S' H1 → va_S (fun q => base ≤ q) s.heap H1 locs1 → W p l e R s m args below meth c H1 locs1 (cells + mc) (slots + ms) Q (F0 m (pc + 3) ls (r.toList ++ rest))) : W p l e R s m args below meth c H locs cells slots Q (F0 m pc ls st0) := by
  intro T hT X
  obtain ⟨v, st₀, t, T', L, h0, X', hL, e1, e2, ⟨⟨r, ad', S', hv, hp, hb⟩, hF⟩, st⟩ := hr T hT X
  cases hv
  obtain ⟨t2, a1, b1⟩ := kk v ad' S' T'.heap (locs ++ L) hp (by rw [e1]; exact hb) (q_keep h0 e1 hS hL hF) T' rfl X'
  exact ⟨t2, st t2 a1, b1⟩
/-- behind a call that returns or throws -/
theorem q_gox {a : Array Value} {PX : String → Prop} (hr : vx_Run p l e R s m args below meth c H locs cells slots mc ms (F0 m pc ls st0) rest (gQ g base P a) (xQ g base ad S PX) (fun q => base ≤ q)) (hS : va_S (fun q => base ≤ q) s.heap H locs)
    (kx : ∀ (E : String) (ce : Cell) (q : Nat) (H1 : Heap) (locs1 : List Loc), PX E → H1[q]? = some ce → ce.vm = .none → s.vm.findClass E = some ce.cls → pic g base ad S H1 → va_S (fun q => base ≤ q) s.heap H1 locs1 → vx_W p l e R s m args below meth c H1 locs1 (cells + mc) (slots + ms) Q (F0 m pc ls rest) q)
    (kk : ∀ (r : Option Value) (ad' : Nat → Nat → Nat) (S' : St) (H1 : Heap) (locs1 : List Loc), P r ad' S' → pic g base ad' S' H1 → va_S (fun q => base ≤ q) s.heap H1 locs1 → W p l e R s m args below meth c H1 locs1 (cells + mc) (slots + ms) Q (F0 m (pc + 3) ls (r.toList ++ rest))) : W p l e R s m args below meth c H locs cells slots Q (F0 m pc ls st0) := by
  intro T hT X
  rcases hr T hT X with ⟨v, st₀, t, T', L, h0, X', hL, e1, e2, ⟨⟨r, ad', S', hv, hp, hb⟩, hF⟩, st⟩ | ⟨q, st₀, t, T', L, E, ce, h0, X', hL, e1, e2, ⟨hpx, hpp, hF⟩, hce, hcv, hcl, st⟩
  · cases hv
    obtain ⟨t2, a1, b1⟩ := kk v ad' S' T'.heap (locs ++ L) hp (by rw [e1]; exact hb) (q_keep h0 e1 hS hL hF) T' rfl X'
    exact ⟨t2, st t2 a1, b1⟩
  · obtain ⟨t2, a1, b1⟩ := kx E ce q T'.heap (locs ++ L) hpx (by rw [e1]; exact hce) hcv hcl (by rw [e1]; exact hpp) (q_keep h0 e1 hS hL hF) T' rfl X'
    exact ⟨t2, st.trans a1, b1⟩
theorem q_recv (hK : KK g s) (hP : pic g base ad S H) {o k : Nat} (hal : S o 0 (-1) = 1) (hk : kd o = k) (hok : okr k 0 = true) {C : String} {T : u_T} {N : Nat} (hc : vwCl[clsK k]? = some (C, T, N)) : ∃ cell : Cell, H[ad o 0]? = some cell ∧ cell.vm.isStatics = false ∧ s.vm.findClass C = some cell.cls :=
  va_recv hK.1 (hP.one hal hk hok (x := .inr (clsK k, fldsK k ad o (S o 0))) (by rfl)) hc (q0 := 0) rfl
/-- a static method -/
theorem q_callS (hx : p.tables.exec = Jvm.exec) (hb : c.code = cc) (hml : c.maxLocals = nL) (hls : ls.size = nL) (hown : s.vm.findClass own = some m.cls) (hK : KK g s) (hZ : ZZ base s s.heap) (hP : pic g base ad S H) (hS : va_S (fun q => base ≤ q) s.heap H locs)
    (hM : Met l y [Cond.code y bytes maxL ret] rm (va_Pc As (PK g base ad S)) (gQ g base P) rm.cells rm.slots (fun q => base ≤ q)) {is : Nat} (hst : lw_tbl[is]? = some (.static y)) (cb : CallB R s args own index y bytes maxL ret [Cond.code y bytes maxL ret] rm rm.cells rm.slots n) (hn : As.length = n) (hstk : st0 = As.reverse ++ rest) (hcat : (rest.map fun v => v.category).sum ≤ 8) (hdg : decode cc pc = .ok (.invokestatic index, 3)) (hf : cells + rm.cells ≤ R.cells ∧ slots + rm.slots ≤ R.slots)
    (kk : ∀ (r : Option Value) (ad' : Nat → Nat → Nat) (S' : St) (H1 : Heap) (locs1 : List Loc), P r ad' S' → pic g base ad' S' H1 → va_S (fun q => base ≤ q) s.heap H1 locs1 → W p l e R s m args below meth c H1 locs1 (cells + rm.cells) (slots + rm.slots) Q (F0 m (pc + 3) ls (r.toList ++ rest))) : W p l e R s m args below meth c H locs cells slots Q (F0 m pc ls st0) :=
  q_go (va_runS (As := As) (rest := rest) (Ts := []) ⟨hx, hb, hml, hown, fun _ h => nomatch h⟩ hM ⟨cb, hK.b is hst rfl⟩ (q_pre hK hZ hP hS As) rfl hn hls hstk (lv_room hcat) hdg hf) hS kk
theorem q_callSx (hx : p.tables.exec = Jvm.exec) (hb : c.code = cc) (hml : c.maxLocals = nL) (hls : ls.size = nL) (hown : s.vm.findClass own = some m.cls) (hK : KK g s) (hZ : ZZ base s s.heap) (hP : pic g base ad S H) (hS : va_S (fun q => base ≤ q) s.heap H locs) {PX : String → Prop}
    (hM : vx_Met l y [Cond.code y bytes maxL ret] rm (va_Pc As (PK g base ad S)) (gQ g base P) (xQ g base ad S PX) rm.cells rm.slots (fun q => base ≤ q)) {is : Nat} (hst : lw_tbl[is]? = some (.static y)) (cb : CallB R s args own index y bytes maxL ret [Cond.code y bytes maxL ret] rm rm.cells rm.slots n) (hn : As.length = n) (hstk : st0 = As.reverse ++ rest) (hcat : (rest.map fun v => v.category).sum ≤ 8) (hdg : decode cc pc = .ok (.invokestatic index, 3)) (hf : cells + rm.cells ≤ R.cells ∧ slots + rm.slots ≤ R.slots)
    (kx : ∀ (E : String) (ce : Cell) (q : Nat) (H1 : Heap) (locs1 : List Loc), PX E → H1[q]? = some ce → ce.vm = .none → s.vm.findClass E = some ce.cls → pic g base ad S H1 → va_S (fun q => base ≤ q) s.heap H1 locs1 → vx_W p l e R s m args below meth c H1 locs1 (cells + rm.cells) (slots + rm.slots) Q (F0 m pc ls rest) q)
    (kk : ∀ (r : Option Value) (ad' : Nat → Nat → Nat) (S' : St) (H1 : Heap) (locs1 : List Loc), P r ad' S' → pic g base ad' S' H1 → va_S (fun q => base ≤ q) s.heap H1 locs1 → W p l e R s m args below meth c H1 locs1 (cells + rm.cells) (slots + rm.slots) Q (F0 m (pc + 3) ls (r.toList ++ rest))) : W p l e R s m args below meth c H locs cells slots Q (F0 m pc ls st0) :=
  q_gox (vx_runS (As := As) (rest := rest) (Ts := []) ⟨hx, hb, hml, hown, fun _ h => nomatch h⟩ hM ⟨cb, hK.b is hst rfl⟩ (q_pre hK hZ hP hS As) rfl hn hls hstk (lv_room hcat) hdg hf) hS kx kk
/-- a static method of a nest mate -/
theorem q_callN (hx : p.tables.exec = Jvm.exec) (hb : c.code = cc) (hml : c.maxLocals = nL) (hls : ls.size = nL) (hown : s.vm.findClass own = some m.cls) (hK : KK g s) (hZ : ZZ base s s.heap) (hP : pic g base ad S H) (hS : va_S (fun q => base ≤ q) s.heap H locs)
    (hM : Met l y [Cond.code y bytes maxL ret] rm (va_Pc As (PK g base ad S)) (gQ g base P) rm.cells rm.slots (fun q => base ≤ q)) {il ii ic is : Nat} {host : String} (hl : lw_tbl[il]? = some (.methodLinkNest own index y host)) (hi : lw_tbl[ii]? = some (.initialized y.cls)) (hc : lw_tbl[ic]? = some (.code y bytes maxL ret)) (hst : lw_tbl[is]? = some (.static y)) (hfa : (y.cls ≠ "java/lang/invoke/MethodHandle" ∧ y.cls ≠ "java/lang/invoke/VarHandle") ∧ (parseMethodDescriptor y.desc).map (fun d => d.parameters.length) = some n) (hR : rm.frames + 1 ≤ R.frames ∧ 8 + (maxL + 11) + rm.locals ≤ R.locals) (hn : As.length = n) (hstk : st0 = As.reverse ++ rest) (hcat : (rest.map fun v => v.category).sum ≤ 8) (hdg : decode cc pc = .ok (.invokestatic index, 3)) (hf : cells + rm.cells ≤ R.cells ∧ slots + rm.slots ≤ R.slots)
    (kk : ∀ (r : Option Value) (ad' : Nat → Nat → Nat) (S' : St) (H1 : Heap) (locs1 : List Loc), P r ad' S' → pic g base ad' S' H1 → va_S (fun q => base ≤ q) s.heap H1 locs1 → W p l e R s m args below meth c H1 locs1 (cells + rm.cells) (slots + rm.slots) Q (F0 m (pc + 3) ls (r.toList ++ rest))) : W p l e R s m args below meth c H locs cells slots Q (F0 m pc ls st0) := by
  refine q_go (va_runSN (As := As) (rest := rest) (Ts := []) (host := host) ⟨hx, hb, hml, hown, fun _ h => nomatch h⟩ hM ⟨⟨⟨rfl, rfl, hR.1, hR.2, fun w hw a' U hW => ?_, List.mem_cons_self⟩, hK.b ic hc rfl, hK.b ii hi rfl, hfa.1, fun sig h => ?_, hK.b il hl rfl⟩, hK.b is hst rfl, trivial⟩ (q_pre hK hZ hP hS As) rfl hn hls hstk (lv_room hcat) hdg hf) hS kk
  · rw [List.mem_singleton.mp hw]
    exact (hK.warm hW).b ic hc rfl
  · have h2 := hfa.2
    rw [h] at h2
    exact (Option.some.inj h2).symm
/-- a method of an object -/
theorem q_callV (hx : p.tables.exec = Jvm.exec) (hb : c.code = cc) (hml : c.maxLocals = nL) (hls : ls.size = nL) (hown : s.vm.findClass own = some m.cls) (hK : KK g s) (hZ : ZZ base s s.heap) (hP : pic g base ad S H) (hS : va_S (fun q => base ≤ q) s.heap H locs) {o k : Nat} (hal : S o 0 (-1) = 1) (hk : kd o = k) (hok : okr k 0 = true) {C : String} {T : u_T} {N : Nat} (hcl : vwCl[clsK k]? = some (C, T, N))
    (hM : Met l y [Cond.code y bytes maxL ret] rm (va_Pc (.ref (ad o 0) :: As) (PK g base ad S)) (gQ g base P) rm.cells rm.slots (fun q => base ≤ q)) {im is : Nat} (him : lw_tbl[im]? = some (.instanceMethod y)) (his : lw_tbl[is]? = some (.selects C y y)) (cb : CallB R s args own index y bytes maxL ret [Cond.code y bytes maxL ret] rm rm.cells rm.slots n) (hn : As.length = n) (hstk : st0 = As.reverse ++ .ref (ad o 0) :: rest) (hcat : (rest.map fun v => v.category).sum ≤ 8) (hdg : decode cc pc = .ok (.invokevirtual index, 3)) (hf : cells + rm.cells ≤ R.cells ∧ slots + rm.slots ≤ R.slots)
    (kk : ∀ (r : Option Value) (ad' : Nat → Nat → Nat) (S' : St) (H1 : Heap) (locs1 : List Loc), P r ad' S' → pic g base ad' S' H1 → va_S (fun q => base ≤ q) s.heap H1 locs1 → W p l e R s m args below meth c H1 locs1 (cells + rm.cells) (slots + rm.slots) Q (F0 m (pc + 3) ls (r.toList ++ rest))) : W p l e R s m args below meth c H locs cells slots Q (F0 m pc ls st0) :=
  q_go (va_runV (As := As) (rest := rest) (Ts := []) ⟨hx, hb, hml, hown, fun _ h => nomatch h⟩ hM ⟨cb, hK.b im him rfl, hK.b is his rfl⟩ ⟨(q_pre hK hZ hP hS _).1, q_recv hK hP hal hk hok hcl, (q_pre hK hZ hP hS _).2⟩ rfl hn hls hstk (lv_room hcat) hdg hf) hS kk
theorem q_callVx (hx : p.tables.exec = Jvm.exec) (hb : c.code = cc) (hml : c.maxLocals = nL) (hls : ls.size = nL) (hown : s.vm.findClass own = some m.cls) (hK : KK g s) (hZ : ZZ base s s.heap) (hP : pic g base ad S H) (hS : va_S (fun q => base ≤ q) s.heap H locs) {o k : Nat} (hal : S o 0 (-1) = 1) (hk : kd o = k) (hok : okr k 0 = true) {C : String} {T : u_T} {N : Nat} (hcl : vwCl[clsK k]? = some (C, T, N)) {PX : String → Prop}
    (hM : vx_Met l y [Cond.code y bytes maxL ret] rm (va_Pc (.ref (ad o 0) :: As) (PK g base ad S)) (gQ g base P) (xQ g base ad S PX) rm.cells rm.slots (fun q => base ≤ q)) {im is : Nat} (him : lw_tbl[im]? = some (.instanceMethod y)) (his : lw_tbl[is]? = some (.selects C y y)) (cb : CallB R s args own index y bytes maxL ret [Cond.code y bytes maxL ret] rm rm.cells rm.slots n) (hn : As.length = n) (hstk : st0 = As.reverse ++ .ref (ad o 0) :: rest) (hcat : (rest.map fun v => v.category).sum ≤ 8) (hdg : decode cc pc = .ok (.invokevirtual index, 3)) (hf : cells + rm.cells ≤ R.cells ∧ slots + rm.slots ≤ R.slots)
    (kx : ∀ (E : String) (ce : Cell) (q : Nat) (H1 : Heap) (locs1 : List Loc), PX E → H1[q]? = some ce → ce.vm = .none → s.vm.findClass E = some ce.cls → pic g base ad S H1 → va_S (fun q => base ≤ q) s.heap H1 locs1 → vx_W p l e R s m args below meth c H1 locs1 (cells + rm.cells) (slots + rm.slots) Q (F0 m pc ls rest) q)
    (kk : ∀ (r : Option Value) (ad' : Nat → Nat → Nat) (S' : St) (H1 : Heap) (locs1 : List Loc), P r ad' S' → pic g base ad' S' H1 → va_S (fun q => base ≤ q) s.heap H1 locs1 → W p l e R s m args below meth c H1 locs1 (cells + rm.cells) (slots + rm.slots) Q (F0 m (pc + 3) ls (r.toList ++ rest))) : W p l e R s m args below meth c H locs cells slots Q (F0 m pc ls st0) :=
  q_gox (vx_runV (As := As) (rest := rest) (Ts := []) ⟨hx, hb, hml, hown, fun _ h => nomatch h⟩ hM ⟨cb, hK.b im him rfl, hK.b is his rfl⟩ ⟨(q_pre hK hZ hP hS _).1, q_recv hK hP hal hk hok hcl, (q_pre hK hZ hP hS _).2⟩ rfl hn hls hstk (lv_room hcat) hdg hf) hS kx kk
end OPS
theorem mk_metx {l : Launch} {y : MethodName} {cc : ByteArray} {maxL : Nat} {ret : Option FieldType} {own : String} {g : GT} {base : Nat} {ad : Nat → Nat → Nat} {S : St} {av : List Value} {lv0 : List (Nat × Value)} {rm : Room} {Qc : Array Value → State → Outcome → State → Prop} {XC : String → State → State → Prop} {mc ms : Nat}
    (hy : plainName y.cls = true) (ho : y.cls = own) (hn : (lg_sl av).length ≤ maxL) (hlv : lv_args 0 av = lv0)
    (body : ∀ (p : Program) (e : Env) (s : State) (m : MethodId) (below : List Frame) (meth : Method) (c : Code), p.tables.exec = Jvm.exec → c.code = cc → meth.sig.returnType = ret → c.maxLocals = maxL → s.vm.findClass own = some m.cls → meth.locks = false → meth.name = y.name → (∀ x ∈ c.exceptionTable.toList, False) → KK g s → ZZ base s s.heap → pic g base ad S s.heap → ∀ ls : Array Slot, lv_has ls maxL lv0 →
      W p l e rm s m av.toArray below meth c s.heap [] 0 0 (vx_MQ below Qc XC av.toArray s mc ms (fun q => base ≤ q)) (F0 m 0 ls [])) :
    vx_Met l y [Cond.code y cc maxL ret] rm (va_Pc av (PK g base ad S)) Qc XC mc ms (fun q => base ≤ q) := by
  refine vx_ofW (cc := cc) (maxL := maxL) (ret := ret) hy rfl ?_
  intro p e s m args below meth c s₁ B hml hout hv
  obtain ⟨rfl, hK, hZ, hP⟩ := hv
  have hown : s.vm.findClass own = some m.cls := by rw [← ho]; exact findClass_of_methodNamed B.named
  rw [lg_entry_eq]
  exact body p e s m below meth c B.exec B.bytes B.returns hml hown B.notSynchronized (name_of_methodNamed B.named B.method).1 hout hK hZ hP _ (hlv ▸ lv_entry av hn)
