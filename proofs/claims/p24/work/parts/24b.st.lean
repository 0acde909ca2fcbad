/-! ===== answers with what they tell; exceptions with what they tell; the bounds of the class's rows ===== -/
section QT
variable {p : Program} {l : Launch} {e : Env} {R : Room} {s : State} {m : MethodId} {args : Array Value} {below : List Frame} {meth : Method} {c : Code} {H : Heap} {locs : List Loc} {cells slots : Nat} {Q : State → Prop}
variable {cc : ByteArray} {pc : Nat} {ls : Array Slot} {rest st0 : List Value} {g : GT} {base : Nat} {ad : Nat → Nat → Nat} {S : St} {own : String}
/-- 'throw new E("text")' with a wide ldc -/
theorem q_throwW (hx : p.tables.exec = Jvm.exec) (hb : c.code = cc) (hfl : l.stackTraces = false) {cls text : String} {ik is ic it ii iss : Nat} {nL : Nat} (hml : c.maxLocals = nL) (hls : ls.size = nL)
    (hown : s.vm.findClass own = some m.cls) (hK : KK g s) (hZ : ZZ base s s.heap) (hcls : Bundle.fit cls = true)
    (hk : lw_tbl[ik]? = some (.classLink own it cls)) (hini : lw_tbl[ii]? = some (.initialized cls)) (hstr : lw_tbl[iss]? = some (.stringRef own is text)) (hat : ∀ w ∈ vx_atS own ic cls ["java/lang/RuntimeException", "java/lang/Exception"], w.before args s = true)
    (hgood : ∀ w ∈ Cond.classLink own it cls :: Cond.initialized cls :: vx_atS own ic cls ["java/lang/RuntimeException", "java/lang/Exception"], vx_ot w = true)
    (hP : pic g base ad S H) (hS : va_S (fun q => base ≤ q) s.heap H locs)
    (d0 : decode cc pc = .ok (.new it, 3)) (d3 : decode cc (pc + 3) = .ok (.dup, 1)) (d4 : decode cc (pc + 4) = .ok (.ldc_w is, 3)) (d7 : decode cc (pc + 7) = .ok (.invokespecial ic, 3)) (d10 : decode cc (pc + 10) = .ok (.athrow, 1))
    (hout : ∀ x ∈ c.exceptionTable.toList, False)
    (hRf : 5 < R.frames) (hRl : (rest.map fun v => v.category).sum + 82 ≤ R.locals) (hRc : cells + 1 ≤ R.cells) (hRs : slots + 6 ≤ R.slots) (hlocks : meth.locks = false) {PX : String → Prop} (hPX : PX cls) {Qc : Array Value → State → Outcome → State → Prop} {mc ms : Nat}
    (hc : cells + 1 ≤ mc) (hs : slots + 6 ≤ ms) :
    W p l e R s m args below meth c H locs cells slots (vx_MQ below Qc (xQ g base ad S PX) args s mc ms (fun q => base ≤ q)) (F0 m pc ls rest) := by
  obtain ⟨sa, hsa⟩ := hK.2.2.1 iss own is text hstr
  refine vx_throwSW (names := ["java/lang/RuntimeException", "java/lang/Exception"]) (A := fun q => base ≤ q) hx hb hfl hown hcls (by decide) (hK.b ik hk rfl) (hK.b ii hini rfl) hsa hat hgood hZ.1 hZ.2 hS (hls.trans hml.symm) d0 d3 d4 d7 d10 (fun x h => (hout x h).elim) hRf hRl hRc hRs hlocks (fun t _ h1 h2 => ⟨hPX, hP.grow h1 h2, hS.grow h1 h2⟩) hS.2.2 hc hs
theorem q_anc {C : Prop} {v : Option Value} {ad2 : Nat → Nat → Nat} {S2 : St} {G : Option Value → (Nat → Nat → Nat) → St → Heap → List Loc → Prop} (kk : ∀ (_ : C) (H1 : Heap) (locs1 : List Loc), pic g base ad2 S2 H1 → va_S (fun q => base ≤ q) s.heap H1 locs1 → G v ad2 S2 H1 locs1) :
    ∀ (r : Option Value) (ad' : Nat → Nat → Nat) (S' : St) (H1 : Heap) (locs1 : List Loc), (C ∧ an v ad2 S2 r ad' S') → pic g base ad' S' H1 → va_S (fun q => base ≤ q) s.heap H1 locs1 → G r ad' S' H1 locs1 := by
  intro r ad' S' H1 locs1 h hP hS
  obtain ⟨h0, h1, h2, h3⟩ := h
  rw [h1, h2, h3]
  rw [h2, h3] at hP
  exact kk h0 H1 locs1 hP hS
end QT
abbrev eA : String := "java/lang/IllegalArgumentException"
abbrev eS : String := "java/lang/IllegalStateException"
abbrev eB : String := "java/lang/IndexOutOfBoundsException"
/-- the exception of the first condition that does not hold -/
def t3 (X1 X2 X3 : String) (A B C : Prop) (E : String) : Prop := (E = X1 ∧ ¬ A) ∨ (E = X2 ∧ A ∧ ¬ B) ∨ (E = X3 ∧ A ∧ B ∧ ¬ C)
def ceC (S : St) (x : Int) : Prop := 0 ≤ x ∧ x < 5 ∧ S 1 3 x = 1
def peC (S : St) (x : Int) : Prop := 0 ≤ x ∧ x < 20 ∧ S 1 6 x = 1
noncomputable def dnC (S : St) (o : Nat) : Prop := wnC S o = S o 0 0 * S o 0 1
def cC (S : St) (o : Nat) : Prop := S o 0 (-1) = 1 ∧ (2 ≤ S o 0 0 ∧ S o 0 0 ≤ 12) ∧ (0 ≤ S o 0 1 ∧ S o 0 1 ≤ 10)
noncomputable def pC (S : St) (o : Nat) : Prop := S o 0 (-1) = 1 ∧ (1 ≤ S o 0 0 ∧ S o 0 0 ≤ 24) ∧ (1 ≤ S o 0 1 ∧ S o 0 1 ≤ 10) ∧ (0 ≤ S o 0 2 ∧ S o 0 2 ≤ 4) ∧ (∀ j, 0 ≤ j → j < 240 → 0 ≤ S o 7 j ∧ S o 7 j ≤ 100) ∧ (∀ j, 0 ≤ j → j < 24 → 0 ≤ S o 8 j ∧ S o 8 j ≤ 1000) ∧
  (∀ w, 0 ≤ w → w < 4 → 0 ≤ S o 4 w ∧ S o 4 w ≤ 10) ∧ (dnC S o → ∀ r c, 0 ≤ r → r < S o 0 1 → 0 ≤ c → c < S o 0 0 → 0 ≤ S o 6 (r * 24 + c) ∧ S o 6 (r * 24 + c) < S 2 0 0) ∧ (∀ w, 0 ≤ w → w < S o 0 2 → S o 4 w < S o 0 1 → S o 0 0 ≤ 12)
noncomputable def wC (S : St) : Prop := S 1 0 (-1) = 1 ∧ S 2 0 (-1) = 1 ∧ (0 ≤ S 1 0 1 ∧ S 1 0 1 ≤ 12) ∧ (0 ≤ S 1 0 3 ∧ S 1 0 3 ≤ 5) ∧ (0 ≤ S 1 0 6 ∧ S 1 0 6 ≤ 20) ∧ (0 ≤ S 2 0 0 ∧ S 2 0 0 ≤ 20) ∧
  (∀ j, 0 ≤ j → j < 20 → 0 ≤ S 2 4 j ∧ S 2 4 j ≤ 999) ∧ (∀ j, 0 ≤ j → j < 20 → 0 ≤ S 2 5 j ∧ S 2 5 j ≤ 9) ∧ (∀ j, 0 ≤ j → j < 20 → 0 ≤ S 2 3 j ∧ S 2 3 j ≤ 999) ∧ (∀ x, ceC S x → cC S (4 + x.toNat)) ∧ (∀ x, peC S x → pC S (10 + x.toNat))
theorem wC.h1 {S : St} (h : wC S) : S 1 0 (-1) = 1 := h.1
theorem wC.h2 {S : St} (h : wC S) : S 2 0 (-1) = 1 := h.2.1
theorem wC.wl {S : St} (h : wC S) : 0 ≤ S 1 0 1 ∧ S 1 0 1 ≤ 12 := h.2.2.1
theorem wC.cc {S : St} (h : wC S) : 0 ≤ S 1 0 3 ∧ S 1 0 3 ≤ 5 := h.2.2.2.1
theorem wC.pc {S : St} (h : wC S) : 0 ≤ S 1 0 6 ∧ S 1 0 6 ≤ 20 := h.2.2.2.2.1
theorem wC.lc {S : St} (h : wC S) : 0 ≤ S 2 0 0 ∧ S 2 0 0 ≤ 20 := h.2.2.2.2.2.1
theorem wC.lf {S : St} (h : wC S) : ∀ j, 0 ≤ j → j < 20 → 0 ≤ S 2 4 j ∧ S 2 4 j ≤ 999 := h.2.2.2.2.2.2.1
theorem wC.fd {S : St} (h : wC S) : ∀ j, 0 ≤ j → j < 20 → 0 ≤ S 2 5 j ∧ S 2 5 j ≤ 9 := h.2.2.2.2.2.2.2.1
theorem wC.fi {S : St} (h : wC S) : ∀ j, 0 ≤ j → j < 20 → 0 ≤ S 2 3 j ∧ S 2 3 j ≤ 999 := h.2.2.2.2.2.2.2.2.1
theorem wC.ce {S : St} (h : wC S) {x : Int} (q : ceC S x) : cC S (4 + x.toNat) := h.2.2.2.2.2.2.2.2.2.1 x q
theorem wC.pe {S : St} (h : wC S) {x : Int} (q : peC S x) : pC S (10 + x.toNat) := h.2.2.2.2.2.2.2.2.2.2 x q
theorem kd_c {x : Int} (h0 : 0 ≤ x) (h1 : x < 5) : kd (4 + x.toNat) = 4 := by
  unfold kd
  repeat' split
  all_goals omega
theorem kd_p {x : Int} (h0 : 0 ≤ x) : kd (10 + x.toNat) = 5 := by
  unfold kd
  repeat' split
  all_goals omega
