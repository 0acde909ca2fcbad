/-! ===== numbers: an int of the machine, written as an integer ===== -/
def i32 (z : Int) : Int32 := Int32.ofInt z
def rng (z : Int) : Prop := -2147483648 ≤ z ∧ z < 2147483648
theorem i32_toInt {z : Int} (h : rng z) : (i32 z).toInt = z := Int32.toInt_ofInt_of_le (by have := h.1; omega) (by have := h.2; omega)
theorem i32_of (x : Int32) : ∃ z, rng z ∧ x = i32 z := ⟨x.toInt, ⟨by have := x.le_toInt; omega, by have := x.toInt_lt; omega⟩, (Int32.ofInt_toInt x).symm⟩
theorem i32_add (a b : Int) : i32 a + i32 b = i32 (a + b) := (Int32.ofInt_add a b).symm
theorem i32_sub (a b : Int) : i32 a - i32 b = i32 (a - b) := (Int32.ofInt_sub a b).symm
theorem i32_mul (a b : Int) : i32 a * i32 b = i32 (a * b) := (Int32.ofInt_mul a b).symm
theorem i32_lt {a b : Int} (ha : rng a) (hb : rng b) : i32 a < i32 b ↔ a < b := by rw [Int32.lt_iff_toInt_lt, i32_toInt ha, i32_toInt hb]
theorem i32_le {a b : Int} (ha : rng a) (hb : rng b) : i32 a ≤ i32 b ↔ a ≤ b := by rw [Int32.le_iff_toInt_le, i32_toInt ha, i32_toInt hb]
theorem i32_inj {a b : Int} (ha : rng a) (hb : rng b) : i32 a = i32 b ↔ a = b := by rw [← Int32.toInt_inj, i32_toInt ha, i32_toInt hb]
theorem i32_0 : i32 0 = 0 := rfl
theorem rng_0 : rng 0 := ⟨by decide, by decide⟩
theorem i32_ofInt (n : Int) : Int32.ofInt n = i32 n := rfl
theorem i32_div {a b : Int} (ha : 0 ≤ a) (ha2 : a < 2147483648) (hb : 0 < b) (hb2 : b < 2147483648) : i32 a / i32 b = i32 (a / b) := by
  have h1 : 0 ≤ a / b := Int.ediv_nonneg ha (by omega)
  have h2 : a / b ≤ a := Int.ediv_le_self b ha
  refine Int32.toInt_inj.mp ?_
  rw [Int32.toInt_div_of_ne_right _ _ (fun h => ?_), i32_toInt ⟨by omega, ha2⟩, i32_toInt ⟨by omega, hb2⟩, i32_toInt ⟨by omega, by omega⟩, Int.tdiv_eq_ediv_of_nonneg ha]
  have h3 := congrArg Int32.toInt h
  rw [i32_toInt ⟨by omega, hb2⟩] at h3
  have h4 : (-1 : Int32).toInt = -1 := by decide
  omega
theorem i32_rem {a b : Int} (ha : 0 ≤ a) (ha2 : a < 2147483648) (hb : 0 < b) (hb2 : b < 2147483648) : i32 a - i32 a / i32 b * i32 b = i32 (a % b) := by
  rw [i32_div ha ha2 hb hb2, i32_mul, i32_sub]
  congr 1
  have := Int.emod_add_mul_ediv a b
  rw [Int.mul_comm] at this
  omega
theorem i32_clamp {z : Int} (h0 : 0 ≤ z) (h : z < 2147483648) : (i32 z).toNatClampNeg = z.toNat := by
  rw [← Int32.toNat_toInt, i32_toInt ⟨by omega, h⟩]
theorem i32_in {z : Int} {n : Nat} (h0 : 0 ≤ z) (h : z < n) (hn : n < 2147483648) : vp_in (i32 z) n := by
  have hr : rng z := ⟨by omega, by omega⟩
  refine vp_in_iff.mpr ⟨?_, ?_⟩ <;> rw [i32_toInt hr] <;> omega
theorem i32_nI (n : Nat) : nI n = i32 n := (Int32.ofInt_eq_ofNat (n := n)).symm
def i64 (z : Int) : Int64 := Int64.ofInt z
theorem i64_of32 {z : Int} (h : rng z) : (i32 z).toInt64 = i64 z := by
  refine Int64.toInt_inj.mp ?_
  rw [Int32.toInt_toInt64, i32_toInt h]
  exact (Int64.toInt_ofInt_of_le (by have := h.1; omega) (by have := h.2; omega)).symm
theorem i64_toInt {z : Int} (h : rng z) : (i64 z).toInt = z := Int64.toInt_ofInt_of_le (by have := h.1; omega) (by have := h.2; omega)
theorem i64_inj {a b : Int} (ha : rng a) (hb : rng b) : i64 a = i64 b ↔ a = b := by rw [← Int64.toInt_inj, i64_toInt ha, i64_toInt hb]
/-! ===== the state: for each object and each of its rows (0: its own fields; k + 1: the array in its field k) what stands at each place; at place -1 of row 0: 1, if the object is there ===== -/
abbrev St : Type := Nat → Nat → Int → Int
def ud (f : Int → Int) (j v : Int) : Int → Int := fun x => if x = j then v else f x
def stR (S : St) (o r : Nat) (f : Int → Int) : St := fun x y => if x = o ∧ y = r then f else S x y
def st (S : St) (o r : Nat) (j v : Int) : St := stR S o r (ud (S o r) j v)
theorem st_at (S : St) (o r : Nat) (j v : Int) (o' r' : Nat) (j' : Int) : st S o r j v o' r' j' = if o' = o ∧ r' = r ∧ j' = j then v else S o' r' j' := by
  unfold st stR ud
  by_cases h : o' = o ∧ r' = r
  · obtain ⟨rfl, rfl⟩ := h
    by_cases h2 : j' = j <;> simp [h2]
  · rw [if_neg h, if_neg (fun q => h ⟨q.1, q.2.1⟩)]
/-- what the machine's classes of arrays are: of ints, booleans, Cartoons, Pieces -/
abbrev GT : Type := va_G × (ClassId × ClassId × ClassId × ClassId)
def tys (g : GT) : List (ClassId × FieldType) := [(g.2.1, .int), (g.2.2.1, .boolean), (g.2.2.2.1, .object RX0), (g.2.2.2.2, .object RX2)]
/-- the kinds: 1 the class's object, 2 its lots, 3 the law's rows (1 g, 2 d, 3 c, 4 v), 4 a cartoon, 5 a piece -/
def kd (o : Nat) : Nat := if o < 4 then o else if o < 10 then 4 else 5
/-- the arrays: for a kind and a row its sort (0 int, 1 boolean, 3 Cartoon, 4 Piece) and length -/
def arK (k r : Nat) : Option (Nat × Nat) := match k, r with
  | 1, 1 => some (0, 12)
  | 1, 3 => some (3, 5)
  | 1, 6 => some (4, 20)
  | 1, 8 => some (0, 20)
  | 2, 2 => some (0, 20)
  | 2, 3 => some (0, 20)
  | 2, 4 => some (0, 20)
  | 2, 5 => some (0, 20)
  | 2, 6 => some (1, 20)
  | 3, 1 => some (0, 4)
  | 3, 2 => some (0, 10)
  | 3, 3 => some (0, 20)
  | 3, 4 => some (0, 20)
  | 4, 3 => some (0, 120)
  | 5, 4 => some (0, 4)
  | 5, 5 => some (0, 240)
  | 5, 6 => some (0, 240)
  | 5, 7 => some (0, 240)
  | 5, 8 => some (0, 24)
  | 5, 9 => some (1, 24)
  | _, _ => none
def fldsK (k : Nat) (ad : Nat → Nat → Nat) (o : Nat) (f : Int → Int) : List Value := match k with
  | 1 => [.ref (ad o 1), .int (i32 (f 1)), .ref (ad o 3), .int (i32 (f 3)), .ref (ad 2 0), .ref (ad o 6), .int (i32 (f 6)), .ref (ad o 8)]
  | 2 => [.int (i32 (f 0)), .ref (ad o 2), .ref (ad o 3), .ref (ad o 4), .ref (ad o 5), .ref (ad o 6)]
  | 4 => [.int (i32 (f 0)), .int (i32 (f 1)), .ref (ad o 3), .int (i32 (f 3)), .int (i32 (f 4))]
  | 5 => [.int (i32 (f 0)), .int (i32 (f 1)), .int (i32 (f 2)), .ref (ad o 4), .ref (ad o 5), .ref (ad o 6), .ref (ad o 7), .ref (ad o 8), .ref (ad o 9)]
  | _ => []
def clsK (k : Nat) : Nat := match k with
  | 0 => 4
  | 1 => 3
  | 2 => 1
  | 4 => 0
  | _ => 2
def okr (k r : Nat) : Bool := (r == 0 && k != 3 && k != 0) || (arK k r).isSome
def arCell (g : GT) (ad : Nat → Nat → Nat) (f : Int → Int) (x : Nat × Nat) : va_E := match x.1 with
  | 0 => .inl (g.2.1, x.2, .inl (fun j => i32 (f j)))
  | 1 => .inl (g.2.2.1, x.2, .inl (fun j => i32 (f j)))
  | 3 => .inl (g.2.2.2.1, x.2, .inr (.inr (.inr (.inr (fun j => if f j = 1 then some (ad (4 + j) 0) else none)))))
  | _ => .inl (g.2.2.2.2, x.2, .inr (.inr (.inr (.inr (fun j => if f j = 1 then some (ad (10 + j) 0) else none)))))
def cellK (g : GT) (ad : Nat → Nat → Nat) (k o r : Nat) (f : Int → Int) : va_E :=
  if r = 0 then .inr (clsK k, fldsK k ad o f) else match arK k r with
  | some x => arCell g ad f x
  | none => .inr (0, [])
def pic (g : GT) (base : Nat) (ad : Nat → Nat → Nat) (S : St) (H : Heap) : Prop :=
  (∀ o r, S o 0 (-1) = 1 → okr (kd o) r = true → va_at g.1 vwCl (ad o r, cellK g ad (kd o) o r (S o r)) H ∧ base ≤ ad o r) ∧
  (∀ o r o' r', S o 0 (-1) = 1 → okr (kd o) r = true → S o' 0 (-1) = 1 → okr (kd o') r' = true → ad o r = ad o' r' → o = o' ∧ r = r') ∧
  base ≤ H.size ∧ ∀ o r j, rng (S o r j)
/-! ===== what the tables say, carried along ===== -/
def kw (w : Cond) : Bool := w.onTables && (w.keeps || match w with
  | .castable .. => true
  | .declares .. => true
  | .methodLinkNest .. => true
  | _ => false)
theorem kw_warm {w : Cond} (hk : kw w = true) {s U : State} (hW : s.WarmedH U.vm) (h : va_Nw w s) : va_Nw w U := by
  simp only [kw, Bool.and_eq_true, Bool.or_eq_true] at hk
  obtain ⟨h1, h2 | h2⟩ := hk
  · exact word_at hW (Or.inl (by rw [h1, h2]; rfl)) h
  · cases w <;> first | exact va_Nw.warmC hW h | exact va_Nw.warmD hW h | exact va_Nw.warmM hW h | exact absurd h2 (by simp)
/-- pairs of classes of exceptions of which the first is none of the second -/
def ncs : List (String × String) := [("java/lang/IllegalStateException", "java/lang/IllegalArgumentException"), ("java/lang/IndexOutOfBoundsException", "java/lang/IllegalArgumentException"), ("java/lang/IllegalArgumentException", "java/lang/IllegalStateException"), ("java/lang/IndexOutOfBoundsException", "java/lang/IllegalStateException"), ("java/lang/IllegalArgumentException", "java/lang/IndexOutOfBoundsException"), ("java/lang/IllegalStateException", "java/lang/IndexOutOfBoundsException")]
def KK (g : GT) (U : State) : Prop :=
  va_K g.1 vwCl (tys g) U ∧ (∀ (i : Nat) (w : Cond), lw_tbl[i]? = some w → kw w = true → va_Nw w U) ∧
  (∀ (i : Nat) (own : String) (k : Nat) (tx : String), lw_tbl[i]? = some (Cond.stringRef own k tx) → ∃ a, vk_R own k tx a U) ∧
  (∀ ty : FieldType, Cond.arrayClass ty ∈ lw_tbl → (Cond.arrayClass ty).before #[] U = true) ∧ va_AO RX0 U ∧ va_AO RX2 U ∧ ∀ q ∈ ncs, va_Nc q.1 q.2 U
theorem KK.warm {g : GT} {s U : State} (hW : s.WarmedH U.vm) (h : KK g s) : KK g U :=
  ⟨va_K.moved hW.alike h.1, fun i w hi hk => kw_warm hk hW (h.2.1 i w hi hk), fun i own k tx hi => by
    obtain ⟨a, ha⟩ := h.2.2.1 i own k tx hi
    exact ⟨a, vk_R.warm hW ha⟩, fun ty hty => word_at hW (Or.inr ⟨ty, rfl⟩) (h.2.2.2.1 ty hty), h.2.2.2.2.1.moved hW.alike, h.2.2.2.2.2.1.moved hW.alike, fun q hq => (h.2.2.2.2.2.2 q hq).moved hW.alike⟩
theorem KK.same {g : GT} {s U : State} (hv : s.vm = U.vm) (h : KK g s) : KK g U := by
  have hA : s.vm.Alike U.vm := by rw [hv]; exact Vm.Alike.refl _
  refine ⟨va_K.moved hA h.1, fun i w hi hk => ?_, fun i own k tx hi => ?_, fun ty hty => ?_, h.2.2.2.2.1.moved hA, h.2.2.2.2.2.1.moved hA, fun q hq => (h.2.2.2.2.2.2 q hq).moved hA⟩
  · have h1 : w.onTables = true := by
      simp only [kw, Bool.and_eq_true] at hk
      exact hk.1
    exact va_Nw.same h1 hv (h.2.1 i w hi hk)
  · obtain ⟨a, ha⟩ := h.2.2.1 i own k tx hi
    exact ⟨a, vk_R.same hv.symm ha⟩
  · have := h.2.2.2.1 ty hty
    simp only [Cond.before, Cond.holds, Cond.value, hv] at this ⊢
    exact this
theorem KK.b {g : GT} {s : State} {args : Array Value} {w : Cond} (h : KK g s) (i : Nat) (hi : lw_tbl[i]? = some w) (hk : kw w = true) : w.before args s = true := by
  have h1 : w.onTables = true := by
    simp only [kw, Bool.and_eq_true] at hk
    exact hk.1
  exact va_Nw.use h1 (h.2.1 i w hi hk)
/-- the statics that a throw reads -/
def ZZ (base : Nat) (U : State) (H : Heap) : Prop := vx_Zq Bundle.tN "UNASSIGNED_STACK" Bundle.steD (fun q => base ≤ q) U H ∧ vx_Zq Bundle.tN "SUPPRESSED_SENTINEL" Bundle.listD (fun q => base ≤ q) U H
theorem ZZ.go {base : Nat} {s U : State} {H H1 : Heap} (hA : s.vm.Alike U.vm) (hq : ∀ a : Nat, a < H.size → ¬ base ≤ a → H1[a]? = H[a]?) (h : ZZ base s H) : ZZ base U H1 := ⟨(h.1.moved hA).kept hq, (h.2.moved hA).kept hq⟩
def PK (g : GT) (base : Nat) (ad : Nat → Nat → Nat) (S : St) (U : State) : Prop := KK g U ∧ ZZ base U U.heap ∧ pic g base ad S U.heap
theorem PK_blind {g : GT} {base : Nat} {ad : Nat → Nat → Nat} {S : St} {av : List Value} : FrameBlind (va_Pc av (PK g base ad S)) := by
  intro a U f mk h
  obtain ⟨h1, h2, h3, h4⟩ := h
  refine ⟨h1, KK.same (s := U) (U := U.calling f mk a) rfl h2, ?_, h4⟩
  exact ZZ.go (s := U) (U := U.calling f mk a) (H := U.heap) (H1 := (U.calling f mk a).heap) (Vm.Alike.refl U.vm) (fun _ _ _ => rfl) h3
/-- how a method ends: with an answer, addresses and a state that P allows -/
def gQ (g : GT) (base : Nat) (P : Option Value → (Nat → Nat → Nat) → St → Prop) : Array Value → State → Outcome → State → Prop := fun _ s o t =>
  (∃ (r : Option Value) (ad' : Nat → Nat → Nat) (S' : St), o = .returned r ∧ P r ad' S' ∧ pic g base ad' S' t.heap) ∧ va_F (fun q => base ≤ q) s t
/-- .. it answers v, the state is S' -/
abbrev an (v : Option Value) (ad : Nat → Nat → Nat) (S : St) : Option Value → (Nat → Nat → Nat) → St → Prop := fun r ad' S' => r = v ∧ ad' = ad ∧ S' = S
abbrev ani (v : Int) (ad : Nat → Nat → Nat) (S : St) : Option Value → (Nat → Nat → Nat) → St → Prop := an (some (.int (i32 v))) ad S
theorem mk_met {l : Launch} {y : MethodName} {cc : ByteArray} {maxL : Nat} {ret : Option FieldType} {own : String} {g : GT} {base : Nat} {ad : Nat → Nat → Nat} {S : St} {av : List Value} {lv0 : List (Nat × Value)} {rm : Room} {Qc : Array Value → State → Outcome → State → Prop} {mc ms : Nat}
    (hy : plainName y.cls = true) (ho : y.cls = own) (hn : (lg_sl av).length ≤ maxL) (hlv : lv_args 0 av = lv0)
    (body : ∀ (p : Program) (e : Env) (s : State) (m : MethodId) (below : List Frame) (meth : Method) (c : Code), p.tables.exec = Jvm.exec → c.code = cc → meth.sig.returnType = ret → c.maxLocals = maxL → s.vm.findClass own = some m.cls → meth.locks = false → meth.name = y.name → KK g s → ZZ base s s.heap → pic g base ad S s.heap → ∀ ls : Array Slot, lv_has ls maxL lv0 →
      W p l e rm s m av.toArray below meth c s.heap [] 0 0 (MQ below Qc av.toArray s mc ms (fun q => base ≤ q)) (F0 m 0 ls [])) :
    Met l y [Cond.code y cc maxL ret] rm (va_Pc av (PK g base ad S)) Qc mc ms (fun q => base ≤ q) := by
  refine Met.ofW (cc := cc) (maxL := maxL) (ret := ret) hy rfl ?_
  intro p e s m args below meth c s₁ B hml hv
  obtain ⟨rfl, hK, hZ, hP⟩ := hv
  have hown : s.vm.findClass own = some m.cls := by rw [← ho]; exact findClass_of_methodNamed B.named
  rw [lg_entry_eq]
  exact body p e s m below meth c B.exec B.bytes B.returns hml hown B.notSynchronized (name_of_methodNamed B.named B.method).1 hK hZ hP _ (hlv ▸ lv_entry av hn)
section MS
variable {p : Program} {l : Launch} {e : Env} {R : Room} {s : State} {m : MethodId} {args : Array Value} {below : List Frame} {meth : Method} {c : Code} {H : Heap} {locs : List Loc} {cells slots : Nat} {Q : State → Prop}
variable {cc : ByteArray} {pc : Nat} {ls : Array Slot} {rest st0 : List Value} {g : GT} {base : Nat} {ad : Nat → Nat → Nat} {S : St} {own : String}
theorem pic.cell (h : pic g base ad S H) {o r k : Nat} (hal : S o 0 (-1) = 1) (hk : kd o = k) (hok : okr k r = true) : va_at g.1 vwCl (ad o r, cellK g ad k o r (S o r)) H := by
  subst hk
  exact (h.1 o r hal hok).1
theorem pic.one (h : pic g base ad S H) {o r k : Nat} (hal : S o 0 (-1) = 1) (hk : kd o = k) (hok : okr k r = true) {x : va_E} (hx : cellK g ad k o r (S o r) = x) : va_P g.1 vwCl [(ad o r, x)] H := by
  intro i q hq
  cases i with
  | zero => cases hq; rw [← hx]; exact h.cell hal hk hok
  | succ i => cases hq
theorem pic.rg (h : pic g base ad S H) (o r : Nat) (j : Int) : rng (S o r j) := h.2.2.2 o r j
/-- a field is read -/
theorem p_get (hx : p.tables.exec = Jvm.exec) (hb : c.code = cc) (hown : s.vm.findClass own = some m.cls) (hK : KK g s) (hP : pic g base ad S H) {o k : Nat} (hal : S o 0 (-1) = 1) (hk : kd o = k) (hok : okr k 0 = true) {C ref : String} {T : u_T} {N index : Nat} (hc : vwCl[clsK k]? = some (C, T, N)) (hts : ∀ w ∈ u_ws C T N, w.before args s = true) (i il : Nat) (hi : i < N) (hl : lw_tbl[il]? = some (.fieldLink own index ref (T i).2.1 (T i).2.2.1)) (href : (T i).1 = ref) {v : Value} (hv : (fldsK k ad o (S o 0))[i]? = some v) (hdg : decode cc pc = .ok (.getfield index, 3))
    (kk : W p l e R s m args below meth c H locs cells slots Q (F0 m (pc + 3) ls (v :: rest))) : W p l e R s m args below meth c H locs cells slots Q (F0 m pc ls (.ref (ad o 0) :: rest)) := by
  subst href
  exact va_get (D := g.1) (tys := tys g) (Ts := u_ws C T N) hx hb hts (fun _ h => h) hown hK.1 (hP.one hal hk hok (x := .inr (clsK k, fldsK k ad o (S o 0))) (by rfl)) 0 rfl hc i hi (hK.b il hl rfl) (fun _ h => h) hv hdg kk
theorem p_arr (hP : pic g base ad S H) {o r k : Nat} (hal : S o 0 (-1) = 1) (hk : kd o = k) {q n : Nat} (ha : arK k r = some (q, n)) (hr : r ≠ 0) : va_P g.1 vwCl [(ad o r, arCell g ad (S o r) (q, n))] H :=
  hP.one hal hk (by unfold okr; rw [ha]; simp) (by unfold cellK; rw [if_neg hr, ha])
/-- an array of ints is read -/
theorem p_iald (hx : p.tables.exec = Jvm.exec) (hb : c.code = cc) (hK : KK g s) (hP : pic g base ad S H) {o r k n : Nat} (hal : S o 0 (-1) = 1) (hk : kd o = k) (ha : arK k r = some (0, n)) (hr : r ≠ 0) (hn : n < 2147483648) {z : Int} (h0 : 0 ≤ z) (h1 : z < n) (hdg : decode cc pc = .ok (.iaload, 1))
    (kk : W p l e R s m args below meth c H locs cells slots Q (F0 m (pc + 1) ls (.int (i32 (S o r z)) :: rest))) : W p l e R s m args below meth c H locs cells slots Q (F0 m pc ls (.int (i32 z) :: .ref (ad o r) :: rest)) := by
  refine va_iald (D := g.1) (tys := tys g) hx hb hK.1 (p_arr hP hal hk ha hr) 0 0 (n := n) (f := fun j => i32 (S o r j)) rfl rfl (i32_in h0 h1 hn) hdg ?_
  rw [i32_clamp h0 (by omega), Int.toNat_of_nonneg h0]
  exact kk
theorem p_zald (hx : p.tables.exec = Jvm.exec) (hb : c.code = cc) (hK : KK g s) (hP : pic g base ad S H) {o r k n : Nat} (hal : S o 0 (-1) = 1) (hk : kd o = k) (ha : arK k r = some (1, n)) (hr : r ≠ 0) (hn : n < 2147483648) {z : Int} (h0 : 0 ≤ z) (h1 : z < n) (hdg : decode cc pc = .ok (.baload, 1))
    (kk : W p l e R s m args below meth c H locs cells slots Q (F0 m (pc + 1) ls (.int (i32 (S o r z)) :: rest))) : W p l e R s m args below meth c H locs cells slots Q (F0 m pc ls (.int (i32 z) :: .ref (ad o r) :: rest)) := by
  refine va_zald (D := g.1) (tys := tys g) hx hb hK.1 (p_arr hP hal hk ha hr) 0 1 (n := n) (f := fun j => i32 (S o r j)) rfl rfl (i32_in h0 h1 hn) hdg ?_
  rw [i32_clamp h0 (by omega), Int.toNat_of_nonneg h0]
  exact kk
/-- an array's length -/
theorem p_alen (hx : p.tables.exec = Jvm.exec) (hb : c.code = cc) (hK : KK g s) (hP : pic g base ad S H) {o r k q n : Nat} (hal : S o 0 (-1) = 1) (hk : kd o = k) (ha : arK k r = some (q, n)) (hr : r ≠ 0) (hq : q < 5) (hdg : decode cc pc = .ok (.arraylength, 1))
    (kk : W p l e R s m args below meth c H locs cells slots Q (F0 m (pc + 1) ls (.int (i32 n) :: rest))) : W p l e R s m args below meth c H locs cells slots Q (F0 m pc ls (.ref (ad o r) :: rest)) := by
  have hA := p_arr hP hal hk ha hr
  have hn : Int32.ofNat n = i32 n := i32_nI n
  rcases (show q = 0 ∨ q = 1 ∨ q = 2 ∨ q = 3 ∨ q = 4 by omega) with rfl | rfl | rfl | rfl | rfl
  · exact va_alen (D := g.1) (tys := tys g) hx hb hK.1 hA 0 0 rfl rfl hn hdg kk
  · exact va_alen (D := g.1) (tys := tys g) hx hb hK.1 hA 0 1 rfl rfl hn hdg kk
  · exact va_alen (D := g.1) (tys := tys g) hx hb hK.1 hA 0 3 rfl rfl hn hdg kk
  · exact va_alen (D := g.1) (tys := tys g) hx hb hK.1 hA 0 2 rfl rfl hn hdg kk
  · exact va_alen (D := g.1) (tys := tys g) hx hb hK.1 hA 0 3 rfl rfl hn hdg kk
/-- the array of cartoons, of pieces is read -/
theorem p_aldC (hx : p.tables.exec = Jvm.exec) (hb : c.code = cc) (hK : KK g s) (hP : pic g base ad S H) {o r k n : Nat} (hal : S o 0 (-1) = 1) (hk : kd o = k) (ha : arK k r = some (3, n)) (hr : r ≠ 0) (hn : n < 2147483648) {z : Int} (h0 : 0 ≤ z) (h1 : z < n) (hdg : decode cc pc = .ok (.aaload, 1))
    (kk : W p l e R s m args below meth c H locs cells slots Q (F0 m (pc + 1) ls (va_rf (if S o r z = 1 then some (ad (4 + z.toNat) 0) else none) :: rest))) : W p l e R s m args below meth c H locs cells slots Q (F0 m pc ls (.int (i32 z) :: .ref (ad o r) :: rest)) := by
  refine va_aldq (D := g.1) (tys := tys g) (C := RX0) hx hb hK.1 (p_arr hP hal hk ha hr) 0 2 (n := n) (f := fun j => if S o r j = 1 then some (ad (4 + j) 0) else none) rfl rfl (i32_in h0 h1 hn) hdg ?_
  rw [i32_clamp h0 (by omega), Int.toNat_of_nonneg h0]
  exact kk
theorem p_aldP (hx : p.tables.exec = Jvm.exec) (hb : c.code = cc) (hK : KK g s) (hP : pic g base ad S H) {o r k n : Nat} (hal : S o 0 (-1) = 1) (hk : kd o = k) (ha : arK k r = some (4, n)) (hr : r ≠ 0) (hn : n < 2147483648) {z : Int} (h0 : 0 ≤ z) (h1 : z < n) (hdg : decode cc pc = .ok (.aaload, 1))
    (kk : W p l e R s m args below meth c H locs cells slots Q (F0 m (pc + 1) ls (va_rf (if S o r z = 1 then some (ad (10 + z.toNat) 0) else none) :: rest))) : W p l e R s m args below meth c H locs cells slots Q (F0 m pc ls (.int (i32 z) :: .ref (ad o r) :: rest)) := by
  refine va_aldq (D := g.1) (tys := tys g) (C := RX2) hx hb hK.1 (p_arr hP hal hk ha hr) 0 3 (n := n) (f := fun j => if S o r j = 1 then some (ad (10 + j) 0) else none) rfl rfl (i32_in h0 h1 hn) hdg ?_
  rw [i32_clamp h0 (by omega), Int.toNat_of_nonneg h0]
  exact kk
/-- one cell has changed: the picture of the new state -/
theorem pic.put (hP : pic g base ad S H) {o r k : Nat} (hal : S o 0 (-1) = 1) (hk : kd o = k) (hok : okr k r = true) {j v : Int} (hj : 0 ≤ j) (hv : rng v) {H1 : Heap} (he : va_at g.1 vwCl (ad o r, cellK g ad k o r (ud (S o r) j v)) H1) (hz : H1.size = H.size) (oq : ∀ q : Nat, q ≠ ad o r → H1[q]? = H[q]?) : pic g base ad (st S o r j v) H1 := by
  subst hk
  have hm : ∀ x : Nat, st S o r j v x 0 (-1) = S x 0 (-1) := fun x => by rw [st_at, if_neg (by omega)]
  refine ⟨fun x y h1 h2 => ?_, fun x y x' y' h1 h2 h3 h4 h5 => hP.2.1 x y x' y' (hm x ▸ h1) h2 (hm x' ▸ h3) h4 h5, by rw [hz]; exact hP.2.2.1, fun x y i => ?_⟩
  · rw [hm] at h1
    refine ⟨?_, (hP.1 x y h1 h2).2⟩
    by_cases hxy : x = o ∧ y = r
    · obtain ⟨rfl, rfl⟩ := hxy
      have : st S x y j v x y = ud (S x y) j v := by unfold st stR; rw [if_pos ⟨rfl, rfl⟩]
      rw [this]
      exact he
    · have : st S o r j v x y = S x y := by unfold st stR; rw [if_neg hxy]
      rw [this]
      exact (hP.1 x y h1 h2).1.kept (oq _ (fun e => hxy (hP.2.1 x y o r h1 h2 hal hok e)))
  · rw [st_at]
    split
    · exact hv
    · exact hP.2.2.2 x y i
theorem va_S.loc {A : Nat → Prop} {H0 H H1 : Heap} {locs : List Loc} {a k : Nat} (h : va_S A H0 H locs) (z : H1.size = H.size) (oq : ∀ q : Nat, q ≠ a → H1[q]? = H[q]?) (ha : A a) : va_S A H0 H1 (locs ++ [⟨a, k⟩]) := h.put z oq ha
/-- an array of ints is written -/
theorem p_iast (hx : p.tables.exec = Jvm.exec) (hb : c.code = cc) (hK : KK g s) (hP : pic g base ad S H) (hS : va_S (fun q => base ≤ q) s.heap H locs) {o r k n : Nat} (hal : S o 0 (-1) = 1) (hk : kd o = k) (ha : arK k r = some (0, n)) (hr : r ≠ 0) (hn : n < 2147483648) {z v : Int} (h0 : 0 ≤ z) (h1 : z < n) (hv : rng v) (hdg : decode cc pc = .ok (.iastore, 1))
    (kk : ∀ (H1 : Heap) (locs1 : List Loc), pic g base ad (st S o r z v) H1 → va_S (fun q => base ≤ q) s.heap H1 locs1 → W p l e R s m args below meth c H1 locs1 cells slots Q (F0 m (pc + 1) ls rest)) : W p l e R s m args below meth c H locs cells slots Q (F0 m pc ls (.int (i32 v) :: .int (i32 z) :: .ref (ad o r) :: rest)) := by
  have hA := p_arr hP hal hk ha hr
  have hok : okr k r = true := by unfold okr; rw [ha]; simp
  have hba : base ≤ ad o r := (hP.1 o r hal (hk ▸ hok)).2
  refine W.iast hx hb (hA 0 _ rfl) ((hK.1.2 0 _ rfl).1 n (fun j => .int (i32 (S o r j)))) (fun q => by cases q) (by show ¬ (_ ∨ (arrV _ _ _).slots.size ≤ _); rw [arrV_size]; exact i32_in h0 h1 hn) rfl rfl hdg fun H1 e9 z9 oq => ?_
  refine kk H1 _ (hP.put hal hk hok h0 hv ?_ z9 oq) (hS.put z9 oq hba)
  have : cellK g ad k o r (ud (S o r) z v) = arCell g ad (ud (S o r) z v) (0, n) := by unfold cellK; rw [if_neg hr, ha]
  rw [this]
  show H1[ad o r]? = some (vp_cell _ _)
  rw [e9]
  show some ((vp_cell g.2.1 (n, .inl (fun j => i32 (S o r j)))).setSlot _ _) = some (vp_cell g.2.1 (n, .inl (fun j : Nat => i32 (ud (S o r) z v j))))
  rw [vp_cell_i, vp_cell_i, arrV_store, i32_clamp h0 (by omega)]
  congr 2
  funext q
  unfold updV ud
  by_cases hq : q = z.toNat
  · subst hq
    rw [if_pos rfl, if_pos (Int.toNat_of_nonneg h0)]
  · rw [if_neg hq, if_neg (by omega)]
theorem p_zast (hx : p.tables.exec = Jvm.exec) (hb : c.code = cc) (hK : KK g s) (hP : pic g base ad S H) (hS : va_S (fun q => base ≤ q) s.heap H locs) {o r k n : Nat} (hal : S o 0 (-1) = 1) (hk : kd o = k) (ha : arK k r = some (1, n)) (hr : r ≠ 0) (hn : n < 2147483648) {z v : Int} (h0 : 0 ≤ z) (h1 : z < n) (hv : v = 0 ∨ v = 1) (hdg : decode cc pc = .ok (.bastore, 1))
    (kk : ∀ (H1 : Heap) (locs1 : List Loc), pic g base ad (st S o r z v) H1 → va_S (fun q => base ≤ q) s.heap H1 locs1 → W p l e R s m args below meth c H1 locs1 cells slots Q (F0 m (pc + 1) ls rest)) : W p l e R s m args below meth c H locs cells slots Q (F0 m pc ls (.int (i32 v) :: .int (i32 z) :: .ref (ad o r) :: rest)) := by
  have hA := p_arr hP hal hk ha hr
  have hok : okr k r = true := by unfold okr; rw [ha]; simp
  have hba : base ≤ ad o r := (hP.1 o r hal (hk ▸ hok)).2
  refine W.zast hx hb (hA 0 _ rfl) ((hK.1.2 1 _ rfl).1 n (fun j => .int (i32 (S o r j)))) (fun q => by cases q) (by show ¬ (_ ∨ (arrV _ _ _).slots.size ≤ _); rw [arrV_size]; exact i32_in h0 h1 hn) rfl rfl hdg fun H1 e9 z9 oq => ?_
  refine kk H1 _ (hP.put hal hk hok h0 (by rcases hv with rfl | rfl <;> exact ⟨by decide, by decide⟩) ?_ z9 oq) (hS.put z9 oq hba)
  have : cellK g ad k o r (ud (S o r) z v) = arCell g ad (ud (S o r) z v) (1, n) := by unfold cellK; rw [if_neg hr, ha]
  rw [this]
  have hnar : narrow .boolean (.int (i32 v)) = .int (i32 v) := by rcases hv with rfl | rfl <;> rfl
  rw [hnar] at e9
  show H1[ad o r]? = some (vp_cell _ _)
  rw [e9]
  show some ((vp_cell g.2.2.1 (n, .inl (fun j => i32 (S o r j)))).setSlot _ _) = some (vp_cell g.2.2.1 (n, .inl (fun j : Nat => i32 (ud (S o r) z v j))))
  rw [vp_cell_i, vp_cell_i, arrV_store, i32_clamp h0 (by omega)]
  congr 2
  funext q
  unfold updV ud
  by_cases hq : q = z.toNat
  · subst hq
    rw [if_pos rfl, if_pos (Int.toNat_of_nonneg h0)]
  · rw [if_neg hq, if_neg (by omega)]
/-- a field of ints is written -/
theorem p_put (hx : p.tables.exec = Jvm.exec) (hb : c.code = cc) (hown : s.vm.findClass own = some m.cls) (hK : KK g s) (hP : pic g base ad S H) (hS0 : va_S (fun q => base ≤ q) s.heap H locs) {o k : Nat} (hal : S o 0 (-1) = 1) (hk : kd o = k) (hok : okr k 0 = true) {C ref : String} {T : u_T} {N index : Nat} (hc : vwCl[clsK k]? = some (C, T, N)) (hts : ∀ w ∈ u_ws C T N, w.before args s = true) (ty0 : Nat → FieldType) (hty : ∀ k, k < N → parseFieldDescriptor (T k).2.2.1 = some (ty0 k)) (hnm : ∀ a, a < N → ∀ b, b < N → a ≠ b → (T a).2.1 ≠ (T b).2.1) (i il : Nat) (hi : i < N) (hl : lw_tbl[il]? = some (.fieldLink own index ref (T i).2.1 (T i).2.2.1)) (href : (T i).1 = ref) (hfin : (T i).2.2.2 = false) (hd : parseFieldDescriptor (T i).2.2.1 = some .int) {v : Int} (hrv : rng v) (hlen : i < (fldsK k ad o (S o 0)).length) (hset : (fldsK k ad o (S o 0)).set i (.int (i32 v)) = fldsK k ad o (ud (S o 0) i v)) (hdg : decode cc pc = .ok (.putfield index, 3))
    (kk : ∀ (H1 : Heap) (locs1 : List Loc), pic g base ad (st S o 0 i v) H1 → va_S (fun q => base ≤ q) s.heap H1 locs1 → W p l e R s m args below meth c H1 locs1 cells slots Q (F0 m (pc + 3) ls rest)) : W p l e R s m args below meth c H locs cells slots Q (F0 m pc ls (.int (i32 v) :: .ref (ad o 0) :: rest)) := by
  subst href
  have hba : base ≤ ad o 0 := (hP.1 o 0 hal (hk ▸ hok)).2
  have hap := va_apart (own := own) (D := g.1) (tys := tys g) hts (fun _ h => h) ty0 hty hnm hK.1 hc
  obtain ⟨r, h1, cell, q1, q2, q3, q4⟩ := hP.one hal hk hok (x := .inr (clsK k, fldsK k ad o (S o 0))) (by rfl) 0 _ rfl
  have hr : r = (C, T, N) := Option.some.inj (h1.symm.trans hc)
  subst hr
  obtain ⟨hS, hfc, kC, hkC, hkind⟩ := hK.1.1 _ _ hc
  obtain ⟨cf, kf, fi, f, hfi, hsl⟩ := hS i hi
  have hlay := hts _ (u_in_lay hi)
  unfold u_lay at hlay
  rw [if_neg (by rw [hfin]; decide)] at hlay
  have hst := (u_facts hfc hkC (u_lays hts (fun _ h => h) hi) hfi).1
  have h6 := u_store hfc hkC hkind hlay hfi hd (v := .int (i32 v)) rfl rfl
  refine W.putK hx hb (f := f) ⟨hown, hK.b il hl rfl, ⟨_, _, _, hfi⟩, hst⟩ (by rw [q2]; exact h6) q1 q3 (by rw [hsl]; exact k2_hasslot (q4 i hi)) rfl rfl hdg fun H' e1 e2 e3 => ?_
  rw [hsl] at e1 ⊢
  refine kk H' _ (hP.put hal hk hok (by omega) hrv ?_ e2 e3) (hS0.put e2 e3 hba)
  show va_at g.1 vwCl (ad o 0, .inr (clsK k, fldsK k ad o (ud (S o 0) i v))) H'
  rw [← hset]
  exact ⟨_, hc, t_OB.to (V := updV (vp_V (fldsK k ad o (S o 0))) i (.int (i32 v))) ⟨_, e1, q2, q3, t_set q4 hap hi _⟩ (fun j _ => vp_updV_set hlen _ j)⟩
end MS
