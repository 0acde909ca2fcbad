/-! ===== numbers: an int of the machine, written as an integer ===== -/
def i32 (z : Int) : Int32 := Int32.ofInt z
def rng (z : Int) : Prop := -2147483648 ≤ z ∧ z < 2147483648
theorem i32_toInt {z : Int} (h : rng z) : (i32 z).toInt = z := Int32.toInt_ofInt_of_le (by have := h.1; omega) (by have := h.2; omega)
theorem i32_of (x : Int32) : ∃ z, rng z ∧ x = i32 z := ⟨x.toInt, ⟨by have := x.le_toInt; omega, by have := x.toInt_lt; omega⟩, (Int32.ofInt_toInt x).symm⟩
theorem i32_add (a b : Int) : i32 a + i32 b = i32 (a + b) := (Int32.ofInt_add a b).symm
theorem i32_sub (a b : Int) : i32 a - i32 b = i32 (a - b) := (Int32.ofInt_sub a b).symm
theorem i32_mul (a b : Int) : i32 a * i32 b = i32 (a * b) := (Int32.ofInt_mul a b).symm
theorem i32_lt {a b : Int} (ha : rng a) (hb : rng b) : i32 a < i32 b ↔ a < b := by rw [Int32.lt_iff_toInt_lt, i32_toInt ha, i32_toInt hb]
theorem i32_le {a b : Int} (ha : rng a) (hb : rng b) : i32 a ≤ i32 b ↔ a ≤ b := by rw [Int32.le_iff_toInt_le, i32_toInt ha, i32_toInt hb]
theorem i32_inj {a b : Int} (ha : rng a) (hb : rng b) : i32 a = i32 b ↔ a = b := by rw [← Int32.toInt_inj, i32_toInt ha, i32_toInt hb]
theorem i32_0 : i32 0 = 0 := rfl
theorem rng_0 : rng 0 := ⟨by decide, by decide⟩
theorem i32_ofInt (n : Int) : Int32.ofInt n = i32 n := rfl
theorem i32_div {a b : Int} (ha : 0 ≤ a) (ha2 : a < 2147483648) (hb : 0 < b) (hb2 : b < 2147483648) : i32 a / i32 b = i32 (a / b) := by
  have h1 : 0 ≤ a / b := Int.ediv_nonneg ha (by omega)
  have h2 : a / b ≤ a := Int.ediv_le_self b ha
  refine Int32.toInt_inj.mp ?_
  rw [Int32.toInt_div_of_ne_right _ _ (fun h => ?_), i32_toInt ⟨by omega, ha2⟩, i32_toInt ⟨by omega, hb2⟩, i32_toInt ⟨by omega, by omega⟩, Int.tdiv_eq_ediv_of_nonneg ha]
  have h3 := congrArg Int32.toInt h
  rw [i32_toInt ⟨by omega, hb2⟩] at h3
  have h4 : (-1 : Int32).toInt = -1 := by decide
  omega
theorem i32_rem {a b : Int} (ha : 0 ≤ a) (ha2 : a < 2147483648) (hb : 0 < b) (hb2 : b < 2147483648) : i32 a - i32 a / i32 b * i32 b = i32 (a % b) := by
  rw [i32_div ha ha2 hb hb2, i32_mul, i32_sub]
  congr 1
  have := Int.emod_add_mul_ediv a b
  rw [Int.mul_comm] at this
  omega
theorem i32_clamp {z : Int} (h0 : 0 ≤ z) (h : z < 2147483648) : (i32 z).toNatClampNeg = z.toNat := by
  rw [← Int32.toNat_toInt, i32_toInt ⟨by omega, h⟩]
theorem i32_in {z : Int} {n : Nat} (h0 : 0 ≤ z) (h : z < n) (hn : n < 2147483648) : vp_in (i32 z) n := by
  have hr : rng z := ⟨by omega, by omega⟩
  refine vp_in_iff.mpr ⟨?_, ?_⟩ <;> rw [i32_toInt hr] <;> omega
theorem i32_nI (n : Nat) : nI n = i32 n := (Int32.ofInt_eq_ofNat (n := n)).symm
def i64 (z : Int) : Int64 := Int64.ofInt z
theorem i64_of32 {z : Int} (h : rng z) : (i32 z).toInt64 = i64 z := by
  refine Int64.toInt_inj.mp ?_
  rw [Int32.toInt_toInt64, i32_toInt h]
  exact (Int64.toInt_ofInt_of_le (by have := h.1; omega) (by have := h.2; omega)).symm
theorem i64_toInt {z : Int} (h : rng z) : (i64 z).toInt = z := Int64.toInt_ofInt_of_le (by have := h.1; omega) (by have := h.2; omega)
theorem i64_inj {a b : Int} (ha : rng a) (hb : rng b) : i64 a = i64 b ↔ a = b := by rw [← Int64.toInt_inj, i64_toInt ha, i64_toInt hb]
/-! ===== the state: for each object and each of its rows (0: its own fields; k + 1: the array in its field k) what stands at each place; at place -1 of row 0: 1, if the object is there ===== -/
abbrev St : Type := Nat → Nat → Int → Int
def ud (f : Int → Int) (j v : Int) : Int → Int := fun x => if x = j then v else f x
def stR (S : St) (o r : Nat) (f : Int → Int) : St := fun x y => if x = o ∧ y = r then f else S x y
def st (S : St) (o r : Nat) (j v : Int) : St := stR S o r (ud (S o r) j v)
theorem st_at (S : St) (o r : Nat) (j v : Int) (o' r' : Nat) (j' : Int) : st S o r j v o' r' j' = if o' = o ∧ r' = r ∧ j' = j then v else S o' r' j' := by
  unfold st stR ud
  by_cases h : o' = o ∧ r' = r
  · obtain ⟨rfl, rfl⟩ := h
    by_cases h2 : j' = j <;> simp [h2]
  · rw [if_neg h, if_neg (fun q => h ⟨q.1, q.2.1⟩)]
/-- what the machine's classes of arrays are: of ints, booleans, longs, Cartoons, Pieces -/
abbrev GT : Type := va_G × (ClassId × ClassId × ClassId × ClassId × ClassId)
def tys (g : GT) : List (ClassId × FieldType) := [(g.2.1, .int), (g.2.2.1, .boolean), (g.2.2.2.1, .long), (g.2.2.2.2.1, .object RX0), (g.2.2.2.2.2, .object RX2)]
/-- the kinds: 0 the reference, 1 the class's object, 2 its lots, 3 the law's row of longs, 4 a cartoon, 5 a piece -/
def kd (o : Nat) : Nat := if o < 4 then o else if o < 10 then 4 else 5
/-- the arrays: for a kind and a row its sort (0 int, 1 boolean, 2 long, 3 Cartoon, 4 Piece) and length -/
def arK (k r : Nat) : Option (Nat × Nat) := match k, r with
  | 0, 2 => some (0, 12)
  | 0, 4 => some (0, 5)
  | 0, 5 => some (0, 5)
  | 0, 6 => some (0, 5)
  | 0, 7 => some (0, 5)
  | 0, 8 => some (0, 600)
  | 0, 10 => some (0, 20)
  | 0, 11 => some (0, 20)
  | 0, 12 => some (0, 20)
  | 0, 13 => some (0, 20)
  | 0, 14 => some (1, 20)
  | 0, 16 => some (0, 20)
  | 0, 17 => some (0, 20)
  | 0, 18 => some (0, 20)
  | 0, 19 => some (1, 20)
  | 0, 20 => some (0, 80)
  | 0, 21 => some (0, 20)
  | 0, 22 => some (0, 480)
  | 0, 23 => some (0, 480)
  | 0, 24 => some (1, 480)
  | 0, 25 => some (0, 4800)
  | 0, 26 => some (0, 4800)
  | 0, 27 => some (0, 4800)
  | 1, 1 => some (0, 12)
  | 1, 3 => some (3, 5)
  | 1, 6 => some (4, 20)
  | 1, 8 => some (0, 20)
  | 2, 2 => some (0, 20)
  | 2, 3 => some (0, 20)
  | 2, 4 => some (0, 20)
  | 2, 5 => some (0, 20)
  | 2, 6 => some (1, 20)
  | 3, 1 => some (2, 1)
  | 4, 3 => some (0, 120)
  | 5, 4 => some (0, 4)
  | 5, 5 => some (0, 240)
  | 5, 6 => some (0, 240)
  | 5, 7 => some (0, 240)
  | 5, 8 => some (0, 24)
  | 5, 9 => some (1, 24)
  | _, _ => none
def fldsK (k : Nat) (ad : Nat → Nat → Nat) (o : Nat) (f : Int → Int) : List Value := match k with
  | 0 => [.int (i32 (f 0)), .ref (ad o 2), .int (i32 (f 2)), .ref (ad o 4), .ref (ad o 5), .ref (ad o 6), .ref (ad o 7), .ref (ad o 8), .int (i32 (f 8)), .ref (ad o 10), .ref (ad o 11), .ref (ad o 12), .ref (ad o 13), .ref (ad o 14), .int (i32 (f 14)), .ref (ad o 16), .ref (ad o 17), .ref (ad o 18), .ref (ad o 19), .ref (ad o 20), .ref (ad o 21), .ref (ad o 22), .ref (ad o 23), .ref (ad o 24), .ref (ad o 25), .ref (ad o 26), .ref (ad o 27), .int (i32 (f 27))]
  | 1 => [.ref (ad o 1), .int (i32 (f 1)), .ref (ad o 3), .int (i32 (f 3)), .ref (ad 2 0), .ref (ad o 6), .int (i32 (f 6)), .ref (ad o 8)]
  | 2 => [.int (i32 (f 0)), .ref (ad o 2), .ref (ad o 3), .ref (ad o 4), .ref (ad o 5), .ref (ad o 6)]
  | 4 => [.int (i32 (f 0)), .int (i32 (f 1)), .ref (ad o 3), .int (i32 (f 3)), .int (i32 (f 4))]
  | 5 => [.int (i32 (f 0)), .int (i32 (f 1)), .int (i32 (f 2)), .ref (ad o 4), .ref (ad o 5), .ref (ad o 6), .ref (ad o 7), .ref (ad o 8), .ref (ad o 9)]
  | _ => []
def clsK (k : Nat) : Nat := match k with
  | 0 => 4
  | 1 => 3
  | 2 => 1
  | 4 => 0
  | _ => 2
def okr (k r : Nat) : Bool := (r == 0 && k != 3) || (arK k r).isSome
def arCell (g : GT) (ad : Nat → Nat → Nat) (f : Int → Int) (x : Nat × Nat) : va_E := match x.1 with
  | 0 => .inl (g.2.1, x.2, .inl (fun j => i32 (f j)))
  | 1 => .inl (g.2.2.1, x.2, .inl (fun j => i32 (f j)))
  | 2 => .inl (g.2.2.2.1, x.2, .inr (.inl (fun j => i64 (f j))))
  | 3 => .inl (g.2.2.2.2.1, x.2, .inr (.inr (.inr (.inr (fun j => if f j = 1 then some (ad (4 + j) 0) else none)))))
  | _ => .inl (g.2.2.2.2.2, x.2, .inr (.inr (.inr (.inr (fun j => if f j = 1 then some (ad (10 + j) 0) else none)))))
def cellK (g : GT) (ad : Nat → Nat → Nat) (k o r : Nat) (f : Int → Int) : va_E :=
  if r = 0 then .inr (clsK k, fldsK k ad o f) else match arK k r with
  | some x => arCell g ad f x
  | none => .inr (0, [])
def pic (g : GT) (base : Nat) (ad : Nat → Nat → Nat) (S : St) (H : Heap) : Prop :=
  (∀ o r, S o 0 (-1) = 1 → okr (kd o) r = true → va_at g.1 vwCl (ad o r, cellK g ad (kd o) o r (S o r)) H ∧ base ≤ ad o r) ∧
  (∀ o r o' r', S o 0 (-1) = 1 → okr (kd o) r = true → S o' 0 (-1) = 1 → okr (kd o') r' = true → ad o r = ad o' r' → o = o' ∧ r = r') ∧
  base ≤ H.size ∧ ∀ o r j, rng (S o r j)
/-! ===== what the tables say, carried along ===== -/
def kw (w : Cond) : Bool := w.onTables && (w.keeps || match w with
  | .castable .. => true
  | .declares .. => true
  | .methodLinkNest .. => true
  | _ => false)
theorem kw_warm {w : Cond} (hk : kw w = true) {s U : State} (hW : s.WarmedH U.vm) (h : va_Nw w s) : va_Nw w U := by
  simp only [kw, Bool.and_eq_true, Bool.or_eq_true] at hk
  obtain ⟨h1, h2 | h2⟩ := hk
  · exact word_at hW (Or.inl (by rw [h1, h2]; rfl)) h
  · cases w <;> first | exact va_Nw.warmC hW h | exact va_Nw.warmD hW h | exact va_Nw.warmM hW h | exact absurd h2 (by simp)
def strs : List (String × Nat × String) := []
def tU : String := "UNASSIGNED_STACK"
def tS : String := "SUPPRESSED_SENTINEL"
def KK (g : GT) (U : State) : Prop :=
  va_K g.1 vwCl (tys g) U ∧ (∀ (i : Nat) (w : Cond), lw_tbl[i]? = some w → kw w = true → va_Nw w U) ∧
  (∀ (i : Nat) (own : String) (k : Nat) (tx : String), lw_tbl[i]? = some (Cond.stringRef own k tx) → ∃ a, vk_R own k tx a U) ∧
  (∀ ty : FieldType, Cond.arrayClass ty ∈ lw_tbl → (Cond.arrayClass ty).before #[] U = true) ∧ va_AO RX0 U ∧ va_AO RX2 U
