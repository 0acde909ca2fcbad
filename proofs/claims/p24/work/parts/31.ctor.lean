/-! ===== objects that come ===== -/
def keepc (S : St) (o : Nat) : Prop := S 1 0 (-1) = 1 → o ≠ 2 ∧ (∀ j : Nat, S 1 3 j = 1 → 4 + j ≠ o) ∧ ∀ j : Nat, S 1 6 j = 1 → 10 + j ≠ o
def adN (ad : Nat → Nat → Nat) (o : Nat) (A : Nat → Nat) : Nat → Nat → Nat := fun x r => if x = o then A r else ad x r
theorem adN_o {ad : Nat → Nat → Nat} {o : Nat} {A : Nat → Nat} {r : Nat} : adN ad o A o r = A r := if_pos rfl
theorem adN_n {ad : Nat → Nat → Nat} {o : Nat} {A : Nat → Nat} {x r : Nat} (h : x ≠ o) : adN ad o A x r = ad x r := if_neg h
def nwS (S : St) (o : Nat) (f : Int → Int) : St := fun a b i => if a = o then (if b = 0 then f i else 0) else S a b i
theorem nwS_n {S : St} {o : Nat} {f : Int → Int} {a b : Nat} {i : Int} (h : a ≠ o) : nwS S o f a b i = S a b i := if_neg h
theorem nwS_0 {S : St} {o : Nat} {f : Int → Int} {i : Int} : nwS S o f o 0 i = f i := by unfold nwS; rw [if_pos rfl, if_pos rfl]
theorem nwS_r {S : St} {o : Nat} {f : Int → Int} {b : Nat} {i : Int} (h : b ≠ 0) : nwS S o f o b i = 0 := by unfold nwS; rw [if_pos rfl, if_neg h]
theorem arK_3 {k r : Nat} {z : Nat × Nat} (h : arK k r = some z) : z.1 < 2 ∨ (k = 1 ∧ ((z.1 = 3 ∧ r = 3) ∨ (z.1 = 4 ∧ r = 6))) := by
  unfold arK at h
  split at h <;> first | (cases h; first | exact Or.inl (by decide) | exact Or.inr ⟨rfl, Or.inl ⟨rfl, rfl⟩⟩ | exact Or.inr ⟨rfl, Or.inr ⟨rfl, rfl⟩⟩) | cases h
theorem kd_1 {x : Nat} (h : kd x = 1) : x = 1 := by
  unfold kd at h
  split at h
  · exact h
  · split at h <;> omega
theorem fldsK_e {k o : Nat} {ad ad' : Nat → Nat → Nat} {f : Int → Int} (h : ad' o = ad o) (h2 : k = 1 → ad' 2 0 = ad 2 0) : fldsK k ad' o f = fldsK k ad o f := by
  unfold fldsK
  split
  · rw [h, h2 rfl]
  · rw [h]
  · rw [h]
  · rw [h]
  · rfl
theorem arCell_e {g : GT} {ad ad' : Nat → Nat → Nat} {f : Int → Int} {z : Nat × Nat} (h : z.1 < 2) : arCell g ad' f z = arCell g ad f z := by
  obtain ⟨q, n⟩ := z
  rcases (show q = 0 ∨ q = 1 by dsimp only at h; omega) with rfl | rfl <;> rfl
theorem cell_keep {g : GT} {ad : Nat → Nat → Nat} {S : St} {o : Nat} {A : Nat → Nat} (hc : keepc S o) {x r : Nat} (hx : x ≠ o) (hal : S x 0 (-1) = 1) : cellK g (adN ad o A) (kd x) x r (S x r) = cellK g ad (kd x) x r (S x r) := by
  have e : adN ad o A x = ad x := by funext q; exact adN_n hx
  unfold cellK
  by_cases hr : r = 0
  · rw [if_pos hr, if_pos hr, fldsK_e e (fun h => adN_n (fun q => (hc (kd_1 h ▸ hal)).1 q.symm))]
  · rw [if_neg hr, if_neg hr]
    cases ha : arK (kd x) r with
    | none => rfl
    | some z =>
      show arCell g (adN ad o A) (S x r) z = arCell g ad (S x r) z
      rcases arK_3 ha with h | ⟨h1, h2⟩
      · exact arCell_e h
      · have hx1 := kd_1 h1
        subst hx1
        obtain ⟨q, n⟩ := z
        dsimp only at h2
        rcases h2 with ⟨rfl, rfl⟩ | ⟨rfl, rfl⟩
        · have : (fun j : Nat => if S 1 3 j = 1 then some (adN ad o A (4 + j) 0) else none) = (fun j : Nat => if S 1 3 j = 1 then some (ad (4 + j) 0) else none) := by
            funext j
            by_cases h : S 1 3 j = 1
            · rw [if_pos h, if_pos h, adN_n ((hc hal).2.1 j h)]
            · rw [if_neg h, if_neg h]
          show Sum.inl (g.2.2.2.1, n, Sum.inr (Sum.inr (Sum.inr (Sum.inr (fun j : Nat => if S 1 3 j = 1 then some (adN ad o A (4 + j) 0) else none))))) = _
          rw [this]
          rfl
        · have : (fun j : Nat => if S 1 6 j = 1 then some (adN ad o A (10 + j) 0) else none) = (fun j : Nat => if S 1 6 j = 1 then some (ad (10 + j) 0) else none) := by
            funext j
            by_cases h : S 1 6 j = 1
            · rw [if_pos h, if_pos h, adN_n ((hc hal).2.2 j h)]
            · rw [if_neg h, if_neg h]
          show Sum.inl (g.2.2.2.2, n, Sum.inr (Sum.inr (Sum.inr (Sum.inr (fun j : Nat => if S 1 6 j = 1 then some (adN ad o A (10 + j) 0) else none))))) = _
          rw [this]
          rfl
/-- the picture with the new object in it -/
theorem pic_add {g : GT} {base : Nat} {ad : Nat → Nat → Nat} {S : St} {ws : va_W} {H : Heap} {o k : Nat} {f : Int → Int} {A ix ri : Nat → Nat} (hW : piw g base ad S ws H) (hk : kd o = k) (hf : k = 3 ∨ f (-1) = 1) (hr : ∀ i, rng (f i)) (hc : keepc S o)
    (rows : ∀ r, okr k r = true → ws[ix r]? = some (A r, cellK g (adN ad o A) k o r (if r = 0 then f else fun _ => 0))) (inv : ∀ r, okr k r = true → ri (ix r) = r) : pic g base (adN ad o A) (nwS S o f) H := by
  obtain ⟨hP, hV, hD⟩ := hW
  have eS : ∀ x r, x ≠ o → nwS S o f x r = S x r := fun x r h => by funext i; exact nwS_n h
  have eO : ∀ r, nwS S o f o r = if r = 0 then f else fun _ => 0 := fun r => by
    funext i
    by_cases h : r = 0
    · rw [if_pos h, h]; exact nwS_0
    · rw [if_neg h]; exact nwS_r h
  refine ⟨fun x r h1 h2 => ?_, fun x r x' r' h1 h2 h3 h4 h5 => ?_, hP.2.2.1, fun x r j => ?_⟩
  · by_cases hx : x = o
    · subst hx
      rw [hk] at h2 ⊢
      have q := rows r h2
      rw [adN_o, eO]
      exact ⟨hV _ _ q, (hD.2 _ _ q).1⟩
    · rw [eS x _ hx] at h1 ⊢
      have q := hP.1 x r h1 h2
      rw [adN_n hx, cell_keep hc hx h1]
      exact q
  · by_cases hx : x = o
    · by_cases hx' : x' = o
      · subst hx
        subst hx'
        rw [hk] at h2 h4
        rw [adN_o, adN_o] at h5
        have e := hD.1 _ _ _ _ (rows r h2) (rows r' h4) h5
        exact ⟨rfl, by rw [← inv r h2, ← inv r' h4, e]⟩
      · subst hx
        rw [hk] at h2
        rw [eS x' _ hx'] at h3
        rw [adN_o, adN_n hx'] at h5
        exact absurd h5.symm ((hD.2 _ _ (rows r h2)).2 x' r' h3 h4)
    · by_cases hx' : x' = o
      · subst hx'
        rw [hk] at h4
        rw [eS x _ hx] at h1
        rw [adN_o, adN_n hx] at h5
        exact absurd h5 ((hD.2 _ _ (rows r' h4)).2 x r h1 h2)
      · rw [eS x _ hx] at h1
        rw [eS x' _ hx'] at h3
        rw [adN_n hx, adN_n hx'] at h5
        exact hP.2.1 x r x' r' h1 h2 h3 h4 h5
  · unfold nwS
    split
    · split
      · exact hr j
      · exact rng_0
    · exact hP.2.2.2 x r j
theorem ok1 {r : Nat} (h : okr 1 r = true) : r = 0 ∨ r = 1 ∨ r = 3 ∨ r = 6 ∨ r = 8 := by
  unfold okr arK at h
  split at h <;> first | omega | (simp at h; omega)
theorem ok2 {r : Nat} (h : okr 2 r = true) : r = 0 ∨ r = 2 ∨ r = 3 ∨ r = 4 ∨ r = 5 ∨ r = 6 := by
  unfold okr arK at h
  split at h <;> first | omega | (simp at h; omega)
theorem ok3 {r : Nat} (h : okr 3 r = true) : r = 1 ∨ r = 2 ∨ r = 3 ∨ r = 4 := by
  unfold okr arK at h
  split at h <;> first | omega | (simp at h; done) | (simp at h; omega)
theorem ok4 {r : Nat} (h : okr 4 r = true) : r = 0 ∨ r = 3 := by
  unfold okr arK at h
  split at h <;> first | omega | (simp at h; omega)
theorem ok5 {r : Nat} (h : okr 5 r = true) : r = 0 ∨ r = 4 ∨ r = 5 ∨ r = 6 ∨ r = 7 ∨ r = 8 ∨ r = 9 := by
  unfold okr arK at h
  split at h <;> first | omega | (simp at h; omega)
def PN (g : GT) (base : Nat) (ad : Nat → Nat → Nat) (S : St) (ws : va_W) (U : State) : Prop := KK g U ∧ ZZ base U U.heap ∧ piw g base ad S ws U.heap
theorem PN_blind {g : GT} {base : Nat} {ad : Nat → Nat → Nat} {S : St} {ws : va_W} {av : List Value} : FrameBlind (va_Pc av (PN g base ad S ws)) := by
  intro a U f mk h
  obtain ⟨h1, h2, h3, h4⟩ := h
  refine ⟨h1, KK.same (s := U) (U := U.calling f mk a) rfl h2, ?_, h4⟩
  exact ZZ.go (s := U) (U := U.calling f mk a) (H := U.heap) (H1 := (U.calling f mk a).heap) (Vm.Alike.refl U.vm) (fun _ _ _ => rfl) h3
theorem mk_init {l : Launch} {y : MethodName} {cc : ByteArray} {maxL : Nat} {own : String} {g : GT} {base : Nat} {ad : Nat → Nat → Nat} {S : St} {ws : va_W} {av : List Value} {lv0 : List (Nat × Value)} {rm : Room} {Qc : Array Value → State → Outcome → State → Prop} {mc ms : Nat}
    (hy : plainName y.cls = true) (ho : y.cls = own) (hi : y.name = "<init>") (hn : (lg_sl av).length ≤ maxL) (hlv : lv_args 0 av = lv0)
    (body : ∀ (p : Program) (e : Env) (s : State) (m : MethodId) (below : List Frame) (meth : Method) (c : Code) (av : Array Value) (Qm : State → Prop), p.tables.exec = Jvm.exec → c.code = cc → meth.sig.returnType = none → c.maxLocals = maxL → s.vm.findClass own = some m.cls → meth.locks = false → meth.name = "<init>" → KK g s → ZZ base s s.heap → piw g base ad S ws s.heap → Qm = MQ below Qc av s mc ms (fun q => base ≤ q) → ∀ ls : Array Slot, lv_has ls maxL lv0 →
      W p l e rm s m av below meth c s.heap [] 0 0 Qm (F0 m 0 ls [])) :
    Met l y [Cond.code y cc maxL none] rm (va_Pc av (PN g base ad S ws)) Qc mc ms (fun q => base ≤ q) := by
  refine Met.ofW (cc := cc) (maxL := maxL) (ret := none) hy rfl ?_
  intro p e s m args below meth c s₁ B hml hv
  obtain ⟨rfl, hK, hZ, hP⟩ := hv
  have hown : s.vm.findClass own = some m.cls := by rw [← ho]; exact findClass_of_methodNamed B.named
  rw [lg_entry_eq]
  exact body p e s m below meth c _ _ B.exec B.bytes B.returns hml hown B.notSynchronized ((name_of_methodNamed B.named B.method).1.trans hi) hK hZ hP rfl _ (hlv ▸ lv_entry av hn)
/-- how a constructor ends -/
def nP (ad : Nat → Nat → Nat) (S : St) (o a : Nat) (f : Int → Int) : Option Value → (Nat → Nat → Nat) → St → Prop := fun r ad' S' => r = none ∧ ∃ A : Nat → Nat, A 0 = a ∧ ad' = adN ad o A ∧ S' = nwS S o f
section QC
variable {p : Program} {l : Launch} {e : Env} {R : Room} {s : State} {m : MethodId} {args : Array Value} {below : List Frame} {meth : Method} {c : Code} {H : Heap} {locs : List Loc} {cells slots : Nat} {Q : State → Prop}
variable {cc : ByteArray} {pc : Nat} {ls : Array Slot} {rest st0 : List Value} {g : GT} {base : Nat} {ad : Nat → Nat → Nat} {S : St} {own : String} {ws : va_W}
theorem piw.set' {a q0 : Nat} {x x' : va_E} {H1 : Heap} (hW : piw g base ad S ws H) (he : ws[q0]? = some (a, x)) (hv : va_at g.1 vwCl (a, x') H1) (z : H1.size = H.size) (oq : ∀ q : Nat, q ≠ a → H1[q]? = H[q]?) : piw g base ad S (ws.set q0 (a, x')) H1 :=
  ⟨hW.1.keepAt z oq (fun o r h1 h2 => (hW.2.2.2 q0 _ he).2 o r h1 h2), hW.2.1.set hW.2.2 he hv oq, hW.2.2.set he⟩
theorem w_put (hx : p.tables.exec = Jvm.exec) (hb : c.code = cc) (hown : s.vm.findClass own = some m.cls) (hK : KK g s) (hW : piw g base ad S ws H) (hS0 : va_S (fun q => base ≤ q) s.heap H locs) (q0 : Nat) {a ci : Nat} {fs : List Value} (he : ws[q0]? = some (a, .inr (ci, fs))) {C ref : String} {T : u_T} {N index : Nat} (hc : vwCl[ci]? = some (C, T, N)) (hts : ∀ w ∈ u_ws C T N, w.before args s = true) (ty0 : Nat → FieldType) (hty : ∀ k, k < N → parseFieldDescriptor (T k).2.2.1 = some (ty0 k)) (hnm : ∀ a, a < N → ∀ b, b < N → a ≠ b → (T a).2.1 ≠ (T b).2.1) (i il : Nat) (hi : i < N) (hl : lw_tbl[il]? = some (.fieldLink own index ref (T i).2.1 (T i).2.2.1)) (href : (T i).1 = ref) (hfin : (T i).2.2.2 = false) {ty : FieldType} {v : Value} (hd : parseFieldDescriptor (T i).2.2.1 = some ty) (hn : narrow ty v = v) (hfit : fits ty v = true) (hlen : i < fs.length) (hdg : decode cc pc = .ok (.putfield index, 3))
    (kk : ∀ (H1 : Heap) (locs1 : List Loc), piw g base ad S (ws.set q0 (a, .inr (ci, fs.set i v))) H1 → va_S (fun q => base ≤ q) s.heap H1 locs1 → W p l e R s m args below meth c H1 locs1 cells slots Q (F0 m (pc + 3) ls rest)) : W p l e R s m args below meth c H locs cells slots Q (F0 m pc ls (v :: .ref a :: rest)) := by
  subst href
  have hap := va_apart (own := own) (D := g.1) (tys := tys g) hts (fun _ h => h) ty0 hty hnm hK.1 hc
  obtain ⟨r, h1, cell, q1, q2, q3, q4⟩ := hW.2.1 q0 _ he
  have hr : r = (C, T, N) := Option.some.inj (h1.symm.trans hc)
  subst hr
  obtain ⟨hS, hfc, kC, hkC, hkind⟩ := hK.1.1 ci _ hc
  obtain ⟨cf, kf, fi, f, hfi, hsl⟩ := hS i hi
  have hlay := hts _ (u_in_lay hi)
  unfold u_lay at hlay
  rw [if_neg (by rw [hfin]; decide)] at hlay
  have hst := (u_facts hfc hkC (u_lays hts (fun _ h => h) hi) hfi).1
  have h6 := u_store hfc hkC hkind hlay hfi hd hn hfit
  refine W.putK hx hb (f := f) ⟨hown, hK.b il hl rfl, ⟨_, _, _, hfi⟩, hst⟩ (by rw [q2]; exact h6) q1 q3 (by rw [hsl]; exact k2_hasslot (q4 i hi)) rfl rfl hdg fun H' e1 e2 e3 => ?_
  rw [hsl] at e1 ⊢
  exact kk H' _ (hW.set' he ⟨_, hc, t_OB.to (V := updV (vp_V fs) i v) ⟨_, e1, q2, q3, t_set q4 hap hi _⟩ (fun j _ => vp_updV_set hlen _ j)⟩ e2 e3) (hS0.put e2 e3 (hW.2.2.2 q0 _ he).1)
theorem w_putF (hx : p.tables.exec = Jvm.exec) (hb : c.code = cc) (hown : s.vm.findClass own = some m.cls) (hK : KK g s) (hW : piw g base ad S ws H) (hS0 : va_S (fun q => base ≤ q) s.heap H locs) (q0 : Nat) {a ci : Nat} {fs : List Value} (he : ws[q0]? = some (a, .inr (ci, fs))) {C ref : String} {T : u_T} {N index : Nat} (hc : vwCl[ci]? = some (C, T, N)) (hts : ∀ w ∈ u_ws C T N, w.before args s = true) (ty0 : Nat → FieldType) (hty : ∀ k, k < N → parseFieldDescriptor (T k).2.2.1 = some (ty0 k)) (hnm : ∀ a, a < N → ∀ b, b < N → a ≠ b → (T a).2.1 ≠ (T b).2.1) (i il : Nat) (hi : i < N) (hl : lw_tbl[il]? = some (.fieldLink own index ref (T i).2.1 (T i).2.2.1)) (href : (T i).1 = ref) (hfin : (T i).2.2.2 = true) (hin2 : meth.name = "<init>") (hdecl : (T i).1 = own) {ty : FieldType} {v : Value} (hd : parseFieldDescriptor (T i).2.2.1 = some ty) (hn : narrow ty v = v) (hfit : fits ty v = true) (hlen : i < fs.length) (hdg : decode cc pc = .ok (.putfield index, 3))
    (kk : ∀ (H1 : Heap) (locs1 : List Loc), piw g base ad S (ws.set q0 (a, .inr (ci, fs.set i v))) H1 → va_S (fun q => base ≤ q) s.heap H1 locs1 → W p l e R s m args below meth c H1 locs1 cells slots Q (F0 m (pc + 3) ls rest)) : W p l e R s m args below meth c H locs cells slots Q (F0 m pc ls (v :: .ref a :: rest)) := by
  subst href
  have hap := va_apart (own := own) (D := g.1) (tys := tys g) hts (fun _ h => h) ty0 hty hnm hK.1 hc
  obtain ⟨r, h1, cell, q1, q2, q3, q4⟩ := hW.2.1 q0 _ he
  have hr : r = (C, T, N) := Option.some.inj (h1.symm.trans hc)
  subst hr
  obtain ⟨hS, hfc, kC, hkC, hkind⟩ := hK.1.1 ci _ hc
  obtain ⟨cf, kf, fi, f, hfi, hsl⟩ := hS i hi
  have hlay := hts _ (u_in_lay hi)
  unfold u_lay at hlay
  rw [if_pos hfin] at hlay
  have hst := (u_facts hfc hkC (u_lays hts (fun _ h => h) hi) hfi).1
  have hcf : m.cls = cf := by
    obtain ⟨_, _, c', _, _, _, -, -, hf', -, -, -, hown2, -⟩ := Cond.laysFinal_spec hlay
    have e1 : c' = cf := by have := hfi.symm.trans hf'; simp at this; exact this.1.symm
    rw [hdecl] at hown2
    rw [← e1]; exact Option.some.inj (hown.symm.trans hown2)
  have h6 := u_fits hfc hkC hkind (Or.inr hlay) hfi hd hn hfit
  refine W.putFinK hx hb hown (hK.b il hl rfl) hfi hst hcf hin2 (by rw [q2]; exact h6) q1 q3 (by rw [hsl]; exact k2_hasslot (q4 i hi)) rfl rfl hdg fun H' e1 e2 e3 => ?_
  rw [hsl] at e1 ⊢
  exact kk H' _ (hW.set' he ⟨_, hc, t_OB.to (V := updV (vp_V fs) i v) ⟨_, e1, q2, q3, t_set q4 hap hi _⟩ (fun j _ => vp_updV_set hlen _ j)⟩ e2 e3) (hS0.put e2 e3 (hW.2.2.2 q0 _ he).1)
theorem w_newO (hx : p.tables.exec = Jvm.exec) (hb : c.code = cc) (hown : s.vm.findClass own = some m.cls) (hK : KK g s) (hW : piw g base ad S ws H) (hS : va_S (fun q => base ≤ q) s.heap H locs) {C : String} {T : u_T} {N ci index i1 i2 i3 : Nat} (hc : vwCl[ci]? = some (C, T, N)) (hts : ∀ w ∈ u_ws C T N, w.before args s = true) (ty : Nat → FieldType) (hty : ∀ k, k < N → parseFieldDescriptor (T k).2.2.1 = some (ty k)) (hcl : lw_tbl[i1]? = some (.classLink own index C)) (hinst : lw_tbl[i2]? = some (.instantiable C N)) (hini : lw_tbl[i3]? = some (.initialized C))
    {fs : List Value} (hfs : ∀ j, j < N → defaultValue (ty j) = vp_V fs j) (hcells : cells + 1 ≤ R.cells) (hslots : slots + N ≤ R.slots) (hdg : decode cc pc = .ok (.new index, 3))
    (kk : ∀ (q : Nat) (H1 : Heap), q = H.size → piw g base ad S (ws ++ [(q, .inr (ci, fs))]) H1 → va_S (fun q => base ≤ q) s.heap H1 locs → W p l e R s m args below meth c H1 locs (cells + 1) (slots + N) Q (F0 m (pc + 3) ls (.ref q :: rest))) : W p l e R s m args below meth c H locs cells slots Q (F0 m pc ls rest) := by
  have hKn := hK.1.1 ci _ hc
  refine W.newcK hx hb hown (hK.b i1 hcl rfl) (hK.b i2 hinst rfl) (hK.b i3 hini rfl) rfl hdg hcells hslots hKn.2.1 rfl fun H1 kC hkC e1 z1 o1 => ?_
  exact kk H.size H1 rfl (hW.push z1 o1 ⟨_, hc, (u_born ty hts (fun _ h => h) hKn hkC e1 hty).to hfs⟩) (vaS_push hS z1 o1)
theorem w_newC (hx : p.tables.exec = Jvm.exec) (hb : c.code = cc) (hown : s.vm.findClass own = some m.cls) (hK : KK g s) (hW : piw g base ad S ws H) (hS : va_S (fun q => base ≤ q) s.heap H locs) {n : Int32} {N index i1 : Nat} (hcl : lw_tbl[i1]? = some (.classLink own index RX0)) (hn : ¬ n < 0) (hN : n.toNatClampNeg = N) (hN2 : N ≤ 5000) (hcells : cells + 1 ≤ R.cells) (hslots : slots + N ≤ R.slots) (hdg : decode cc pc = .ok (.anewarray index, 3))
    (kk : ∀ (q : Nat) (H1 : Heap), piw g base ad S (ws ++ [(q, arCell g ad (fun _ => 0) (3, N))]) H1 → va_S (fun q => base ≤ q) s.heap H1 locs → W p l e R s m args below meth c H1 locs (cells + 1) (slots + N) Q (F0 m (pc + 3) ls (.ref q :: rest))) : W p l e R s m args below meth c H locs cells slots Q (F0 m pc ls (.int n :: rest)) := by
  subst hN
  refine W.anew hx hb hown (hK.b i1 hcl rfl) (va_AO.use hK.2.2.2.2.1) rfl hdg rfl hn (by omega) hcells hslots fun cA kA comp f1 f2 f3 f4 => ?_
  obtain ⟨k9, c9, -, -, -, h9⟩ := (hK.1.2 2 _ rfl).2
  have hc : cA = g.2.2.2.1 := Option.some.inj (f1.symm.trans h9)
  subst hc
  generalize hH1 : H.push ({ cls := g.2.2.2.1, slots := Array.replicate n.toNatClampNeg .null, vm := .none } : Cell) = H1
  have z1 : H1.size = H.size + 1 := by rw [← hH1, Array.size_push]
  have e1 : H1[H.size]? = some (arrV g.2.2.2.1 n.toNatClampNeg (fun _ => .null)) := by rw [← hH1, Array.getElem?_push_size, ← arrV_new]
  have o1 : ∀ q : Nat, q < H.size → H1[q]? = H[q]? := fun q hq => by rw [← hH1, Array.getElem?_push, if_neg (Nat.ne_of_lt hq)]
  refine kk H.size H1 (hW.push z1 o1 ?_) (vaS_push hS z1 o1)
  show H1[H.size]? = some (vp_cell _ _)
  rw [e1]
  rfl
theorem w_newP (hx : p.tables.exec = Jvm.exec) (hb : c.code = cc) (hown : s.vm.findClass own = some m.cls) (hK : KK g s) (hW : piw g base ad S ws H) (hS : va_S (fun q => base ≤ q) s.heap H locs) {n : Int32} {N index i1 : Nat} (hcl : lw_tbl[i1]? = some (.classLink own index RX2)) (hn : ¬ n < 0) (hN : n.toNatClampNeg = N) (hN2 : N ≤ 5000) (hcells : cells + 1 ≤ R.cells) (hslots : slots + N ≤ R.slots) (hdg : decode cc pc = .ok (.anewarray index, 3))
    (kk : ∀ (q : Nat) (H1 : Heap), piw g base ad S (ws ++ [(q, arCell g ad (fun _ => 0) (4, N))]) H1 → va_S (fun q => base ≤ q) s.heap H1 locs → W p l e R s m args below meth c H1 locs (cells + 1) (slots + N) Q (F0 m (pc + 3) ls (.ref q :: rest))) : W p l e R s m args below meth c H locs cells slots Q (F0 m pc ls (.int n :: rest)) := by
  subst hN
  refine W.anew hx hb hown (hK.b i1 hcl rfl) (va_AO.use hK.2.2.2.2.2.1) rfl hdg rfl hn (by omega) hcells hslots fun cA kA comp f1 f2 f3 f4 => ?_
  obtain ⟨k9, c9, -, -, -, h9⟩ := (hK.1.2 3 _ rfl).2
  have hc : cA = g.2.2.2.2 := Option.some.inj (f1.symm.trans h9)
  subst hc
  generalize hH1 : H.push ({ cls := g.2.2.2.2, slots := Array.replicate n.toNatClampNeg .null, vm := .none } : Cell) = H1
  have z1 : H1.size = H.size + 1 := by rw [← hH1, Array.size_push]
  have e1 : H1[H.size]? = some (arrV g.2.2.2.2 n.toNatClampNeg (fun _ => .null)) := by rw [← hH1, Array.getElem?_push_size, ← arrV_new]
  have o1 : ∀ q : Nat, q < H.size → H1[q]? = H[q]? := fun q hq => by rw [← hH1, Array.getElem?_push, if_neg (Nat.ne_of_lt hq)]
  refine kk H.size H1 (hW.push z1 o1 ?_) (vaS_push hS z1 o1)
  show H1[H.size]? = some (vp_cell _ _)
  rw [e1]
  rfl
theorem w_oi (hx : p.tables.exec = Jvm.exec) (hb : c.code = cc) (hml : c.maxLocals = ls.size) (hown : s.vm.findClass own = some m.cls) (hK : KK g s) {idx il : Nat} (hl : lw_tbl[il]? = some (.methodLink own idx ⟨"java/lang/Object", "<init>", "()V"⟩)) (hdg : decode cc pc = .ok (.invokespecial idx, 3)) (hR : 1 ≤ R.frames ∧ (rest.map fun v => v.category).sum + 12 ≤ R.locals) {a : Nat}
    (kk : W p l e R s m args below meth c H locs cells slots Q (F0 m (pc + 3) ls rest)) : W p l e R s m args below meth c H locs cells slots Q (F0 m pc ls (.ref a :: rest)) := by
  refine W.objInit hx hb hown (hK.b il hl rfl) (hK.b 32 t_32 rfl) (hK.b 33 t_33 rfl) rfl hml.symm rfl hdg hR.1 ?_ ?_
  · show 2 * 0 + (rest.map fun v => v.category).sum + 12 ≤ R.locals
    have := hR.2
    omega
  · exact W.eq (g2 := F0 m (pc + 3) ls rest) rfl kk
variable {P : Option Value → (Nat → Nat → Nat) → St → Prop} {y : MethodName} {bytes : ByteArray} {maxL nL n index : Nat} {rm : Room} {As : List Value} {ret : Option FieldType}
theorem q_preN (hK : KK g s) (hZ : ZZ base s s.heap) (hW : piw g base ad S ws H) (hS : va_S (fun q => base ≤ q) s.heap H locs) (av : List Value) : FrameBlind (va_Pc av (PN g base ad S ws)) ∧ ∀ U : State, U.heap = H → s.WarmedH U.vm → (va_Pc av (PN g base ad S ws)) av.toArray U :=
  ⟨PN_blind, fun U hU hW1 => ⟨rfl, hK.warm hW1, by rw [hU]; exact hZ.go hW1.alike hS.2.1, by rw [hU]; exact hW⟩⟩
/-- a constructor -/
theorem q_callI (hx : p.tables.exec = Jvm.exec) (hb : c.code = cc) (hml : c.maxLocals = nL) (hls : ls.size = nL) (hown : s.vm.findClass own = some m.cls) (hK : KK g s) (hZ : ZZ base s s.heap) {a : Nat} (hW : piw g base ad S ws H) (hS : va_S (fun q => base ≤ q) s.heap H locs)
    (hM : Met l y [Cond.code y bytes maxL none] rm (va_Pc (.ref a :: As) (PN g base ad S ws)) (gQ g base P) rm.cells rm.slots (fun q => base ≤ q)) (hin : y.name = "<init>") {im : Nat} (him : lw_tbl[im]? = some (.instanceMethod y)) (cb : CallB R s args own index y bytes maxL none [Cond.code y bytes maxL none] rm rm.cells rm.slots n) (hn : As.length = n) (hstk : st0 = As.reverse ++ .ref a :: rest) (hcat : (rest.map fun v => v.category).sum ≤ 8) (hdg : decode cc pc = .ok (.invokespecial index, 3)) (hf : cells + rm.cells ≤ R.cells ∧ slots + rm.slots ≤ R.slots)
    (kk : ∀ (r : Option Value) (ad' : Nat → Nat → Nat) (S' : St) (H1 : Heap) (locs1 : List Loc), P r ad' S' → pic g base ad' S' H1 → va_S (fun q => base ≤ q) s.heap H1 locs1 → W p l e R s m args below meth c H1 locs1 (cells + rm.cells) (slots + rm.slots) Q (F0 m (pc + 3) ls (r.toList ++ rest))) : W p l e R s m args below meth c H locs cells slots Q (F0 m pc ls st0) :=
  q_go (va_runI (As := As) (rest := rest) (Ts := []) ⟨hx, hb, hml, hown, fun _ h => nomatch h⟩ hM ⟨cb, hin, hK.b im him rfl⟩ (q_preN hK hZ hW hS _) rfl hn hls hstk (lv_room hcat) hdg hf) hS kk
/-- a constructor, while another object is in the making and none is there -/
theorem q_callI0 (hx : p.tables.exec = Jvm.exec) (hb : c.code = cc) (hml : c.maxLocals = nL) (hls : ls.size = nL) (hown : s.vm.findClass own = some m.cls) (hK : KK g s) (hZ : ZZ base s s.heap) {a : Nat} {x : va_E} (hd : ∀ o, S o 0 (-1) ≠ 1) (hW : piw g base ad S (ws ++ [(a, x)]) H) (hlow : ∀ (k : Nat) (q : Nat × va_E), ws[k]? = some q → q.1 < a) (hS : va_S (fun q => base ≤ q) s.heap H locs)
    (hM : Met l y [Cond.code y bytes maxL none] rm (va_Pc (.ref a :: As) (PN g a ad S [(a, x)])) (gQ g a P) rm.cells rm.slots (fun q => a ≤ q)) (hin : y.name = "<init>") {im : Nat} (him : lw_tbl[im]? = some (.instanceMethod y)) (cb : CallB R s args own index y bytes maxL none [Cond.code y bytes maxL none] rm rm.cells rm.slots n) (hn : As.length = n) (hstk : st0 = As.reverse ++ .ref a :: rest) (hcat : (rest.map fun v => v.category).sum ≤ 8) (hdg : decode cc pc = .ok (.invokespecial index, 3)) (hf : cells + rm.cells ≤ R.cells ∧ slots + rm.slots ≤ R.slots)
    (kk : ∀ (r : Option Value) (ad' : Nat → Nat → Nat) (S' : St) (H1 : Heap) (locs1 : List Loc), P r ad' S' → piw g base ad' S' ws H1 → va_S (fun q => base ≤ q) s.heap H1 locs1 → W p l e R s m args below meth c H1 locs1 (cells + rm.cells) (slots + rm.slots) Q (F0 m (pc + 3) ls (r.toList ++ rest))) : W p l e R s m args below meth c H locs cells slots Q (F0 m pc ls st0) := by
  obtain ⟨hP, hV, hD⟩ := hW
  have hlast : (ws ++ [(a, x)])[ws.length]? = some (a, x) := by simp
  have hba : base ≤ a := (hD.2 _ _ hlast).1
  have haH : a < H.size := (hV _ _ hlast).lt
  have hWa : piw g a ad S [(a, x)] H := by
    refine ⟨⟨fun o r h1 h2 => absurd h1 (hd o), fun o r o' r' h1 h2 h3 h4 h5 => absurd h1 (hd o), Nat.le_of_lt haH, hP.2.2.2⟩, fun k q hq => ?_, fun i j p q h1 h2 h3 => ?_, fun k q hq => ?_⟩
    · have hz : k < 1 := (List.getElem?_eq_some_iff.mp hq).1
      rw [show k = 0 by omega] at hq
      cases hq
      exact hV _ _ hlast
    · have hz : i < 1 := (List.getElem?_eq_some_iff.mp h1).1
      have hz2 : j < 1 := (List.getElem?_eq_some_iff.mp h2).1
      omega
    · have hz : k < 1 := (List.getElem?_eq_some_iff.mp hq).1
      rw [show k = 0 by omega] at hq
      cases hq
      exact ⟨Nat.le_refl _, fun o r h1 h2 => absurd h1 (hd o)⟩
  have hr : va_Run p l e R s m args below meth c H locs cells slots rm.cells rm.slots (F0 m pc ls st0) rest (gQ g a P (Value.ref a :: As).toArray) (fun q => a ≤ q) := va_runI (H := H) (locs := locs) (cells := cells) (slots := slots) (g := F0 m pc ls st0) (As := As) (rest := rest) (Ts := []) ⟨hx, hb, hml, hown, fun _ h => nomatch h⟩ hM ⟨cb, hin, hK.b im him rfl⟩
    ⟨PN_blind, fun U hU hW1 => ⟨rfl, hK.warm hW1, by rw [hU]; have z := hZ.go (U := U) (H1 := H) hW1.alike hS.2.1; exact ⟨z.1.narrow (fun q h => Nat.le_trans hba h), z.2.narrow (fun q h => Nat.le_trans hba h)⟩, by rw [hU]; exact hWa⟩⟩ rfl hn hls hstk (lv_room hcat) hdg hf
  intro T hT X
  obtain ⟨v, st₀, t, T', L, h0, X', hL, e1, e2, ⟨⟨r, ad', S', hv, hp, hb'⟩, hF⟩, st⟩ := hr T hT X
  have hv' : v = r := by injection hv
  rw [hv'] at st
  have hS' : va_S (fun q => base ≤ q) s.heap T'.heap (locs ++ L) := q_keep h0 e1 hS (fun q h => Nat.le_trans hba (hL q h)) ⟨hF.1, fun q h1 h2 => hF.2 q h1 (fun h3 => h2 (Nat.le_trans hba h3))⟩
  have hV' : va_P g.1 vwCl ws H := fun k q hq => hV k q (by rw [List.getElem?_append_left (List.getElem?_eq_some_iff.mp hq).1]; exact hq)
  have hD' : ∀ (k : Nat) (q : Nat × va_E), ws[k]? = some q → (ws ++ [(a, x)])[k]? = some q := fun k q hq => by rw [List.getElem?_append_left (List.getElem?_eq_some_iff.mp hq).1]; exact hq
  have hP' : piw g base ad' S' ws T'.heap := by
    rw [e1]
    refine ⟨⟨fun o r h1 h2 => ⟨(hb'.1 o r h1 h2).1, Nat.le_trans hba (hb'.1 o r h1 h2).2⟩, hb'.2.1, Nat.le_trans hba hb'.2.2.1, hb'.2.2.2⟩, hV'.kept (fun k q hq => ?_), fun i j p q h1 h2 h3 => hD.1 i j p q (hD' _ _ h1) (hD' _ _ h2) h3, fun k q hq => ⟨(hD.2 k q (hD' _ _ hq)).1, fun o r h1 h2 h3 => ?_⟩⟩
    · have := hlow k q hq
      rw [hF.2 q.1 (by rw [h0]; omega) (by omega), h0]
    · have h4 := hlow k q hq
      have h5 := (hb'.1 o r h1 h2).2
      omega
  obtain ⟨t2, a1, b1⟩ := kk r ad' S' T'.heap (locs ++ L) hp hP' hS' T' rfl X'
  exact ⟨t2, st t2 a1, b1⟩
/-- a call that changes nothing, beside an object in the making -/
theorem q_callVN (hx : p.tables.exec = Jvm.exec) (hb : c.code = cc) (hml : c.maxLocals = nL) (hls : ls.size = nL) (hown : s.vm.findClass own = some m.cls) (hK : KK g s) (hZ : ZZ base s s.heap) (hW : piw g base ad S ws H) (hS : va_S (fun q => base ≤ q) s.heap H locs) {o k : Nat} (hal : S o 0 (-1) = 1) (hk : kd o = k) (hok : okr k 0 = true) {C : String} {T : u_T} {N : Nat} (hcl : vwCl[clsK k]? = some (C, T, N)) {v : Value}
    (hM : Met l y [Cond.code y bytes maxL ret] rm (va_Pc (.ref (ad o 0) :: As) (PK g base ad S)) (fun _ st oc t => oc = .returned (some v) ∧ va_F (fun _ => False) st t) rm.cells rm.slots (fun _ => False)) {im is : Nat} (him : lw_tbl[im]? = some (.instanceMethod y)) (his : lw_tbl[is]? = some (.selects C y y)) (cb : CallB R s args own index y bytes maxL ret [Cond.code y bytes maxL ret] rm rm.cells rm.slots n) (hn : As.length = n) (hstk : st0 = As.reverse ++ .ref (ad o 0) :: rest) (hcat : (rest.map fun v => v.category).sum ≤ 8) (hdg : decode cc pc = .ok (.invokevirtual index, 3)) (hf : cells + rm.cells ≤ R.cells ∧ slots + rm.slots ≤ R.slots)
    (kk : ∀ (H1 : Heap) (locs1 : List Loc), piw g base ad S ws H1 → va_S (fun q => base ≤ q) s.heap H1 locs1 → W p l e R s m args below meth c H1 locs1 (cells + rm.cells) (slots + rm.slots) Q (F0 m (pc + 3) ls (v :: rest))) : W p l e R s m args below meth c H locs cells slots Q (F0 m pc ls st0) := by
  have hr : va_Run p l e R s m args below meth c H locs cells slots rm.cells rm.slots (F0 m pc ls st0) rest (fun st oc t => oc = .returned (some v) ∧ va_F (fun _ => False) st t) (fun _ => False) := va_runV (H := H) (locs := locs) (cells := cells) (slots := slots) (g := F0 m pc ls st0) (As := As) (rest := rest) (Ts := []) ⟨hx, hb, hml, hown, fun _ h => nomatch h⟩ hM ⟨cb, hK.b im him rfl, hK.b is his rfl⟩ ⟨(q_pre hK hZ hW.1 hS _).1, q_recv hK hW.1 hal hk hok hcl, (q_pre hK hZ hW.1 hS _).2⟩ rfl hn hls hstk (lv_room hcat) hdg hf
  intro T hT X
  obtain ⟨w, st₀, t, T', L, h0, X', hL, e1, e2, ⟨hv, hF⟩, st⟩ := hr T hT X
  cases hv
  have hS' : va_S (fun q => base ≤ q) s.heap T'.heap (locs ++ L) := q_keep h0 e1 hS (fun q h => (hL q h).elim) ⟨hF.1, fun q h1 h2 => hF.2 q h1 (fun h3 => h3)⟩
  have hq : ∀ q : Nat, q < H.size → T'.heap[q]? = H[q]? := fun q h => by rw [e1, hF.2 q (by rw [h0]; exact h) (fun h3 => h3), h0]
  have hz : H.size ≤ T'.heap.size := by rw [e1, ← h0]; exact hF.1
  have hP' : piw g base ad S ws T'.heap := ⟨hW.1.grow hz hq, hW.2.1.kept (fun k q hk => hq q.1 (hW.2.1 k q hk).lt), hW.2.2⟩
  obtain ⟨t2, a1, b1⟩ := kk T'.heap (locs ++ L) hP' hS' T' rfl X'
  exact ⟨t2, st t2 a1, b1⟩
end QC
theorem mk_getN {l : Launch} {y : MethodName} {cc : ByteArray} {maxL : Nat} {ret : Option FieldType} {own : String} {g : GT} {base : Nat} {ad : Nat → Nat → Nat} {S : St} {av : List Value} {lv0 : List (Nat × Value)} {rm : Room} {v : Value} {mc ms : Nat}
    (hy : plainName y.cls = true) (ho : y.cls = own) (hn : (lg_sl av).length ≤ maxL) (hlv : lv_args 0 av = lv0)
    (body : ∀ (p : Program) (e : Env) (s : State) (m : MethodId) (below : List Frame) (meth : Method) (c : Code) (av : Array Value) (Qm : State → Prop), p.tables.exec = Jvm.exec → c.code = cc → meth.sig.returnType = ret → c.maxLocals = maxL → s.vm.findClass own = some m.cls → meth.locks = false → KK g s → pic g base ad S s.heap → Qm = MQ below (fun _ st oc t => oc = .returned (some v) ∧ va_F (fun _ => False) st t) av s mc ms (fun _ => False) → ∀ ls : Array Slot, lv_has ls maxL lv0 →
      W p l e rm s m av below meth c s.heap [] 0 0 Qm (F0 m 0 ls [])) :
    Met l y [Cond.code y cc maxL ret] rm (va_Pc av (PK g base ad S)) (fun _ st oc t => oc = .returned (some v) ∧ va_F (fun _ => False) st t) mc ms (fun _ => False) := by
  refine Met.ofW (cc := cc) (maxL := maxL) (ret := ret) hy rfl ?_
  intro p e s m args below meth c s₁ B hml hv
  obtain ⟨rfl, hK, hZ, hP⟩ := hv
  have hown : s.vm.findClass own = some m.cls := by rw [← ho]; exact findClass_of_methodNamed B.named
  rw [lg_entry_eq]
  exact body p e s m below meth c _ _ B.exec B.bytes B.returns hml hown B.notSynchronized hK hP rfl _ (hlv ▸ lv_entry av hn)
theorem ac_I : Cond.arrayClass .int ∈ lw_tbl := List.mem_of_getElem? (i := 61) (by decide +kernel)
theorem ac_Z : Cond.arrayClass .boolean ∈ lw_tbl := List.mem_of_getElem? (i := 62) (by decide +kernel)
set_option maxHeartbeats 4000000 in
theorem c_X0_heightN (l : Launch) (g : GT) (base : Nat) (ad : Nat → Nat → Nat) (S : St) (o : Nat) (hal : S o 0 (-1) = 1) (hkd : kd o = 4) : Met l yX0_height [Cond.code yX0_height cX0_height 1 (some FieldType.int)] ({ frames := 0, cells := 0, slots := 0, locals := 0 }) (va_Pc [.ref (ad o 0)] (PK g base ad S)) (fun _ st oc t => oc = .returned (some (.int (i32 (S o 0 1)))) ∧ va_F (fun _ => False) st t) 0 0 (fun _ => False) := by
  refine mk_getN (own := RX0) (lv0 := [(0, .ref (ad o 0))]) (by decide) rfl (Nat.le_of_ble_eq_true rfl) rfl ?_
  intro p e s m below meth cz av Qm hx hb hr hml hown hlocks hK hP hQm ls hl
  have hS : va_S (fun _ => False) s.heap s.heap [] := va_S.rf
  refine lv_aload_n hx hb dX0_height_0 rfl (lv_at hl 0 rfl) ?_
  refine p_get (k := 4) hx hb hown hK hP hal hkd rfl rfl (lay_X0 hK) 1 365 (by decide) t_365 rfl rfl dX0_height_1 ?_
  subst hQm
  exact W.iret (v := i32 (S o 0 1)) hx hb hr (fun t ht _ => ⟨rfl, hS.F ht⟩) hS.2.2 dX0_height_4 hlocks
set_option maxHeartbeats 4000000 in
theorem c_X2_heightN (l : Launch) (g : GT) (base : Nat) (ad : Nat → Nat → Nat) (S : St) (o : Nat) (hal : S o 0 (-1) = 1) (hkd : kd o = 5) : Met l yX2_height [Cond.code yX2_height cX2_height 1 (some FieldType.int)] ({ frames := 0, cells := 0, slots := 0, locals := 0 }) (va_Pc [.ref (ad o 0)] (PK g base ad S)) (fun _ st oc t => oc = .returned (some (.int (i32 (S o 0 1)))) ∧ va_F (fun _ => False) st t) 0 0 (fun _ => False) := by
  refine mk_getN (own := RX2) (lv0 := [(0, .ref (ad o 0))]) (by decide) rfl (Nat.le_of_ble_eq_true rfl) rfl ?_
  intro p e s m below meth cz av Qm hx hb hr hml hown hlocks hK hP hQm ls hl
  have hS : va_S (fun _ => False) s.heap s.heap [] := va_S.rf
  refine lv_aload_n hx hb dX2_height_0 rfl (lv_at hl 0 rfl) ?_
  refine p_get (k := 5) hx hb hown hK hP hal hkd rfl rfl (lay_X2 hK) 1 461 (by decide) t_461 rfl rfl dX2_height_1 ?_
  subst hQm
  exact W.iret (v := i32 (S o 0 1)) hx hb hr (fun t ht _ => ⟨rfl, hS.F ht⟩) hS.2.2 dX2_height_4 hlocks
set_option maxHeartbeats 4000000 in
set_option maxRecDepth 100000 in
theorem c_X0_init (l : Launch) (g : GT) (base : Nat) (ad : Nat → Nat → Nat) (S : St) (o : Nat) (a : Nat) (w : Int) (hkd : kd o = 4) (hrn : rng w) (hcc : keepc S o) : Met l yX0_init [Cond.code yX0_init cX0_init 2 (none : Option FieldType)] ({ frames := 1, cells := 1, slots := 120, locals := 12 }) (va_Pc [.ref a, .int (i32 (w))] (PN g base ad S [(a, .inr (0, [.int (i32 0), .int (i32 0), .null, .int (i32 0), .int (i32 0)]))])) (gQ g base (nP ad S o a (fun i => if i = -1 then 1 else if i = 0 then w else if i = 4 then 1 else 0))) 1 120 (fun q => base ≤ q) := by
  refine mk_init (own := RX0) (lv0 := [(0, .ref a), (1, .int (i32 (w)))]) (by decide) rfl rfl (Nat.le_of_ble_eq_true rfl) rfl ?_
  intro p e s m below meth cz av Qm hx hb hr hml hown hlocks hin2 hK hZ hW hQm ls hl
  have hS : va_S (fun q => base ≤ q) s.heap s.heap [] := va_S.rf
  refine lv_aload_n hx hb dX0_init_0 rfl (lv_at hl 0 rfl) ?_
  refine w_oi hx hb (hml.trans hl.1.symm) hown hK t_363 dX0_init_1 ⟨by decide, by decide⟩ ?_
  refine lv_aload_n hx hb dX0_init_4 rfl (lv_at hl 0 rfl) ?_
  refine lv_iconst (v := i32 (0)) hx hb dX0_init_5 rfl ?_
  refine w_put hx hb hown hK hW hS 0 rfl rfl (lay_X0 hK) tyX0 tyX0_ok nmX0 1 365 (by decide) t_365 rfl rfl (ty := .int) (by decide +kernel) rfl rfl (Nat.le_of_ble_eq_true rfl) dX0_init_6 (fun H locs hW hS => ?_)
  have hW : piw g base ad S [(a, .inr (0, [.int (i32 0), .int (i32 (0)), .null, .int (i32 0), .int (i32 0)]))] H := hW
  refine lv_aload_n hx hb dX0_init_9 rfl (lv_at hl 0 rfl) ?_
  refine lv_bipush (v := i32 (120)) hx hb dX0_init_10 (by decide) ?_
  refine w_newI hx hb hK hW hS (n := i32 120) (N := 120) (by decide) (by decide) (by decide) (by decide) (Nat.le_of_ble_eq_true rfl) ac_I dX0_init_12 (fun q12 H hW hS => ?_)
  have hW : piw g base ad S [(a, .inr (0, [.int (i32 0), .int (i32 (0)), .null, .int (i32 0), .int (i32 0)])), (q12, arCell g ad (fun _ => 0) (0, 120))] H := hW
  refine w_putF hx hb hown hK hW hS 0 rfl rfl (lay_X0 hK) tyX0 tyX0_ok nmX0 2 366 (by decide) t_366 rfl rfl hin2 rfl (ty := .array .int) (by decide +kernel) rfl rfl (Nat.le_of_ble_eq_true rfl) dX0_init_14 (fun H locs hW hS => ?_)
  have hW : piw g base ad S [(a, .inr (0, [.int (i32 0), .int (i32 (0)), .ref q12, .int (i32 0), .int (i32 0)])), (q12, arCell g ad (fun _ => 0) (0, 120))] H := hW
  refine lv_aload_n hx hb dX0_init_17 rfl (lv_at hl 0 rfl) ?_
  refine lv_iconst (v := i32 (0)) hx hb dX0_init_18 rfl ?_
  refine w_put hx hb hown hK hW hS 0 rfl rfl (lay_X0 hK) tyX0 tyX0_ok nmX0 3 367 (by decide) t_367 rfl rfl (ty := .int) (by decide +kernel) rfl rfl (Nat.le_of_ble_eq_true rfl) dX0_init_19 (fun H locs hW hS => ?_)
  have hW : piw g base ad S [(a, .inr (0, [.int (i32 0), .int (i32 (0)), .ref q12, .int (i32 (0)), .int (i32 0)])), (q12, arCell g ad (fun _ => 0) (0, 120))] H := hW
  refine lv_aload_n hx hb dX0_init_22 rfl (lv_at hl 0 rfl) ?_
  refine lv_iconst (v := i32 (1)) hx hb dX0_init_23 rfl ?_
  refine w_put hx hb hown hK hW hS 0 rfl rfl (lay_X0 hK) tyX0 tyX0_ok nmX0 4 368 (by decide) t_368 rfl rfl (ty := .int) (by decide +kernel) rfl rfl (Nat.le_of_ble_eq_true rfl) dX0_init_24 (fun H locs hW hS => ?_)
  have hW : piw g base ad S [(a, .inr (0, [.int (i32 0), .int (i32 (0)), .ref q12, .int (i32 (0)), .int (i32 (1))])), (q12, arCell g ad (fun _ => 0) (0, 120))] H := hW
  refine lv_aload_n hx hb dX0_init_27 rfl (lv_at hl 0 rfl) ?_
  refine lv_iload_n hx hb dX0_init_28 rfl (lv_at hl 1 rfl) ?_
  refine w_putF hx hb hown hK hW hS 0 rfl rfl (lay_X0 hK) tyX0 tyX0_ok nmX0 0 364 (by decide) t_364 rfl rfl hin2 rfl (ty := .int) (by decide +kernel) rfl rfl (Nat.le_of_ble_eq_true rfl) dX0_init_29 (fun H locs hW hS => ?_)
  have hW : piw g base ad S [(a, .inr (0, [.int (i32 (w)), .int (i32 (0)), .ref q12, .int (i32 (0)), .int (i32 (1))])), (q12, arCell g ad (fun _ => 0) (0, 120))] H := hW
  have hrows : ∀ r, okr 4 r = true → ([(a, .inr (0, [.int (i32 (w)), .int (i32 (0)), .ref q12, .int (i32 (0)), .int (i32 (1))])), (q12, arCell g ad (fun _ => 0) (0, 120))] : va_W)[(fun r => if r = 0 then 0 else if r = 3 then 1 else 0 : Nat → Nat) r]? = some ((fun r => if r = 0 then a else if r = 3 then q12 else 0 : Nat → Nat) r, cellK g (adN ad o (fun r => if r = 0 then a else if r = 3 then q12 else 0)) 4 o r (if r = 0 then (fun i => if i = -1 then 1 else if i = 0 then w else if i = 4 then 1 else 0) else fun _ => 0)) := by
    intro r hr9
    rcases ok4 hr9 with rfl | rfl
    · simp [cellK, clsK, fldsK, adN]
    all_goals rfl
  have hinv : ∀ r, okr 4 r = true → (fun i => if i = 0 then 0 else if i = 1 then 3 else 0 : Nat → Nat) ((fun r => if r = 0 then 0 else if r = 3 then 1 else 0 : Nat → Nat) r) = r := by
    intro r hr9
    rcases ok4 hr9 with rfl | rfl <;> rfl
  have hrg : ∀ i, rng ((fun i => if i = -1 then 1 else if i = 0 then w else if i = 4 then 1 else 0 : Int → Int) i) := by
    intro i
    dsimp only
    repeat' split
    all_goals first | assumption | exact ⟨by decide, by decide⟩
  subst hQm
  exact q_vret hx hb hr hlocks (pic_add (k := 4) (A := fun r => if r = 0 then a else if r = 3 then q12 else 0) (ix := fun r => if r = 0 then 0 else if r = 3 then 1 else 0) (ri := fun i => if i = 0 then 0 else if i = 1 then 3 else 0) hW hkd (Or.inr rfl) hrg hcc hrows hinv) hS ⟨rfl, _, rfl, rfl, rfl⟩ (by decide) (Nat.le_of_ble_eq_true rfl) dX0_init_32
set_option maxHeartbeats 4000000 in
set_option maxRecDepth 100000 in
theorem c_X1_init (l : Launch) (g : GT) (base : Nat) (ad : Nat → Nat → Nat) (S : St) (o : Nat) (a : Nat)  (hkd : kd o = 2) (hcc : keepc S o) : Met l yX1_init [Cond.code yX1_init cX1_init 1 (none : Option FieldType)] ({ frames := 1, cells := 5, slots := 100, locals := 12 }) (va_Pc [.ref a] (PN g base ad S [(a, .inr (1, [.int (i32 0), .null, .null, .null, .null, .null]))])) (gQ g base (nP ad S o a (fun i => if i = -1 then 1 else 0))) 5 100 (fun q => base ≤ q) := by
  refine mk_init (own := RX1) (lv0 := [(0, .ref a)]) (by decide) rfl rfl (Nat.le_of_ble_eq_true rfl) rfl ?_
  intro p e s m below meth cz av Qm hx hb hr hml hown hlocks hin2 hK hZ hW hQm ls hl
  have hS : va_S (fun q => base ≤ q) s.heap s.heap [] := va_S.rf
  refine lv_aload_n hx hb dX1_init_0 rfl (lv_at hl 0 rfl) ?_
  refine w_oi hx hb (hml.trans hl.1.symm) hown hK t_41 dX1_init_1 ⟨by decide, by decide⟩ ?_
  refine lv_aload_n hx hb dX1_init_4 rfl (lv_at hl 0 rfl) ?_
  refine lv_iconst (v := i32 (0)) hx hb dX1_init_5 rfl ?_
  refine w_put hx hb hown hK hW hS 0 rfl rfl (lay_X1 hK) tyX1 tyX1_ok nmX1 0 42 (by decide) t_42 rfl rfl (ty := .int) (by decide +kernel) rfl rfl (Nat.le_of_ble_eq_true rfl) dX1_init_6 (fun H locs hW hS => ?_)
  have hW : piw g base ad S [(a, .inr (1, [.int (i32 (0)), .null, .null, .null, .null, .null]))] H := hW
  refine lv_aload_n hx hb dX1_init_9 rfl (lv_at hl 0 rfl) ?_
  refine lv_bipush (v := i32 (20)) hx hb dX1_init_10 (by decide) ?_
  refine w_newI hx hb hK hW hS (n := i32 20) (N := 20) (by decide) (by decide) (by decide) (by decide) (Nat.le_of_ble_eq_true rfl) ac_I dX1_init_12 (fun q12 H hW hS => ?_)
  have hW : piw g base ad S [(a, .inr (1, [.int (i32 (0)), .null, .null, .null, .null, .null])), (q12, arCell g ad (fun _ => 0) (0, 20))] H := hW
  refine w_putF hx hb hown hK hW hS 0 rfl rfl (lay_X1 hK) tyX1 tyX1_ok nmX1 1 43 (by decide) t_43 rfl rfl hin2 rfl (ty := .array .int) (by decide +kernel) rfl rfl (Nat.le_of_ble_eq_true rfl) dX1_init_14 (fun H locs hW hS => ?_)
  have hW : piw g base ad S [(a, .inr (1, [.int (i32 (0)), .ref q12, .null, .null, .null, .null])), (q12, arCell g ad (fun _ => 0) (0, 20))] H := hW
  refine lv_aload_n hx hb dX1_init_17 rfl (lv_at hl 0 rfl) ?_
  refine lv_bipush (v := i32 (20)) hx hb dX1_init_18 (by decide) ?_
  refine w_newI hx hb hK hW hS (n := i32 20) (N := 20) (by decide) (by decide) (by decide) (by decide) (Nat.le_of_ble_eq_true rfl) ac_I dX1_init_20 (fun q20 H hW hS => ?_)
  have hW : piw g base ad S [(a, .inr (1, [.int (i32 (0)), .ref q12, .null, .null, .null, .null])), (q12, arCell g ad (fun _ => 0) (0, 20)), (q20, arCell g ad (fun _ => 0) (0, 20))] H := hW
  refine w_putF hx hb hown hK hW hS 0 rfl rfl (lay_X1 hK) tyX1 tyX1_ok nmX1 2 44 (by decide) t_44 rfl rfl hin2 rfl (ty := .array .int) (by decide +kernel) rfl rfl (Nat.le_of_ble_eq_true rfl) dX1_init_22 (fun H locs hW hS => ?_)
  have hW : piw g base ad S [(a, .inr (1, [.int (i32 (0)), .ref q12, .ref q20, .null, .null, .null])), (q12, arCell g ad (fun _ => 0) (0, 20)), (q20, arCell g ad (fun _ => 0) (0, 20))] H := hW
  refine lv_aload_n hx hb dX1_init_25 rfl (lv_at hl 0 rfl) ?_
  refine lv_bipush (v := i32 (20)) hx hb dX1_init_26 (by decide) ?_
  refine w_newI hx hb hK hW hS (n := i32 20) (N := 20) (by decide) (by decide) (by decide) (by decide) (Nat.le_of_ble_eq_true rfl) ac_I dX1_init_28 (fun q28 H hW hS => ?_)
  have hW : piw g base ad S [(a, .inr (1, [.int (i32 (0)), .ref q12, .ref q20, .null, .null, .null])), (q12, arCell g ad (fun _ => 0) (0, 20)), (q20, arCell g ad (fun _ => 0) (0, 20)), (q28, arCell g ad (fun _ => 0) (0, 20))] H := hW
  refine w_putF hx hb hown hK hW hS 0 rfl rfl (lay_X1 hK) tyX1 tyX1_ok nmX1 3 45 (by decide) t_45 rfl rfl hin2 rfl (ty := .array .int) (by decide +kernel) rfl rfl (Nat.le_of_ble_eq_true rfl) dX1_init_30 (fun H locs hW hS => ?_)
  have hW : piw g base ad S [(a, .inr (1, [.int (i32 (0)), .ref q12, .ref q20, .ref q28, .null, .null])), (q12, arCell g ad (fun _ => 0) (0, 20)), (q20, arCell g ad (fun _ => 0) (0, 20)), (q28, arCell g ad (fun _ => 0) (0, 20))] H := hW
  refine lv_aload_n hx hb dX1_init_33 rfl (lv_at hl 0 rfl) ?_
  refine lv_bipush (v := i32 (20)) hx hb dX1_init_34 (by decide) ?_
  refine w_newI hx hb hK hW hS (n := i32 20) (N := 20) (by decide) (by decide) (by decide) (by decide) (Nat.le_of_ble_eq_true rfl) ac_I dX1_init_36 (fun q36 H hW hS => ?_)
  have hW : piw g base ad S [(a, .inr (1, [.int (i32 (0)), .ref q12, .ref q20, .ref q28, .null, .null])), (q12, arCell g ad (fun _ => 0) (0, 20)), (q20, arCell g ad (fun _ => 0) (0, 20)), (q28, arCell g ad (fun _ => 0) (0, 20)), (q36, arCell g ad (fun _ => 0) (0, 20))] H := hW
  refine w_putF hx hb hown hK hW hS 0 rfl rfl (lay_X1 hK) tyX1 tyX1_ok nmX1 4 46 (by decide) t_46 rfl rfl hin2 rfl (ty := .array .int) (by decide +kernel) rfl rfl (Nat.le_of_ble_eq_true rfl) dX1_init_38 (fun H locs hW hS => ?_)
  have hW : piw g base ad S [(a, .inr (1, [.int (i32 (0)), .ref q12, .ref q20, .ref q28, .ref q36, .null])), (q12, arCell g ad (fun _ => 0) (0, 20)), (q20, arCell g ad (fun _ => 0) (0, 20)), (q28, arCell g ad (fun _ => 0) (0, 20)), (q36, arCell g ad (fun _ => 0) (0, 20))] H := hW
  refine lv_aload_n hx hb dX1_init_41 rfl (lv_at hl 0 rfl) ?_
  refine lv_bipush (v := i32 (20)) hx hb dX1_init_42 (by decide) ?_
  refine w_newZ hx hb hK hW hS (n := i32 20) (N := 20) (by decide) (by decide) (by decide) (by decide) (Nat.le_of_ble_eq_true rfl) ac_Z dX1_init_44 (fun q44 H hW hS => ?_)
  have hW : piw g base ad S [(a, .inr (1, [.int (i32 (0)), .ref q12, .ref q20, .ref q28, .ref q36, .null])), (q12, arCell g ad (fun _ => 0) (0, 20)), (q20, arCell g ad (fun _ => 0) (0, 20)), (q28, arCell g ad (fun _ => 0) (0, 20)), (q36, arCell g ad (fun _ => 0) (0, 20)), (q44, arCell g ad (fun _ => 0) (1, 20))] H := hW
  refine w_putF hx hb hown hK hW hS 0 rfl rfl (lay_X1 hK) tyX1 tyX1_ok nmX1 5 47 (by decide) t_47 rfl rfl hin2 rfl (ty := .array .boolean) (by decide +kernel) rfl rfl (Nat.le_of_ble_eq_true rfl) dX1_init_46 (fun H locs hW hS => ?_)
  have hW : piw g base ad S [(a, .inr (1, [.int (i32 (0)), .ref q12, .ref q20, .ref q28, .ref q36, .ref q44])), (q12, arCell g ad (fun _ => 0) (0, 20)), (q20, arCell g ad (fun _ => 0) (0, 20)), (q28, arCell g ad (fun _ => 0) (0, 20)), (q36, arCell g ad (fun _ => 0) (0, 20)), (q44, arCell g ad (fun _ => 0) (1, 20))] H := hW
  have hrows : ∀ r, okr 2 r = true → ([(a, .inr (1, [.int (i32 (0)), .ref q12, .ref q20, .ref q28, .ref q36, .ref q44])), (q12, arCell g ad (fun _ => 0) (0, 20)), (q20, arCell g ad (fun _ => 0) (0, 20)), (q28, arCell g ad (fun _ => 0) (0, 20)), (q36, arCell g ad (fun _ => 0) (0, 20)), (q44, arCell g ad (fun _ => 0) (1, 20))] : va_W)[(fun r => if r = 0 then 0 else if r = 2 then 1 else if r = 3 then 2 else if r = 4 then 3 else if r = 5 then 4 else if r = 6 then 5 else 0 : Nat → Nat) r]? = some ((fun r => if r = 0 then a else if r = 2 then q12 else if r = 3 then q20 else if r = 4 then q28 else if r = 5 then q36 else if r = 6 then q44 else 0 : Nat → Nat) r, cellK g (adN ad o (fun r => if r = 0 then a else if r = 2 then q12 else if r = 3 then q20 else if r = 4 then q28 else if r = 5 then q36 else if r = 6 then q44 else 0)) 2 o r (if r = 0 then (fun i => if i = -1 then 1 else 0) else fun _ => 0)) := by
    intro r hr9
    rcases ok2 hr9 with rfl | rfl | rfl | rfl | rfl | rfl
    · simp [cellK, clsK, fldsK, adN]
    all_goals rfl
  have hinv : ∀ r, okr 2 r = true → (fun i => if i = 0 then 0 else if i = 1 then 2 else if i = 2 then 3 else if i = 3 then 4 else if i = 4 then 5 else if i = 5 then 6 else 0 : Nat → Nat) ((fun r => if r = 0 then 0 else if r = 2 then 1 else if r = 3 then 2 else if r = 4 then 3 else if r = 5 then 4 else if r = 6 then 5 else 0 : Nat → Nat) r) = r := by
    intro r hr9
    rcases ok2 hr9 with rfl | rfl | rfl | rfl | rfl | rfl <;> rfl
  have hrg : ∀ i, rng ((fun i => if i = -1 then 1 else 0 : Int → Int) i) := by
    intro i
    dsimp only
    repeat' split
    all_goals first | assumption | exact ⟨by decide, by decide⟩
  subst hQm
  exact q_vret hx hb hr hlocks (pic_add (k := 2) (A := fun r => if r = 0 then a else if r = 2 then q12 else if r = 3 then q20 else if r = 4 then q28 else if r = 5 then q36 else if r = 6 then q44 else 0) (ix := fun r => if r = 0 then 0 else if r = 2 then 1 else if r = 3 then 2 else if r = 4 then 3 else if r = 5 then 4 else if r = 6 then 5 else 0) (ri := fun i => if i = 0 then 0 else if i = 1 then 2 else if i = 2 then 3 else if i = 3 then 4 else if i = 4 then 5 else if i = 5 then 6 else 0) hW hkd (Or.inr rfl) hrg hcc hrows hinv) hS ⟨rfl, _, rfl, rfl, rfl⟩ (by decide) (Nat.le_of_ble_eq_true rfl) dX1_init_49
set_option maxHeartbeats 4000000 in
set_option maxRecDepth 100000 in
theorem c_X2_init (l : Launch) (g : GT) (base : Nat) (ad : Nat → Nat → Nat) (S : St) (o : Nat) (a : Nat) (h w : Int) (hkd : kd o = 5) (hrn : rng h) (hrn2 : rng w) (hcc : keepc S o) : Met l yX2_init [Cond.code yX2_init cX2_init 3 (none : Option FieldType)] ({ frames := 1, cells := 6, slots := 772, locals := 12 }) (va_Pc [.ref a, .int (i32 (h)), .int (i32 (w))] (PN g base ad S [(a, .inr (2, [.int (i32 0), .int (i32 0), .int (i32 0), .null, .null, .null, .null, .null, .null]))])) (gQ g base (nP ad S o a (fun i => if i = -1 then 1 else if i = 1 then h else if i = 2 then w else 0))) 6 772 (fun q => base ≤ q) := by
  refine mk_init (own := RX2) (lv0 := [(0, .ref a), (1, .int (i32 (h))), (2, .int (i32 (w)))]) (by decide) rfl rfl (Nat.le_of_ble_eq_true rfl) rfl ?_
  intro p e s m below meth cz av Qm hx hb hr hml hown hlocks hin2 hK hZ hW hQm ls hl
  have hS : va_S (fun q => base ≤ q) s.heap s.heap [] := va_S.rf
  refine lv_aload_n hx hb dX2_init_0 rfl (lv_at hl 0 rfl) ?_
  refine w_oi hx hb (hml.trans hl.1.symm) hown hK t_459 dX2_init_1 ⟨by decide, by decide⟩ ?_
  refine lv_aload_n hx hb dX2_init_4 rfl (lv_at hl 0 rfl) ?_
  refine lv_iconst (v := i32 (0)) hx hb dX2_init_5 rfl ?_
  refine w_put hx hb hown hK hW hS 0 rfl rfl (lay_X2 hK) tyX2 tyX2_ok nmX2 0 460 (by decide) t_460 rfl rfl (ty := .int) (by decide +kernel) rfl rfl (Nat.le_of_ble_eq_true rfl) dX2_init_6 (fun H locs hW hS => ?_)
  have hW : piw g base ad S [(a, .inr (2, [.int (i32 (0)), .int (i32 0), .int (i32 0), .null, .null, .null, .null, .null, .null]))] H := hW
  refine lv_aload_n hx hb dX2_init_9 rfl (lv_at hl 0 rfl) ?_
  refine lv_iconst (v := i32 (4)) hx hb dX2_init_10 rfl ?_
  refine w_newI hx hb hK hW hS (n := i32 4) (N := 4) (by decide) (by decide) (by decide) (by decide) (Nat.le_of_ble_eq_true rfl) ac_I dX2_init_11 (fun q11 H hW hS => ?_)
  have hW : piw g base ad S [(a, .inr (2, [.int (i32 (0)), .int (i32 0), .int (i32 0), .null, .null, .null, .null, .null, .null])), (q11, arCell g ad (fun _ => 0) (0, 4))] H := hW
  refine w_putF hx hb hown hK hW hS 0 rfl rfl (lay_X2 hK) tyX2 tyX2_ok nmX2 3 463 (by decide) t_463 rfl rfl hin2 rfl (ty := .array .int) (by decide +kernel) rfl rfl (Nat.le_of_ble_eq_true rfl) dX2_init_13 (fun H locs hW hS => ?_)
  have hW : piw g base ad S [(a, .inr (2, [.int (i32 (0)), .int (i32 0), .int (i32 0), .ref q11, .null, .null, .null, .null, .null])), (q11, arCell g ad (fun _ => 0) (0, 4))] H := hW
  refine lv_aload_n hx hb dX2_init_16 rfl (lv_at hl 0 rfl) ?_
  refine lv_sipush (v := i32 (240)) hx hb dX2_init_17 (by decide) ?_
  refine w_newI hx hb hK hW hS (n := i32 240) (N := 240) (by decide) (by decide) (by decide) (by decide) (Nat.le_of_ble_eq_true rfl) ac_I dX2_init_20 (fun q20 H hW hS => ?_)
  have hW : piw g base ad S [(a, .inr (2, [.int (i32 (0)), .int (i32 0), .int (i32 0), .ref q11, .null, .null, .null, .null, .null])), (q11, arCell g ad (fun _ => 0) (0, 4)), (q20, arCell g ad (fun _ => 0) (0, 240))] H := hW
  refine w_putF hx hb hown hK hW hS 0 rfl rfl (lay_X2 hK) tyX2 tyX2_ok nmX2 4 464 (by decide) t_464 rfl rfl hin2 rfl (ty := .array .int) (by decide +kernel) rfl rfl (Nat.le_of_ble_eq_true rfl) dX2_init_22 (fun H locs hW hS => ?_)
  have hW : piw g base ad S [(a, .inr (2, [.int (i32 (0)), .int (i32 0), .int (i32 0), .ref q11, .ref q20, .null, .null, .null, .null])), (q11, arCell g ad (fun _ => 0) (0, 4)), (q20, arCell g ad (fun _ => 0) (0, 240))] H := hW
  refine lv_aload_n hx hb dX2_init_25 rfl (lv_at hl 0 rfl) ?_
  refine lv_sipush (v := i32 (240)) hx hb dX2_init_26 (by decide) ?_
  refine w_newI hx hb hK hW hS (n := i32 240) (N := 240) (by decide) (by decide) (by decide) (by decide) (Nat.le_of_ble_eq_true rfl) ac_I dX2_init_29 (fun q29 H hW hS => ?_)
  have hW : piw g base ad S [(a, .inr (2, [.int (i32 (0)), .int (i32 0), .int (i32 0), .ref q11, .ref q20, .null, .null, .null, .null])), (q11, arCell g ad (fun _ => 0) (0, 4)), (q20, arCell g ad (fun _ => 0) (0, 240)), (q29, arCell g ad (fun _ => 0) (0, 240))] H := hW
  refine w_putF hx hb hown hK hW hS 0 rfl rfl (lay_X2 hK) tyX2 tyX2_ok nmX2 5 465 (by decide) t_465 rfl rfl hin2 rfl (ty := .array .int) (by decide +kernel) rfl rfl (Nat.le_of_ble_eq_true rfl) dX2_init_31 (fun H locs hW hS => ?_)
  have hW : piw g base ad S [(a, .inr (2, [.int (i32 (0)), .int (i32 0), .int (i32 0), .ref q11, .ref q20, .ref q29, .null, .null, .null])), (q11, arCell g ad (fun _ => 0) (0, 4)), (q20, arCell g ad (fun _ => 0) (0, 240)), (q29, arCell g ad (fun _ => 0) (0, 240))] H := hW
  refine lv_aload_n hx hb dX2_init_34 rfl (lv_at hl 0 rfl) ?_
  refine lv_sipush (v := i32 (240)) hx hb dX2_init_35 (by decide) ?_
  refine w_newI hx hb hK hW hS (n := i32 240) (N := 240) (by decide) (by decide) (by decide) (by decide) (Nat.le_of_ble_eq_true rfl) ac_I dX2_init_38 (fun q38 H hW hS => ?_)
  have hW : piw g base ad S [(a, .inr (2, [.int (i32 (0)), .int (i32 0), .int (i32 0), .ref q11, .ref q20, .ref q29, .null, .null, .null])), (q11, arCell g ad (fun _ => 0) (0, 4)), (q20, arCell g ad (fun _ => 0) (0, 240)), (q29, arCell g ad (fun _ => 0) (0, 240)), (q38, arCell g ad (fun _ => 0) (0, 240))] H := hW
  refine w_putF hx hb hown hK hW hS 0 rfl rfl (lay_X2 hK) tyX2 tyX2_ok nmX2 6 466 (by decide) t_466 rfl rfl hin2 rfl (ty := .array .int) (by decide +kernel) rfl rfl (Nat.le_of_ble_eq_true rfl) dX2_init_40 (fun H locs hW hS => ?_)
  have hW : piw g base ad S [(a, .inr (2, [.int (i32 (0)), .int (i32 0), .int (i32 0), .ref q11, .ref q20, .ref q29, .ref q38, .null, .null])), (q11, arCell g ad (fun _ => 0) (0, 4)), (q20, arCell g ad (fun _ => 0) (0, 240)), (q29, arCell g ad (fun _ => 0) (0, 240)), (q38, arCell g ad (fun _ => 0) (0, 240))] H := hW
  refine lv_aload_n hx hb dX2_init_43 rfl (lv_at hl 0 rfl) ?_
  refine lv_bipush (v := i32 (24)) hx hb dX2_init_44 (by decide) ?_
  refine w_newI hx hb hK hW hS (n := i32 24) (N := 24) (by decide) (by decide) (by decide) (by decide) (Nat.le_of_ble_eq_true rfl) ac_I dX2_init_46 (fun q46 H hW hS => ?_)
  have hW : piw g base ad S [(a, .inr (2, [.int (i32 (0)), .int (i32 0), .int (i32 0), .ref q11, .ref q20, .ref q29, .ref q38, .null, .null])), (q11, arCell g ad (fun _ => 0) (0, 4)), (q20, arCell g ad (fun _ => 0) (0, 240)), (q29, arCell g ad (fun _ => 0) (0, 240)), (q38, arCell g ad (fun _ => 0) (0, 240)), (q46, arCell g ad (fun _ => 0) (0, 24))] H := hW
  refine w_putF hx hb hown hK hW hS 0 rfl rfl (lay_X2 hK) tyX2 tyX2_ok nmX2 7 467 (by decide) t_467 rfl rfl hin2 rfl (ty := .array .int) (by decide +kernel) rfl rfl (Nat.le_of_ble_eq_true rfl) dX2_init_48 (fun H locs hW hS => ?_)
  have hW : piw g base ad S [(a, .inr (2, [.int (i32 (0)), .int (i32 0), .int (i32 0), .ref q11, .ref q20, .ref q29, .ref q38, .ref q46, .null])), (q11, arCell g ad (fun _ => 0) (0, 4)), (q20, arCell g ad (fun _ => 0) (0, 240)), (q29, arCell g ad (fun _ => 0) (0, 240)), (q38, arCell g ad (fun _ => 0) (0, 240)), (q46, arCell g ad (fun _ => 0) (0, 24))] H := hW
  refine lv_aload_n hx hb dX2_init_51 rfl (lv_at hl 0 rfl) ?_
  refine lv_bipush (v := i32 (24)) hx hb dX2_init_52 (by decide) ?_
  refine w_newZ hx hb hK hW hS (n := i32 24) (N := 24) (by decide) (by decide) (by decide) (by decide) (Nat.le_of_ble_eq_true rfl) ac_Z dX2_init_54 (fun q54 H hW hS => ?_)
  have hW : piw g base ad S [(a, .inr (2, [.int (i32 (0)), .int (i32 0), .int (i32 0), .ref q11, .ref q20, .ref q29, .ref q38, .ref q46, .null])), (q11, arCell g ad (fun _ => 0) (0, 4)), (q20, arCell g ad (fun _ => 0) (0, 240)), (q29, arCell g ad (fun _ => 0) (0, 240)), (q38, arCell g ad (fun _ => 0) (0, 240)), (q46, arCell g ad (fun _ => 0) (0, 24)), (q54, arCell g ad (fun _ => 0) (1, 24))] H := hW
  refine w_putF hx hb hown hK hW hS 0 rfl rfl (lay_X2 hK) tyX2 tyX2_ok nmX2 8 468 (by decide) t_468 rfl rfl hin2 rfl (ty := .array .boolean) (by decide +kernel) rfl rfl (Nat.le_of_ble_eq_true rfl) dX2_init_56 (fun H locs hW hS => ?_)
  have hW : piw g base ad S [(a, .inr (2, [.int (i32 (0)), .int (i32 0), .int (i32 0), .ref q11, .ref q20, .ref q29, .ref q38, .ref q46, .ref q54])), (q11, arCell g ad (fun _ => 0) (0, 4)), (q20, arCell g ad (fun _ => 0) (0, 240)), (q29, arCell g ad (fun _ => 0) (0, 240)), (q38, arCell g ad (fun _ => 0) (0, 240)), (q46, arCell g ad (fun _ => 0) (0, 24)), (q54, arCell g ad (fun _ => 0) (1, 24))] H := hW
  refine lv_aload_n hx hb dX2_init_59 rfl (lv_at hl 0 rfl) ?_
  refine lv_iload_n hx hb dX2_init_60 rfl (lv_at hl 1 rfl) ?_
  refine w_putF hx hb hown hK hW hS 0 rfl rfl (lay_X2 hK) tyX2 tyX2_ok nmX2 1 461 (by decide) t_461 rfl rfl hin2 rfl (ty := .int) (by decide +kernel) rfl rfl (Nat.le_of_ble_eq_true rfl) dX2_init_61 (fun H locs hW hS => ?_)
  have hW : piw g base ad S [(a, .inr (2, [.int (i32 (0)), .int (i32 (h)), .int (i32 0), .ref q11, .ref q20, .ref q29, .ref q38, .ref q46, .ref q54])), (q11, arCell g ad (fun _ => 0) (0, 4)), (q20, arCell g ad (fun _ => 0) (0, 240)), (q29, arCell g ad (fun _ => 0) (0, 240)), (q38, arCell g ad (fun _ => 0) (0, 240)), (q46, arCell g ad (fun _ => 0) (0, 24)), (q54, arCell g ad (fun _ => 0) (1, 24))] H := hW
  refine lv_aload_n hx hb dX2_init_64 rfl (lv_at hl 0 rfl) ?_
  refine lv_iload_n hx hb dX2_init_65 rfl (lv_at hl 2 rfl) ?_
  refine w_putF hx hb hown hK hW hS 0 rfl rfl (lay_X2 hK) tyX2 tyX2_ok nmX2 2 462 (by decide) t_462 rfl rfl hin2 rfl (ty := .int) (by decide +kernel) rfl rfl (Nat.le_of_ble_eq_true rfl) dX2_init_66 (fun H locs hW hS => ?_)
  have hW : piw g base ad S [(a, .inr (2, [.int (i32 (0)), .int (i32 (h)), .int (i32 (w)), .ref q11, .ref q20, .ref q29, .ref q38, .ref q46, .ref q54])), (q11, arCell g ad (fun _ => 0) (0, 4)), (q20, arCell g ad (fun _ => 0) (0, 240)), (q29, arCell g ad (fun _ => 0) (0, 240)), (q38, arCell g ad (fun _ => 0) (0, 240)), (q46, arCell g ad (fun _ => 0) (0, 24)), (q54, arCell g ad (fun _ => 0) (1, 24))] H := hW
  have hrows : ∀ r, okr 5 r = true → ([(a, .inr (2, [.int (i32 (0)), .int (i32 (h)), .int (i32 (w)), .ref q11, .ref q20, .ref q29, .ref q38, .ref q46, .ref q54])), (q11, arCell g ad (fun _ => 0) (0, 4)), (q20, arCell g ad (fun _ => 0) (0, 240)), (q29, arCell g ad (fun _ => 0) (0, 240)), (q38, arCell g ad (fun _ => 0) (0, 240)), (q46, arCell g ad (fun _ => 0) (0, 24)), (q54, arCell g ad (fun _ => 0) (1, 24))] : va_W)[(fun r => if r = 0 then 0 else if r = 4 then 1 else if r = 5 then 2 else if r = 6 then 3 else if r = 7 then 4 else if r = 8 then 5 else if r = 9 then 6 else 0 : Nat → Nat) r]? = some ((fun r => if r = 0 then a else if r = 4 then q11 else if r = 5 then q20 else if r = 6 then q29 else if r = 7 then q38 else if r = 8 then q46 else if r = 9 then q54 else 0 : Nat → Nat) r, cellK g (adN ad o (fun r => if r = 0 then a else if r = 4 then q11 else if r = 5 then q20 else if r = 6 then q29 else if r = 7 then q38 else if r = 8 then q46 else if r = 9 then q54 else 0)) 5 o r (if r = 0 then (fun i => if i = -1 then 1 else if i = 1 then h else if i = 2 then w else 0) else fun _ => 0)) := by
    intro r hr9
    rcases ok5 hr9 with rfl | rfl | rfl | rfl | rfl | rfl | rfl
    · simp [cellK, clsK, fldsK, adN]
    all_goals rfl
  have hinv : ∀ r, okr 5 r = true → (fun i => if i = 0 then 0 else if i = 1 then 4 else if i = 2 then 5 else if i = 3 then 6 else if i = 4 then 7 else if i = 5 then 8 else if i = 6 then 9 else 0 : Nat → Nat) ((fun r => if r = 0 then 0 else if r = 4 then 1 else if r = 5 then 2 else if r = 6 then 3 else if r = 7 then 4 else if r = 8 then 5 else if r = 9 then 6 else 0 : Nat → Nat) r) = r := by
    intro r hr9
    rcases ok5 hr9 with rfl | rfl | rfl | rfl | rfl | rfl | rfl <;> rfl
  have hrg : ∀ i, rng ((fun i => if i = -1 then 1 else if i = 1 then h else if i = 2 then w else 0 : Int → Int) i) := by
    intro i
    dsimp only
    repeat' split
    all_goals first | assumption | exact ⟨by decide, by decide⟩
  subst hQm
  exact q_vret hx hb hr hlocks (pic_add (k := 5) (A := fun r => if r = 0 then a else if r = 4 then q11 else if r = 5 then q20 else if r = 6 then q29 else if r = 7 then q38 else if r = 8 then q46 else if r = 9 then q54 else 0) (ix := fun r => if r = 0 then 0 else if r = 4 then 1 else if r = 5 then 2 else if r = 6 then 3 else if r = 7 then 4 else if r = 8 then 5 else if r = 9 then 6 else 0) (ri := fun i => if i = 0 then 0 else if i = 1 then 4 else if i = 2 then 5 else if i = 3 then 6 else if i = 4 then 7 else if i = 5 then 8 else if i = 6 then 9 else 0) hW hkd (Or.inr rfl) hrg hcc hrows hinv) hS ⟨rfl, _, rfl, rfl, rfl⟩ (by decide) (Nat.le_of_ble_eq_true rfl) dX2_init_69
set_option maxHeartbeats 4000000 in
set_option maxRecDepth 100000 in
theorem c_X3_init (l : Launch) (g : GT) (base : Nat) (ad : Nat → Nat → Nat) (S : St)  (a : Nat)  (hdd : ∀ o, S o 0 (-1) ≠ 1) : Met l yX3_init [Cond.code yX3_init cX3_init 1 (none : Option FieldType)] ({ frames := 2, cells := 10, slots := 163, locals := 32 }) (va_Pc [.ref a] (PN g base ad S [(a, .inr (3, [.null, .int (i32 0), .null, .int (i32 0), .null, .null, .int (i32 0), .null]))])) (gQ g base (fun r9 ad9 S9 => r9 = none ∧ ∃ A2 A : Nat → Nat, A 0 = a ∧ ad9 = adN (adN ad 2 A2) 1 A ∧ S9 = nwS (nwS S 2 (fun i => if i = -1 then 1 else 0)) 1 (fun i => if i = -1 then 1 else 0))) 10 163 (fun q => base ≤ q) := by
  refine mk_init (own := RX3) (lv0 := [(0, .ref a)]) (by decide) rfl rfl (Nat.le_of_ble_eq_true rfl) rfl ?_
  intro p e s m below meth cz av Qm hx hb hr hml hown hlocks hin2 hK hZ hW hQm ls hl
  have hS : va_S (fun q => base ≤ q) s.heap s.heap [] := va_S.rf
  refine lv_aload_n hx hb dX3_init_0 rfl (lv_at hl 0 rfl) ?_
  refine w_oi hx hb (hml.trans hl.1.symm) hown hK t_31 dX3_init_1 ⟨by decide, by decide⟩ ?_
  refine lv_aload_n hx hb dX3_init_4 rfl (lv_at hl 0 rfl) ?_
  refine lv_bipush (v := i32 (12)) hx hb dX3_init_5 (by decide) ?_
  refine w_newI hx hb hK hW hS (n := i32 12) (N := 12) (by decide) (by decide) (by decide) (by decide) (Nat.le_of_ble_eq_true rfl) ac_I dX3_init_7 (fun q7 H hW hS => ?_)
  have hW : piw g base ad S [(a, .inr (3, [.null, .int (i32 0), .null, .int (i32 0), .null, .null, .int (i32 0), .null])), (q7, arCell g ad (fun _ => 0) (0, 12))] H := hW
  refine w_putF hx hb hown hK hW hS 0 rfl rfl (lay_X3 hK) tyX3 tyX3_ok nmX3 0 65 (by decide) t_65 rfl rfl hin2 rfl (ty := .array .int) (by decide +kernel) rfl rfl (Nat.le_of_ble_eq_true rfl) dX3_init_9 (fun H locs hW hS => ?_)
  have hW : piw g base ad S [(a, .inr (3, [.ref q7, .int (i32 0), .null, .int (i32 0), .null, .null, .int (i32 0), .null])), (q7, arCell g ad (fun _ => 0) (0, 12))] H := hW
  refine lv_aload_n hx hb dX3_init_12 rfl (lv_at hl 0 rfl) ?_
  refine lv_iconst (v := i32 (0)) hx hb dX3_init_13 rfl ?_
  refine w_put hx hb hown hK hW hS 0 rfl rfl (lay_X3 hK) tyX3 tyX3_ok nmX3 1 66 (by decide) t_66 rfl rfl (ty := .int) (by decide +kernel) rfl rfl (Nat.le_of_ble_eq_true rfl) dX3_init_14 (fun H locs hW hS => ?_)
  have hW : piw g base ad S [(a, .inr (3, [.ref q7, .int (i32 (0)), .null, .int (i32 0), .null, .null, .int (i32 0), .null])), (q7, arCell g ad (fun _ => 0) (0, 12))] H := hW
  refine lv_aload_n hx hb dX3_init_17 rfl (lv_at hl 0 rfl) ?_
  refine lv_iconst (v := i32 (5)) hx hb dX3_init_18 rfl ?_
  refine w_newC hx hb hown hK hW hS (n := i32 5) (N := 5) t_34 (by decide) (by decide) (by decide) (by decide) (Nat.le_of_ble_eq_true rfl) dX3_init_19 (fun q19 H hW hS => ?_)
  have hW : piw g base ad S [(a, .inr (3, [.ref q7, .int (i32 (0)), .null, .int (i32 0), .null, .null, .int (i32 0), .null])), (q7, arCell g ad (fun _ => 0) (0, 12)), (q19, arCell g ad (fun _ => 0) (3, 5))] H := hW
  refine w_putF hx hb hown hK hW hS 0 rfl rfl (lay_X3 hK) tyX3 tyX3_ok nmX3 2 67 (by decide) t_67 rfl rfl hin2 rfl (ty := .array (.object "WeftHouse$Cartoon")) (by decide +kernel) rfl rfl (Nat.le_of_ble_eq_true rfl) dX3_init_22 (fun H locs hW hS => ?_)
  have hW : piw g base ad S [(a, .inr (3, [.ref q7, .int (i32 (0)), .ref q19, .int (i32 0), .null, .null, .int (i32 0), .null])), (q7, arCell g ad (fun _ => 0) (0, 12)), (q19, arCell g ad (fun _ => 0) (3, 5))] H := hW
  refine lv_aload_n hx hb dX3_init_25 rfl (lv_at hl 0 rfl) ?_
  refine lv_iconst (v := i32 (0)) hx hb dX3_init_26 rfl ?_
  refine w_put hx hb hown hK hW hS 0 rfl rfl (lay_X3 hK) tyX3 tyX3_ok nmX3 3 68 (by decide) t_68 rfl rfl (ty := .int) (by decide +kernel) rfl rfl (Nat.le_of_ble_eq_true rfl) dX3_init_27 (fun H locs hW hS => ?_)
  have hW : piw g base ad S [(a, .inr (3, [.ref q7, .int (i32 (0)), .ref q19, .int (i32 (0)), .null, .null, .int (i32 0), .null])), (q7, arCell g ad (fun _ => 0) (0, 12)), (q19, arCell g ad (fun _ => 0) (3, 5))] H := hW
  refine lv_aload_n hx hb dX3_init_30 rfl (lv_at hl 0 rfl) ?_
  have hWo := hW
  refine w_newO (fs := [.int (i32 0), .null, .null, .null, .null, .null]) hx hb hown hK hW hS (ci := 1) rfl (lay_X1 hK) tyX1 tyX1_ok t_36 t_37 t_16 (fun j hj => by rcases (show j = 0 ∨ j = 1 ∨ j = 2 ∨ j = 3 ∨ j = 4 ∨ j = 5 by omega) with rfl | rfl | rfl | rfl | rfl | rfl <;> rfl) (by decide) (Nat.le_of_ble_eq_true rfl) dX3_init_31 (fun q31 H hqq31 hW hS => ?_)
  have hlwA : ∀ (k9 : Nat) (q9 : Nat × va_E), ([(a, .inr (3, [.ref q7, .int (i32 (0)), .ref q19, .int (i32 (0)), .null, .null, .int (i32 0), .null])), (q7, arCell g ad (fun _ => 0) (0, 12)), (q19, arCell g ad (fun _ => 0) (3, 5))] : va_W)[k9]? = some q9 → q9.1 < q31 := fun k9 q9 h9 => by rw [hqq31]; exact (hWo.2.1 k9 q9 h9).lt
  have hW : piw g base ad S [(a, .inr (3, [.ref q7, .int (i32 (0)), .ref q19, .int (i32 (0)), .null, .null, .int (i32 0), .null])), (q7, arCell g ad (fun _ => 0) (0, 12)), (q19, arCell g ad (fun _ => 0) (3, 5)), (q31, .inr (1, [.int (i32 0), .null, .null, .null, .null, .null]))] H := hW
  refine lv_dup hx hb dX3_init_34 rfl ?_
  have hlow : ∀ (k9 : Nat) (q9 : Nat × va_E), ([(a, .inr (3, [.ref q7, .int (i32 (0)), .ref q19, .int (i32 (0)), .null, .null, .int (i32 0), .null])), (q7, arCell g ad (fun _ => 0) (0, 12)), (q19, arCell g ad (fun _ => 0) (3, 5))] : va_W)[k9]? = some q9 → q9.1 < q31 := by
    intro k9 q9 h9
    have hlt := (List.getElem?_eq_some_iff.mp h9).1
    exact hlwA k9 q9 h9
  refine q_callI0 (As := []) (ws := [(a, .inr (3, [.ref q7, .int (i32 (0)), .ref q19, .int (i32 (0)), .null, .null, .int (i32 0), .null])), (q7, arCell g ad (fun _ => 0) (0, 12)), (q19, arCell g ad (fun _ => 0) (3, 5))]) (rest := [.ref q31, .ref a]) hx hb hml hl.1 hown hK hZ hdd hW hlow hS (c_X1_init l g q31 ad S 2 q31 rfl (fun h => absurd h (hdd 1))) rfl t_39 (q_callB hK 38 16 40 t_38 t_16 t_40 f_yX1_init ⟨by decide, by decide⟩) rfl rfl (Nat.le_of_ble_eq_true rfl) dX3_init_35 ⟨by decide, by decide⟩ (fun r9 ad2 S2 H locs h9 hW hS => ?_)
  obtain ⟨rfl, A2, hA2, rfl, rfl⟩ := h9
  rw [← hA2]
  have hW : piw g base (adN ad 2 A2) (nwS S 2 (fun i => if i = -1 then 1 else 0)) [(a, .inr (3, [.ref q7, .int (i32 (0)), .ref q19, .int (i32 (0)), .null, .null, .int (i32 0), .null])), (q7, arCell g ad (fun _ => 0) (0, 12)), (q19, arCell g ad (fun _ => 0) (3, 5))] H := hW
  refine w_putF hx hb hown hK hW hS 0 rfl rfl (lay_X3 hK) tyX3 tyX3_ok nmX3 4 69 (by decide) t_69 rfl rfl hin2 rfl (ty := .object "WeftHouse$Lots") (by decide +kernel) rfl rfl (Nat.le_of_ble_eq_true rfl) dX3_init_38 (fun H locs hW hS => ?_)
  have hW : piw g base (adN ad 2 A2) (nwS S 2 (fun i => if i = -1 then 1 else 0)) [(a, .inr (3, [.ref q7, .int (i32 (0)), .ref q19, .int (i32 (0)), .ref (A2 0), .null, .int (i32 0), .null])), (q7, arCell g ad (fun _ => 0) (0, 12)), (q19, arCell g ad (fun _ => 0) (3, 5))] H := hW
  refine lv_aload_n hx hb dX3_init_41 rfl (lv_at hl 0 rfl) ?_
  refine lv_bipush (v := i32 (20)) hx hb dX3_init_42 (by decide) ?_
  refine w_newP hx hb hown hK hW hS (n := i32 20) (N := 20) t_63 (by decide) (by decide) (by decide) (by decide) (Nat.le_of_ble_eq_true rfl) dX3_init_44 (fun q44 H hW hS => ?_)
  have hW : piw g base (adN ad 2 A2) (nwS S 2 (fun i => if i = -1 then 1 else 0)) [(a, .inr (3, [.ref q7, .int (i32 (0)), .ref q19, .int (i32 (0)), .ref (A2 0), .null, .int (i32 0), .null])), (q7, arCell g ad (fun _ => 0) (0, 12)), (q19, arCell g ad (fun _ => 0) (3, 5)), (q44, arCell g (adN ad 2 A2) (fun _ => 0) (4, 20))] H := hW
  refine w_putF hx hb hown hK hW hS 0 rfl rfl (lay_X3 hK) tyX3 tyX3_ok nmX3 5 70 (by decide) t_70 rfl rfl hin2 rfl (ty := .array (.object "WeftHouse$Piece")) (by decide +kernel) rfl rfl (Nat.le_of_ble_eq_true rfl) dX3_init_47 (fun H locs hW hS => ?_)
  have hW : piw g base (adN ad 2 A2) (nwS S 2 (fun i => if i = -1 then 1 else 0)) [(a, .inr (3, [.ref q7, .int (i32 (0)), .ref q19, .int (i32 (0)), .ref (A2 0), .ref q44, .int (i32 0), .null])), (q7, arCell g ad (fun _ => 0) (0, 12)), (q19, arCell g ad (fun _ => 0) (3, 5)), (q44, arCell g (adN ad 2 A2) (fun _ => 0) (4, 20))] H := hW
  refine lv_aload_n hx hb dX3_init_50 rfl (lv_at hl 0 rfl) ?_
  refine lv_iconst (v := i32 (0)) hx hb dX3_init_51 rfl ?_
  refine w_put hx hb hown hK hW hS 0 rfl rfl (lay_X3 hK) tyX3 tyX3_ok nmX3 6 71 (by decide) t_71 rfl rfl (ty := .int) (by decide +kernel) rfl rfl (Nat.le_of_ble_eq_true rfl) dX3_init_52 (fun H locs hW hS => ?_)
  have hW : piw g base (adN ad 2 A2) (nwS S 2 (fun i => if i = -1 then 1 else 0)) [(a, .inr (3, [.ref q7, .int (i32 (0)), .ref q19, .int (i32 (0)), .ref (A2 0), .ref q44, .int (i32 (0)), .null])), (q7, arCell g ad (fun _ => 0) (0, 12)), (q19, arCell g ad (fun _ => 0) (3, 5)), (q44, arCell g (adN ad 2 A2) (fun _ => 0) (4, 20))] H := hW
  refine lv_aload_n hx hb dX3_init_55 rfl (lv_at hl 0 rfl) ?_
  refine lv_bipush (v := i32 (20)) hx hb dX3_init_56 (by decide) ?_
  refine w_newI hx hb hK hW hS (n := i32 20) (N := 20) (by decide) (by decide) (by decide) (by decide) (Nat.le_of_ble_eq_true rfl) ac_I dX3_init_58 (fun q58 H hW hS => ?_)
  have hW : piw g base (adN ad 2 A2) (nwS S 2 (fun i => if i = -1 then 1 else 0)) [(a, .inr (3, [.ref q7, .int (i32 (0)), .ref q19, .int (i32 (0)), .ref (A2 0), .ref q44, .int (i32 (0)), .null])), (q7, arCell g ad (fun _ => 0) (0, 12)), (q19, arCell g ad (fun _ => 0) (3, 5)), (q44, arCell g (adN ad 2 A2) (fun _ => 0) (4, 20)), (q58, arCell g (adN ad 2 A2) (fun _ => 0) (0, 20))] H := hW
  refine w_putF hx hb hown hK hW hS 0 rfl rfl (lay_X3 hK) tyX3 tyX3_ok nmX3 7 72 (by decide) t_72 rfl rfl hin2 rfl (ty := .array .int) (by decide +kernel) rfl rfl (Nat.le_of_ble_eq_true rfl) dX3_init_60 (fun H locs hW hS => ?_)
  have hW : piw g base (adN ad 2 A2) (nwS S 2 (fun i => if i = -1 then 1 else 0)) [(a, .inr (3, [.ref q7, .int (i32 (0)), .ref q19, .int (i32 (0)), .ref (A2 0), .ref q44, .int (i32 (0)), .ref q58])), (q7, arCell g ad (fun _ => 0) (0, 12)), (q19, arCell g ad (fun _ => 0) (3, 5)), (q44, arCell g (adN ad 2 A2) (fun _ => 0) (4, 20)), (q58, arCell g (adN ad 2 A2) (fun _ => 0) (0, 20))] H := hW
  have hrows : ∀ r, okr 1 r = true → ([(a, .inr (3, [.ref q7, .int (i32 (0)), .ref q19, .int (i32 (0)), .ref (A2 0), .ref q44, .int (i32 (0)), .ref q58])), (q7, arCell g ad (fun _ => 0) (0, 12)), (q19, arCell g ad (fun _ => 0) (3, 5)), (q44, arCell g (adN ad 2 A2) (fun _ => 0) (4, 20)), (q58, arCell g (adN ad 2 A2) (fun _ => 0) (0, 20))] : va_W)[(fun r => if r = 0 then 0 else if r = 1 then 1 else if r = 3 then 2 else if r = 6 then 3 else if r = 8 then 4 else 0 : Nat → Nat) r]? = some ((fun r => if r = 0 then a else if r = 1 then q7 else if r = 3 then q19 else if r = 6 then q44 else if r = 8 then q58 else 0 : Nat → Nat) r, cellK g (adN (adN ad 2 A2) 1 (fun r => if r = 0 then a else if r = 1 then q7 else if r = 3 then q19 else if r = 6 then q44 else if r = 8 then q58 else 0)) 1 1 r (if r = 0 then (fun i => if i = -1 then 1 else 0) else fun _ => 0)) := by
    intro r hr9
    rcases ok1 hr9 with rfl | rfl | rfl | rfl | rfl <;> rfl
  have hinv : ∀ r, okr 1 r = true → (fun i => if i = 0 then 0 else if i = 1 then 1 else if i = 2 then 3 else if i = 3 then 6 else if i = 4 then 8 else 0 : Nat → Nat) ((fun r => if r = 0 then 0 else if r = 1 then 1 else if r = 3 then 2 else if r = 6 then 3 else if r = 8 then 4 else 0 : Nat → Nat) r) = r := by
    intro r hr9
    rcases ok1 hr9 with rfl | rfl | rfl | rfl | rfl <;> rfl
  have hrg : ∀ i, rng ((fun i => if i = -1 then 1 else 0 : Int → Int) i) := by
    intro i
    dsimp only
    repeat' split
    all_goals first | assumption | exact ⟨by decide, by decide⟩
  subst hQm
  exact q_vret hx hb hr hlocks (pic_add (k := 1) (A := fun r => if r = 0 then a else if r = 1 then q7 else if r = 3 then q19 else if r = 6 then q44 else if r = 8 then q58 else 0) (ix := fun r => if r = 0 then 0 else if r = 1 then 1 else if r = 3 then 2 else if r = 6 then 3 else if r = 8 then 4 else 0) (ri := fun i => if i = 0 then 0 else if i = 1 then 1 else if i = 2 then 3 else if i = 3 then 6 else if i = 4 then 8 else 0) hW rfl (Or.inr rfl) hrg (fun h => absurd ((nwS_n (by decide)).symm.trans h) (hdd 1)) hrows hinv) hS ⟨rfl, A2, _, rfl, rfl, rfl⟩ (by decide) (Nat.le_of_ble_eq_true rfl) dX3_init_63
