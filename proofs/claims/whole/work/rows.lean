section
-- ===== PART A: goes FIRST, ahead of the names: the tables' words, and 'selects' of the private methods out of them =====
/-- a private method of a class that the tables say can be made, by its rows of tables_1 -/
def lw_okq (q : MethodName × Nat) : Prop := (q.1.cls ≠ "java/lang/invoke/MethodHandle" ∧ q.1.cls ≠ "java/lang/invoke/VarHandle") ∧ Cond.instantiable q.1.cls q.2 ∈ tables_1 ∧ Cond.privateMethod q.1 ∈ tables_1 ∧ Cond.instanceMethod q.1 ∈ tables_1
theorem lw_p0 : lw_okq (⟨"java/lang/Throwable", "fillInStackTrace", "(I)Ljava/lang/Throwable;"⟩, 6) := ⟨⟨by decide +kernel, by decide +kernel⟩, List.mem_of_getElem? (i := 170) (by decide +kernel), List.mem_of_getElem? (i := 168) (by decide +kernel), List.mem_of_getElem? (i := 169) (by decide +kernel)⟩
theorem lw_p1 : lw_okq (⟨"WeftHouse", "cartoonNumbered", "(I)LWeftHouse$Cartoon;"⟩, 8) := ⟨⟨by decide +kernel, by decide +kernel⟩, List.mem_of_getElem? (i := 14) (by decide +kernel), List.mem_of_getElem? (i := 255) (by decide +kernel), List.mem_of_getElem? (i := 256) (by decide +kernel)⟩
theorem lw_p2 : lw_okq (⟨"WeftHouse", "requireRoomForPiece", "()V"⟩, 8) := ⟨⟨by decide +kernel, by decide +kernel⟩, List.mem_of_getElem? (i := 14) (by decide +kernel), List.mem_of_getElem? (i := 346) (by decide +kernel), List.mem_of_getElem? (i := 347) (by decide +kernel)⟩
theorem lw_p3 : lw_okq (⟨"WeftHouse", "keepPiece", "(LWeftHouse$Piece;)I"⟩, 8) := ⟨⟨by decide +kernel, by decide +kernel⟩, List.mem_of_getElem? (i := 14) (by decide +kernel), List.mem_of_getElem? (i := 396) (by decide +kernel), List.mem_of_getElem? (i := 397) (by decide +kernel)⟩
theorem lw_p4 : lw_okq (⟨"WeftHouse", "pieceNumbered", "(I)LWeftHouse$Piece;"⟩, 8) := ⟨⟨by decide +kernel, by decide +kernel⟩, List.mem_of_getElem? (i := 14) (by decide +kernel), List.mem_of_getElem? (i := 407) (by decide +kernel), List.mem_of_getElem? (i := 408) (by decide +kernel)⟩
theorem lw_p5 : lw_okq (⟨"WeftHouse$Piece", "countInNextRow", "(II)I"⟩, 9) := ⟨⟨by decide +kernel, by decide +kernel⟩, List.mem_of_getElem? (i := 350) (by decide +kernel), List.mem_of_getElem? (i := 431) (by decide +kernel), List.mem_of_getElem? (i := 432) (by decide +kernel)⟩
theorem lw_p6 : lw_okq (⟨"WeftHouse$Piece", "firstColumnOf", "(I)I"⟩, 9) := ⟨⟨by decide +kernel, by decide +kernel⟩, List.mem_of_getElem? (i := 350) (by decide +kernel), List.mem_of_getElem? (i := 435) (by decide +kernel), List.mem_of_getElem? (i := 436) (by decide +kernel)⟩
theorem lw_p7 : lw_okq (⟨"WeftHouse$Piece", "isSewnAhead", "(I)Z"⟩, 9) := ⟨⟨by decide +kernel, by decide +kernel⟩, List.mem_of_getElem? (i := 350) (by decide +kernel), List.mem_of_getElem? (i := 485) (by decide +kernel), List.mem_of_getElem? (i := 486) (by decide +kernel)⟩
theorem lw_p8 : lw_okq (⟨"WeftHouse$Piece", "longestUnlikeAhead", "(I)I"⟩, 9) := ⟨⟨by decide +kernel, by decide +kernel⟩, List.mem_of_getElem? (i := 350) (by decide +kernel), List.mem_of_getElem? (i := 489) (by decide +kernel), List.mem_of_getElem? (i := 490) (by decide +kernel)⟩
theorem lw_p9 : lw_okq (⟨"WeftHouse$Piece", "setSewnAhead", "(IZ)V"⟩, 9) := ⟨⟨by decide +kernel, by decide +kernel⟩, List.mem_of_getElem? (i := 350) (by decide +kernel), List.mem_of_getElem? (i := 541) (by decide +kernel), List.mem_of_getElem? (i := 542) (by decide +kernel)⟩
theorem lw_p10 : lw_okq (⟨"WeftHouse$Piece", "dim", "(III)V"⟩, 9) := ⟨⟨by decide +kernel, by decide +kernel⟩, List.mem_of_getElem? (i := 350) (by decide +kernel), List.mem_of_getElem? (i := 561) (by decide +kernel), List.mem_of_getElem? (i := 562) (by decide +kernel)⟩
theorem lw_p11 : lw_okq (⟨"WeftHouse$Piece", "stain", "(III)V"⟩, 9) := ⟨⟨by decide +kernel, by decide +kernel⟩, List.mem_of_getElem? (i := 350) (by decide +kernel), List.mem_of_getElem? (i := 580) (by decide +kernel), List.mem_of_getElem? (i := 581) (by decide +kernel)⟩
theorem lw_p12 : lw_okq (⟨"WeftHouse$Piece", "copyColumn", "(LWeftHouse$Piece;II)V"⟩, 9) := ⟨⟨by decide +kernel, by decide +kernel⟩, List.mem_of_getElem? (i := 350) (by decide +kernel), List.mem_of_getElem? (i := 596) (by decide +kernel), List.mem_of_getElem? (i := 597) (by decide +kernel)⟩
theorem lw_p13 : lw_okq (⟨"WeftHouse", "dropPiece", "(I)V"⟩, 8) := ⟨⟨by decide +kernel, by decide +kernel⟩, List.mem_of_getElem? (i := 14) (by decide +kernel), List.mem_of_getElem? (i := 628) (by decide +kernel), List.mem_of_getElem? (i := 629) (by decide +kernel)⟩
theorem lw_p14 : lw_okq (⟨"WeftHouseModel", "goes", "(ZZZ)Z"⟩, 28) := ⟨⟨by decide +kernel, by decide +kernel⟩, List.mem_of_getElem? (i := 660) (by decide +kernel), List.mem_of_getElem? (i := 762) (by decide +kernel), List.mem_of_getElem? (i := 763) (by decide +kernel)⟩
theorem lw_p15 : lw_okq (⟨"WeftHouseModel", "isCartoon", "(I)Z"⟩, 28) := ⟨⟨by decide +kernel, by decide +kernel⟩, List.mem_of_getElem? (i := 660) (by decide +kernel), List.mem_of_getElem? (i := 781) (by decide +kernel), List.mem_of_getElem? (i := 782) (by decide +kernel)⟩
def lw_privs_1 : List (MethodName × Nat) := [(⟨"java/lang/Throwable", "fillInStackTrace", "(I)Ljava/lang/Throwable;"⟩, 6), (⟨"WeftHouse", "cartoonNumbered", "(I)LWeftHouse$Cartoon;"⟩, 8), (⟨"WeftHouse", "requireRoomForPiece", "()V"⟩, 8), (⟨"WeftHouse", "keepPiece", "(LWeftHouse$Piece;)I"⟩, 8), (⟨"WeftHouse", "pieceNumbered", "(I)LWeftHouse$Piece;"⟩, 8), (⟨"WeftHouse$Piece", "countInNextRow", "(II)I"⟩, 9), (⟨"WeftHouse$Piece", "firstColumnOf", "(I)I"⟩, 9), (⟨"WeftHouse$Piece", "isSewnAhead", "(I)Z"⟩, 9), (⟨"WeftHouse$Piece", "longestUnlikeAhead", "(I)I"⟩, 9), (⟨"WeftHouse$Piece", "setSewnAhead", "(IZ)V"⟩, 9), (⟨"WeftHouse$Piece", "dim", "(III)V"⟩, 9), (⟨"WeftHouse$Piece", "stain", "(III)V"⟩, 9), (⟨"WeftHouse$Piece", "copyColumn", "(LWeftHouse$Piece;II)V"⟩, 9), (⟨"WeftHouse", "dropPiece", "(I)V"⟩, 8), (⟨"WeftHouseModel", "goes", "(ZZZ)Z"⟩, 28), (⟨"WeftHouseModel", "isCartoon", "(I)Z"⟩, 28)]
theorem lw_r1 : ∀ q ∈ lw_privs_1, lw_okq q := List.forall_mem_cons.mpr ⟨lw_p0, List.forall_mem_cons.mpr ⟨lw_p1, List.forall_mem_cons.mpr ⟨lw_p2, List.forall_mem_cons.mpr ⟨lw_p3, List.forall_mem_cons.mpr ⟨lw_p4, List.forall_mem_cons.mpr ⟨lw_p5, List.forall_mem_cons.mpr ⟨lw_p6, List.forall_mem_cons.mpr ⟨lw_p7, List.forall_mem_cons.mpr ⟨lw_p8, List.forall_mem_cons.mpr ⟨lw_p9, List.forall_mem_cons.mpr ⟨lw_p10, List.forall_mem_cons.mpr ⟨lw_p11, List.forall_mem_cons.mpr ⟨lw_p12, List.forall_mem_cons.mpr ⟨lw_p13, List.forall_mem_cons.mpr ⟨lw_p14, List.forall_mem_cons.mpr ⟨lw_p15, fun _ h => absurd h List.not_mem_nil⟩⟩⟩⟩⟩⟩⟩⟩⟩⟩⟩⟩⟩⟩⟩⟩
theorem lw_p16 : lw_okq (⟨"WeftHouseModel", "wovenOf", "(I)I"⟩, 28) := ⟨⟨by decide +kernel, by decide +kernel⟩, List.mem_of_getElem? (i := 660) (by decide +kernel), List.mem_of_getElem? (i := 804) (by decide +kernel), List.mem_of_getElem? (i := 805) (by decide +kernel)⟩
theorem lw_p17 : lw_okq (⟨"WeftHouseModel", "setsColumn", "(IIII)V"⟩, 28) := ⟨⟨by decide +kernel, by decide +kernel⟩, List.mem_of_getElem? (i := 660) (by decide +kernel), List.mem_of_getElem? (i := 815) (by decide +kernel), List.mem_of_getElem? (i := 816) (by decide +kernel)⟩
theorem lw_p18 : lw_okq (⟨"WeftHouseModel", "drawnAt", "(III)I"⟩, 28) := ⟨⟨by decide +kernel, by decide +kernel⟩, List.mem_of_getElem? (i := 660) (by decide +kernel), List.mem_of_getElem? (i := 819) (by decide +kernel), List.mem_of_getElem? (i := 820) (by decide +kernel)⟩
theorem lw_p19 : lw_okq (⟨"WeftHouseModel", "isPiece", "(I)Z"⟩, 28) := ⟨⟨by decide +kernel, by decide +kernel⟩, List.mem_of_getElem? (i := 660) (by decide +kernel), List.mem_of_getElem? (i := 827) (by decide +kernel), List.mem_of_getElem? (i := 828) (by decide +kernel)⟩
theorem lw_p20 : lw_okq (⟨"WeftHouseModel", "mayWeave", "(II)Z"⟩, 28) := ⟨⟨by decide +kernel, by decide +kernel⟩, List.mem_of_getElem? (i := 660) (by decide +kernel), List.mem_of_getElem? (i := 831) (by decide +kernel), List.mem_of_getElem? (i := 832) (by decide +kernel)⟩
theorem lw_p21 : lw_okq (⟨"WeftHouseModel", "weaves", "(IIII)Z"⟩, 28) := ⟨⟨by decide +kernel, by decide +kernel⟩, List.mem_of_getElem? (i := 660) (by decide +kernel), List.mem_of_getElem? (i := 835) (by decide +kernel), List.mem_of_getElem? (i := 836) (by decide +kernel)⟩
theorem lw_p22 : lw_okq (⟨"WeftHouseModel", "giver", "(I)I"⟩, 28) := ⟨⟨by decide +kernel, by decide +kernel⟩, List.mem_of_getElem? (i := 660) (by decide +kernel), List.mem_of_getElem? (i := 839) (by decide +kernel), List.mem_of_getElem? (i := 840) (by decide +kernel)⟩
theorem lw_p23 : lw_okq (⟨"WeftHouseModel", "wovenIn", "(I)I"⟩, 28) := ⟨⟨by decide +kernel, by decide +kernel⟩, List.mem_of_getElem? (i := 660) (by decide +kernel), List.mem_of_getElem? (i := 847) (by decide +kernel), List.mem_of_getElem? (i := 848) (by decide +kernel)⟩
theorem lw_p24 : lw_okq (⟨"WeftHouseModel", "isDone", "(I)Z"⟩, 28) := ⟨⟨by decide +kernel, by decide +kernel⟩, List.mem_of_getElem? (i := 660) (by decide +kernel), List.mem_of_getElem? (i := 851) (by decide +kernel), List.mem_of_getElem? (i := 852) (by decide +kernel)⟩
theorem lw_p25 : lw_okq (⟨"WeftHouseModel", "slits", "(I)I"⟩, 28) := ⟨⟨by decide +kernel, by decide +kernel⟩, List.mem_of_getElem? (i := 660) (by decide +kernel), List.mem_of_getElem? (i := 855) (by decide +kernel), List.mem_of_getElem? (i := 856) (by decide +kernel)⟩
theorem lw_p26 : lw_okq (⟨"WeftHouseModel", "isSlit", "(II)Z"⟩, 28) := ⟨⟨by decide +kernel, by decide +kernel⟩, List.mem_of_getElem? (i := 660) (by decide +kernel), List.mem_of_getElem? (i := 859) (by decide +kernel), List.mem_of_getElem? (i := 860) (by decide +kernel)⟩
theorem lw_p27 : lw_okq (⟨"WeftHouseModel", "isUnlike", "(III)Z"⟩, 28) := ⟨⟨by decide +kernel, by decide +kernel⟩, List.mem_of_getElem? (i := 660) (by decide +kernel), List.mem_of_getElem? (i := 863) (by decide +kernel), List.mem_of_getElem? (i := 864) (by decide +kernel)⟩
theorem lw_p28 : lw_okq (⟨"WeftHouseModel", "shades", "(I)I"⟩, 28) := ⟨⟨by decide +kernel, by decide +kernel⟩, List.mem_of_getElem? (i := 660) (by decide +kernel), List.mem_of_getElem? (i := 867) (by decide +kernel), List.mem_of_getElem? (i := 868) (by decide +kernel)⟩
theorem lw_p29 : lw_okq (⟨"WeftHouseModel", "isInner", "(II)Z"⟩, 28) := ⟨⟨by decide +kernel, by decide +kernel⟩, List.mem_of_getElem? (i := 660) (by decide +kernel), List.mem_of_getElem? (i := 879) (by decide +kernel), List.mem_of_getElem? (i := 880) (by decide +kernel)⟩
theorem lw_p30 : lw_okq (⟨"WeftHouseModel", "runs", "(IIII)I"⟩, 28) := ⟨⟨by decide +kernel, by decide +kernel⟩, List.mem_of_getElem? (i := 660) (by decide +kernel), List.mem_of_getElem? (i := 891) (by decide +kernel), List.mem_of_getElem? (i := 892) (by decide +kernel)⟩
theorem lw_p31 : lw_okq (⟨"WeftHouseModel", "copies", "(IIII)V"⟩, 28) := ⟨⟨by decide +kernel, by decide +kernel⟩, List.mem_of_getElem? (i := 660) (by decide +kernel), List.mem_of_getElem? (i := 899) (by decide +kernel), List.mem_of_getElem? (i := 900) (by decide +kernel)⟩
def lw_privs_2 : List (MethodName × Nat) := [(⟨"WeftHouseModel", "wovenOf", "(I)I"⟩, 28), (⟨"WeftHouseModel", "setsColumn", "(IIII)V"⟩, 28), (⟨"WeftHouseModel", "drawnAt", "(III)I"⟩, 28), (⟨"WeftHouseModel", "isPiece", "(I)Z"⟩, 28), (⟨"WeftHouseModel", "mayWeave", "(II)Z"⟩, 28), (⟨"WeftHouseModel", "weaves", "(IIII)Z"⟩, 28), (⟨"WeftHouseModel", "giver", "(I)I"⟩, 28), (⟨"WeftHouseModel", "wovenIn", "(I)I"⟩, 28), (⟨"WeftHouseModel", "isDone", "(I)Z"⟩, 28), (⟨"WeftHouseModel", "slits", "(I)I"⟩, 28), (⟨"WeftHouseModel", "isSlit", "(II)Z"⟩, 28), (⟨"WeftHouseModel", "isUnlike", "(III)Z"⟩, 28), (⟨"WeftHouseModel", "shades", "(I)I"⟩, 28), (⟨"WeftHouseModel", "isInner", "(II)Z"⟩, 28), (⟨"WeftHouseModel", "runs", "(IIII)I"⟩, 28), (⟨"WeftHouseModel", "copies", "(IIII)V"⟩, 28)]
theorem lw_r2 : ∀ q ∈ lw_privs_2, lw_okq q := List.forall_mem_cons.mpr ⟨lw_p16, List.forall_mem_cons.mpr ⟨lw_p17, List.forall_mem_cons.mpr ⟨lw_p18, List.forall_mem_cons.mpr ⟨lw_p19, List.forall_mem_cons.mpr ⟨lw_p20, List.forall_mem_cons.mpr ⟨lw_p21, List.forall_mem_cons.mpr ⟨lw_p22, List.forall_mem_cons.mpr ⟨lw_p23, List.forall_mem_cons.mpr ⟨lw_p24, List.forall_mem_cons.mpr ⟨lw_p25, List.forall_mem_cons.mpr ⟨lw_p26, List.forall_mem_cons.mpr ⟨lw_p27, List.forall_mem_cons.mpr ⟨lw_p28, List.forall_mem_cons.mpr ⟨lw_p29, List.forall_mem_cons.mpr ⟨lw_p30, List.forall_mem_cons.mpr ⟨lw_p31, fun _ h => absurd h List.not_mem_nil⟩⟩⟩⟩⟩⟩⟩⟩⟩⟩⟩⟩⟩⟩⟩⟩
theorem lw_p32 : lw_okq (⟨"WeftHouseModel", "isRight", "(II)Z"⟩, 28) := ⟨⟨by decide +kernel, by decide +kernel⟩, List.mem_of_getElem? (i := 660) (by decide +kernel), List.mem_of_getElem? (i := 911) (by decide +kernel), List.mem_of_getElem? (i := 912) (by decide +kernel)⟩
def lw_privs_3 : List (MethodName × Nat) := [(⟨"WeftHouseModel", "isRight", "(II)Z"⟩, 28)]
theorem lw_r3 : ∀ q ∈ lw_privs_3, lw_okq q := List.forall_mem_cons.mpr ⟨lw_p32, fun _ h => absurd h List.not_mem_nil⟩
def lw_privs : List (MethodName × Nat) := lw_privs_1 ++ (lw_privs_2 ++ (lw_privs_3))
def lw_tbl : List Cond := k2_sels lw_privs ++ tables_1
theorem lw_privs_ok : ∀ q ∈ lw_privs, lw_okq q := by
  show ∀ q ∈ lw_privs_1 ++ (lw_privs_2 ++ (lw_privs_3)), lw_okq q
  exact List.forall_mem_append.mpr ⟨lw_r1, List.forall_mem_append.mpr ⟨lw_r2, lw_r3⟩⟩
-- ===== end of PART A; then your names; then what follows =====
end
section
/-! ===== BEGIN words of one list among another's, by their places ===== -/
theorem goodIn_r {big : List Cond} (ws : List Cond) (ps : List Nat) (hp : ws = ps.filterMap (fun i => big[i]?)) (h : ws.all goodWord = true) : GoodIn big ws := by
  intro w hw
  have h1 := List.all_eq_true.mp h w hw
  rw [hp] at hw
  obtain ⟨i, -, hi⟩ := List.mem_filterMap.mp hw
  have hm : w ∈ big := by first | exact List.mem_of_getElem? hi | exact List.getElem?_mem hi
  exact ⟨hm, good_of_word h1⟩
theorem goodIn_app {big a b : List Cond} (ha : GoodIn big a) (hb : GoodIn big b) : GoodIn big (a ++ b) := fun w h => (List.mem_append.mp h).elim (ha w) (hb w)
theorem goodIn_ca {big a b : List Cond} {c : Cond} (ha : GoodIn big (c :: a)) (hb : GoodIn big b) : GoodIn big (c :: (a ++ b)) := fun w h => (List.mem_cons.mp h).elim (fun e => ha w (List.mem_cons.mpr (Or.inl e))) (fun h => (List.mem_append.mp h).elim (fun h => ha w (List.mem_cons.mpr (Or.inr h))) (hb w))
theorem goodIn_sub {big ws : List Cond} (hm : ∀ w ∈ ws, w ∈ big) (h : ws.all goodWord = true) : GoodIn big ws := fun w hw => ⟨hm w hw, good_of_word (List.all_eq_true.mp h w hw)⟩
/-! ===== END ===== -/

/-! ===== BEGIN exceptions that leave a method, and their catching by the caller (launches without stack traces) ===== -/
section VXA
/-! The laws vx_back, vx_callV, vx_callS, vx_callSW, vx_throw0, vx_throwS follow proofs of the library, with one case more: JvmDerived/Free/Laws.lean (Back.of_free), Shelf42/LK1.lean (callV, callS), Shelf/KitTraced.lean (throwNew0V, throwNewS). -/
/-- where a method has thrown q: the class by its name, the cell, what was written, the world -/
def vx_T (XC : String → State → State → Prop) (st : State) (q : Addr) (t : State) (mc ms : Nat) (free : Addr → Prop) : Prop :=
  ∃ (E : String) (ce : Cell) (L : List Loc), XC E st t ∧ t.heap[q]? = some ce ∧ ce.vm = .none ∧ st.vm.findClass E = some ce.cls ∧ st.WarmedH t.vm ∧ st.sameButNew ({ t with vm := st.vm } : State) L mc ms ∧ ∀ z ∈ L, free z.base
def vx_Q (Qc : Array Value → State → Outcome → State → Prop) (XC : String → State → State → Prop) (mc ms : Nat) (free : Addr → Prop) : Array Value → State → Outcome → State → Prop := fun a st o t =>
  (Qc a st o t ∧ ∃ L, FrameEnd st o t L mc ms ∧ ∀ q ∈ L, free q.base) ∨ ∃ q, o = .threw q ∧ vx_T XC st q t mc ms free
/-- a callee that returns or throws -/
def vx_Met (l : Launch) (y : MethodName) (ws : List Cond) (rm : Room) (Pc : Array Value → State → Prop) (Qc : Array Value → State → Outcome → State → Prop) (XC : String → State → State → Prop) (mc ms : Nat) (free : Addr → Prop) : Prop :=
  MetFree l y (headSpec ws rm) Pc (fun _ _ _ _ _ => True) (vx_Q Qc XC mc ms free)
def vx_Post (XC : String → State → State → Prop) (mc ms : Nat) (free : Addr → Prop) : Pt → Array Value → Addr → Pt → Prop := fun A a q B =>
  ∃ (g : JFrame) (mk : MethodId) (t : State) (L : List Loc) (E : String) (ce : Cell), B.U.heap = t.heap ∧ B.U.vm = t.vm ∧ XC E (A.U.calling g mk a) t ∧ t.heap[q]? = some ce ∧ ce.vm = .none ∧ A.U.vm.findClass E = some ce.cls ∧ B.locs = A.locs ++ L ∧ (∀ z ∈ L, free z.base) ∧ B.cells = A.cells + mc ∧ B.slots = A.slots + ms
def vx_Back (l : Launch) (R : Room) (p : Program) (e : Env) (below : List Frame) (s : State) (sargs : Array Value) (y : MethodName) (len W9 : Nat)
    (Pre : Pt → Array Value → Prop) (Post : Pt → Array Value → Option Value → Pt → Prop) (PostX : Pt → Array Value → Addr → Pt → Prop) : Prop :=
  ∀ (m : MethodId) (meth : Method) (c : Code) (A : Pt) (g : JFrame) (ig : Instr) (mk : MethodId) (a : Array Value),
    Stand p l e R s m sargs below meth c A.U A.locs A.cells A.slots → g.method = m → g.locals.size = c.maxLocals → decode c.code g.pc = .ok (ig, len) →
    2 * g.monitorRoom + (g.stack.map fun v => v.category).sum ≤ W9 → A.U.methodNamed? y = some mk → Pre A a →
    (∃ (v : Option Value) (B : Pt), Stand p l e R s m sargs below meth c B.U B.locs B.cells B.slots ∧ Post A a v B ∧
      Steps p.tables e below (doInvoke e (A.U.setTop g) [] mk a).1 (B.U.setTop { g with pc := g.pc + len, stack := v.toList ++ g.stack })) ∨
    (∃ (q : Addr) (B : Pt), Stand p l e R s m sargs below meth c B.U B.locs B.cells B.slots ∧ PostX A a q B ∧
      Steps p.tables e below (doInvoke e (A.U.setTop g) [] mk a).1 ((B.U.setTop g).pushFrame (.throwing q)))
section Payer
variable {l : Launch} {R : Room} {p : Program} {e : Env} {below : List Frame} {s : State} {sargs : Array Value} {y : MethodName} {len W9 : Nat}
theorem vx_back {ws : List Cond} {rm : Room} {Pc : Array Value → State → Prop} {Qc : Array Value → State → Outcome → State → Prop} {XC : String → State → State → Prop} {mc ms : Nat} {free : Addr → Prop} {bytes : ByteArray} {maxL : Nat} {ret : Option FieldType}
    (hM : vx_Met l y ws rm Pc Qc XC mc ms free) (hblind : FrameBlind Pc) (hrc : rm.cells = mc) (hrs : rm.slots = ms)
    (hframes : rm.frames + 1 ≤ R.frames) (hlocals : W9 + (maxL + 11) + rm.locals ≤ R.locals)
    (hws : ∀ w ∈ ws, ∀ a' U, s.WarmedH U.vm → w.before a' U = true) (hcode : Cond.code y bytes maxL ret ∈ ws) (hinit : ∀ a' U, s.WarmedH U.vm → (Cond.initialized y.cls).before a' U = true) :
    vx_Back l R p e below s sargs y len W9 (PreOf R mc ms Pc) (PostOf Qc mc ms free) (vx_Post XC mc ms free) := by
  intro m meth c A g ig mk a X hg hsize hdg hW hn hp
  have h1 : (headSpec ws rm).pre.before a A.U = true := atoms_intro fun w hw => hws w hw _ _ X.warmed
  have h2 : (Cond.code y bytes maxL ret).before a A.U = true := hws _ hcode _ _ X.warmed
  have h3 : (Cond.initialized y.cls).before a A.U = true := hinit _ _ X.warmed
  have h4 : A.cells + (headSpec ws rm).room.cells ≤ R.cells := by rw [show (headSpec ws rm).room.cells = mc from hrc]; exact hp.1
  have h5 : A.slots + (headSpec ws rm).room.slots ≤ R.slots := by rw [show (headSpec ws rm).room.slots = ms from hrs]; exact hp.2.1
  have hPc : Pc a (A.U.calling g mk a) := hblind _ _ _ _ hp.2.2
  obtain ⟨U, Ls, c0, s0⟩ := A
  dsimp only [Pt.U, Pt.locs, Pt.cells, Pt.slots] at h1 h2 h3 h4 h5 X hn hPc ⊢
  obtain ⟨methY, cY, hmY, hcY, -, hlY, -, -, -, -⟩ := Cond.code_spec hn h2
  obtain ⟨kY, hkY, -⟩ := className_of_methodNamed hn
  have hinitY : kY.init = .initialized := Cond.initialized_spec (findClass_of_methodNamed hn) hkY h3
  have h : At U g.method c below := by rw [hg]; exact X.here
  have hlocals9 : W9 + (maxL + 11) + (headSpec ws rm).room.locals ≤ R.locals := hlocals
  have happ : (headSpec ws rm).appliesLoose y e.platform (U.calling g mk a) = true :=
    Spec.appliesLoose_calling (g := g) h hdg hn hkY hinitY
      (X.room_calling (g := g) (R' := (headSpec ws rm).room) hsize hmY hcY hframes (by rw [hlY]; omega) h4 h5) h1
  obtain ⟨mid, hmid⟩ := h.above
  have hfr : (U.setTop g).frames = (.java g :: mid) ++ below := by rw [State.frames_setTop' g h.top, hmid]; rfl
  obtain ⟨o, s₂, hsteps, -, hend, hq⟩ := Steps.callFree hM p X.admits X.cas X.clock (acts := []) hfr happ hPc trivial
  have hq' : vx_Q Qc XC mc ms free a (U.calling g mk a) o s₂ := hq
  rw [State.frames_setTop' g h.top] at hend
  obtain ⟨g₀, hg0⟩ := Option.isSome_iff_exists.mp h.top
  obtain ⟨r, hr⟩ := State.topJava?_eq_some.mp hg0
  have hr' : (({ U with heap := s₂.heap, slotsUsed := s₂.slotsUsed } : State).setVm s₂.vm).frames = .java g₀ :: r := hr
  rcases hq' with ⟨hqc, L, hfe, hL⟩ | ⟨q, rfl, E, ce, L, hx, hce, hcv, hcl, hW₂, hsm, hL⟩
  · obtain ⟨⟨v, rfl⟩, hW₂, e2, q2, q3, q4, q5, q6⟩ := id hfe
    have e3 : s₂ = ({ (U.calling g mk a).setFrames s₂.frames with heap := s₂.heap, slotsUsed := s₂.slotsUsed } : State).setVm s₂.vm := by
      have : s₂ = ({ s₂ with vm := (U.calling g mk a).vm } : State).setVm s₂.vm := rfl
      rw [e2] at this
      exact this
    obtain ⟨c₂, i₂, len₂, hc₂, hd₂, hf₂⟩ := hend
    have hW' : U.WarmedH s₂.vm := hW₂
    have hcc : c₂ = c := by
      have h1 : s₂.code? g.method = U.code? g.method := by
        rw [State.code?_eq, State.code?_eq, hW'.alike.method?]
      exact Option.some.inj (hc₂.symm.trans (h1.trans h.code))
    subst hcc
    have hlen : len₂ = len := by rw [hdg] at hd₂; cases hd₂; rfl
    subst hlen
    have hs₂ : s₂ = (({ U with heap := s₂.heap, slotsUsed := s₂.slotsUsed } : State).setVm s₂.vm).setTop { g with pc := g.pc + len₂, stack := v.toList ++ g.stack } := by
      refine e3.trans ?_
      rw [hf₂, State.calling_eq h.top, State.setFrames_setFrames, State.setTop_of_frames _ hr', hr]
      rfl
    have hsame : U.sameButNew ({ U with heap := s₂.heap, slotsUsed := s₂.slotsUsed } : State) L mc ms := by
      refine ⟨?_, q2, q3, q4, q5, q6⟩
      obtain ⟨t, ht, -⟩ := State.frames_cons hr
      show ({ U with heap := s₂.heap, slotsUsed := s₂.slotsUsed } : State) = { U.setFrames U.frames with heap := s₂.heap, slotsUsed := s₂.slotsUsed }
      rw [State.setFrames_self ht]
    subst hg
    refine Or.inl ⟨v, ⟨(({ U with heap := s₂.heap, slotsUsed := s₂.slotsUsed } : State).setVm s₂.vm), Ls ++ L, c0 + mc, s0 + ms⟩,
      ⟨X.admits, X.cas, X.clock, X.frames, X.room, X.hears, X.method, X.code, (X.here.setHeapUsed s₂.heap s₂.slotsUsed).setVm hW'.alike, X.tail, State.WarmedH.trans X.warmed hW', X.limits, X.bytes, X.same.trans (hsame.setVm s.vm)⟩,
      ⟨g, mk, s₂, L, rfl, rfl, hqc, rfl, hL, rfl, rfl⟩, ?_⟩
    show Steps p.tables e below _ ((({ U with heap := s₂.heap, slotsUsed := s₂.slotsUsed } : State).setVm s₂.vm).setTop { g with pc := g.pc + len₂, stack := v.toList ++ g.stack })
    rw [← hs₂]
    exact hsteps
  · obtain ⟨e2, q2, q3, q4, q5, q6⟩ := id hsm
    have e3 : s₂ = ({ (U.calling g mk a).setFrames s₂.frames with heap := s₂.heap, slotsUsed := s₂.slotsUsed } : State).setVm s₂.vm := by
      have : s₂ = ({ s₂ with vm := (U.calling g mk a).vm } : State).setVm s₂.vm := rfl
      rw [e2] at this
      exact this
    have hf₂ : s₂.frames = .throwing q :: .java g :: U.frames.tail := hend
    have hW' : U.WarmedH s₂.vm := hW₂
    have hs₂ : s₂ = ((({ U with heap := s₂.heap, slotsUsed := s₂.slotsUsed } : State).setVm s₂.vm).setTop g).pushFrame (.throwing q) := by
      refine e3.trans ?_
      rw [hf₂, State.calling_eq h.top, State.setFrames_setFrames, State.pushFrame, State.frames_setTop _ hr', State.setTop_of_frames _ hr', State.setFrames_setFrames, hr]
      rfl
    have hsame : U.sameButNew ({ U with heap := s₂.heap, slotsUsed := s₂.slotsUsed } : State) L mc ms := by
      refine ⟨?_, q2, q3, q4, q5, q6⟩
      obtain ⟨t, ht, -⟩ := State.frames_cons hr
      show ({ U with heap := s₂.heap, slotsUsed := s₂.slotsUsed } : State) = { U.setFrames U.frames with heap := s₂.heap, slotsUsed := s₂.slotsUsed }
      rw [State.setFrames_self ht]
    subst hg
    refine Or.inr ⟨q, ⟨(({ U with heap := s₂.heap, slotsUsed := s₂.slotsUsed } : State).setVm s₂.vm), Ls ++ L, c0 + mc, s0 + ms⟩,
      ⟨X.admits, X.cas, X.clock, X.frames, X.room, X.hears, X.method, X.code, (X.here.setHeapUsed s₂.heap s₂.slotsUsed).setVm hW'.alike, X.tail, State.WarmedH.trans X.warmed hW', X.limits, X.bytes, X.same.trans (hsame.setVm s.vm)⟩,
      ⟨g, mk, s₂, L, E, ce, rfl, rfl, hx, hce, hcv, hcl, rfl, hL, rfl, rfl⟩, ?_⟩
    show Steps p.tables e below _ (((({ U with heap := s₂.heap, slotsUsed := s₂.slotsUsed } : State).setVm s₂.vm).setTop g).pushFrame (.throwing q))
    rw [← hs₂]
    exact hsteps
end Payer
section Calls
variable {p : Program} {l : Launch} {e : Env} {R : Room} {s : State} {m : MethodId} {args : Array Value} {below : List Frame} {meth : Method} {c : Code} {T : State} {locs : List Loc} {cells slots : Nat}
theorem vx_callV (X : Stand p l e R s m args below meth c T locs cells slots) (hexec : p.tables.exec = Jvm.exec) {own C : String} {index : Nat} {y : MethodName} {bytes : ByteArray} {maxL : Nat} {ret : Option FieldType}
    (hown : s.vm.findClass own = some m.cls) (hlink : (Cond.methodLink own index y).before args s = true) (hinst : (Cond.instanceMethod y).before args s = true) (hsel : (Cond.selects C y y).before args s = true)
    (hcode : (Cond.code y bytes maxL ret).before args s = true) (hy : y.cls ≠ "java/lang/invoke/MethodHandle" ∧ y.cls ≠ "java/lang/invoke/VarHandle")
    {W9 : Nat} {Pre : Pt → Array Value → Prop} {Post : Pt → Array Value → Option Value → Pt → Prop} {PostX : Pt → Array Value → Addr → Pt → Prop} (hK : vx_Back l R p e below s args y 3 W9 Pre Post PostX)
    {b : Addr} {cellB : Cell} (hcell : T.heap[b]? = some cellB) (hobj : cellB.vm.isStatics = false) (hcls : s.vm.findClass C = some cellB.cls)
    {g : JFrame} (hg : g.method = m) (hsize : g.locals.size = c.maxLocals) {argsL rest : List Value} (hlen : ∀ sig, parseMethodDescriptor y.desc = some sig → argsL.length = sig.parameters.length)
    (hstack : g.stack = argsL.reverse ++ .ref b :: rest) (hW : 2 * g.monitorRoom + (rest.map fun v => v.category).sum ≤ W9) (hdg : decode c.code g.pc = .ok (.invokevirtual index, 3))
    (hpre : ∀ vm₁, s.WarmedH vm₁ → Pre ⟨T.setVm vm₁, locs, cells, slots⟩ (Value.ref b :: argsL).toArray) :
    (∃ (v : Option Value) (vm₁ : Vm) (B : Pt), s.WarmedH vm₁ ∧ Stand p l e R s m args below meth c B.U B.locs B.cells B.slots ∧ Post ⟨T.setVm vm₁, locs, cells, slots⟩ (Value.ref b :: argsL).toArray v B ∧
      ∀ target, Steps p.tables e below (B.U.setTop { g with pc := g.pc + 3, stack := v.toList ++ rest }) target → Steps p.tables e below (T.setTop g) target) ∨
    (∃ (q : Addr) (vm₁ : Vm) (B : Pt), s.WarmedH vm₁ ∧ Stand p l e R s m args below meth c B.U B.locs B.cells B.slots ∧ PostX ⟨T.setVm vm₁, locs, cells, slots⟩ (Value.ref b :: argsL).toArray q B ∧
      Steps p.tables e below (T.setTop g) ((B.U.setTop { g with stack := rest }).pushFrame (.throwing q))) := by
  obtain ⟨mk, methM, hnamed, hmethM, hstM, habM⟩ := Cond.instanceMethod_spec hinst
  obtain ⟨methM', cM, hmethM', -, -, -, -, -, -, hsigM⟩ := Cond.code_spec hnamed hcode
  cases hmethM.symm.trans hmethM'
  obtain ⟨c2, r2, m2, q1, q2, q3, q4, kP, hkP, hkPi⟩ := Cond.selects_spec hsel
  cases hcls.symm.trans q1
  cases (State.methodFound?_of_named hnamed hy).symm.trans q2
  cases hnamed.symm.trans q3
  have hselP : selectMethod e.platform s.vm cellB.cls mk = .method mk := by rw [Launch.admits_selectMethod X.admits]; exact q4
  obtain ⟨vm₁, X₁, hstep₁⟩ := X.invokevirtual hexec hown hlink hnamed hmethM hstM hkP hkPi hy (a := b) (cell := cellB) hcell
    (fun z h => by rw [h] at hobj; cases hobj) hselP hmethM habM hkP hkPi (g := g) hg (argsL := argsL) (rest := rest) (hlen _ hsigM) hstack hdg
  rcases hK m meth c ⟨T.setVm vm₁, locs, cells, slots⟩ { g with stack := rest } (.invokevirtual index) mk (Value.ref b :: argsL).toArray X₁ hg hsize hdg hW (X₁.named hnamed) (hpre vm₁ X₁.warmed) with ⟨v, B, X', hpost, hsteps⟩ | ⟨q, B, X', hpost, hsteps⟩
  · exact Or.inl ⟨v, vm₁, B, X₁.warmed, X', hpost, fun target h => hstep₁ _ fun acts => by rw [doInvoke_state]; exact hsteps.trans h⟩
  · exact Or.inr ⟨q, vm₁, B, X₁.warmed, X', hpost, hstep₁ _ fun acts => by rw [doInvoke_state]; exact hsteps⟩
theorem vx_callS (X : Stand p l e R s m args below meth c T locs cells slots) (hexec : p.tables.exec = Jvm.exec) {own : String} {index : Nat} {y : MethodName} {bytes : ByteArray} {maxL : Nat} {ret : Option FieldType}
    (hown : s.vm.findClass own = some m.cls) (hlink : (Cond.methodLink own index y).before args s = true) (hstat : (Cond.static y).before args s = true) (hinit : (Cond.initialized y.cls).before args s = true)
    (hcode : (Cond.code y bytes maxL ret).before args s = true) (hy : y.cls ≠ "java/lang/invoke/MethodHandle" ∧ y.cls ≠ "java/lang/invoke/VarHandle")
    {W9 : Nat} {Pre : Pt → Array Value → Prop} {Post : Pt → Array Value → Option Value → Pt → Prop} {PostX : Pt → Array Value → Addr → Pt → Prop} (hK : vx_Back l R p e below s args y 3 W9 Pre Post PostX)
    {g : JFrame} (hg : g.method = m) (hsize : g.locals.size = c.maxLocals) {argsL rest : List Value} (hlen : ∀ sig, parseMethodDescriptor y.desc = some sig → argsL.length = sig.parameters.length)
    (hstack : g.stack = argsL.reverse ++ rest) (hW : 2 * g.monitorRoom + (rest.map fun v => v.category).sum ≤ W9) (hdg : decode c.code g.pc = .ok (.invokestatic index, 3))
    (hpre : ∀ vm₁, s.WarmedH vm₁ → Pre ⟨T.setVm vm₁, locs, cells, slots⟩ argsL.toArray) :
    (∃ (v : Option Value) (vm₁ : Vm) (B : Pt), s.WarmedH vm₁ ∧ Stand p l e R s m args below meth c B.U B.locs B.cells B.slots ∧ Post ⟨T.setVm vm₁, locs, cells, slots⟩ argsL.toArray v B ∧
      ∀ target, Steps p.tables e below (B.U.setTop { g with pc := g.pc + 3, stack := v.toList ++ rest }) target → Steps p.tables e below (T.setTop g) target) ∨
    (∃ (q : Addr) (vm₁ : Vm) (B : Pt), s.WarmedH vm₁ ∧ Stand p l e R s m args below meth c B.U B.locs B.cells B.slots ∧ PostX ⟨T.setVm vm₁, locs, cells, slots⟩ argsL.toArray q B ∧
      Steps p.tables e below (T.setTop g) ((B.U.setTop { g with stack := rest }).pushFrame (.throwing q))) := by
  obtain ⟨mk, hnamed⟩ := Cond.code_named hcode
  obtain ⟨methM, cM, hmethM, -, -, -, -, -, -, hsigM⟩ := Cond.code_spec hnamed hcode
  have hstatic : methM.isStatic = true := Cond.static_spec hnamed hmethM hstat
  obtain ⟨kP, hkP, -⟩ := className_of_methodNamed hnamed
  have hinitP : kP.init = .initialized := Cond.initialized_spec (findClass_of_methodNamed hnamed) hkP hinit
  obtain ⟨vm₁, X₁, hstep₁⟩ := X.invokestatic hexec hown hlink hnamed hmethM hstatic hkP hinitP hy (g := g) hg (argsL := argsL) (rest := rest) (hlen _ hsigM) hstack hdg
  rcases hK m meth c ⟨T.setVm vm₁, locs, cells, slots⟩ { g with stack := rest } (.invokestatic index) mk argsL.toArray X₁ hg hsize hdg hW (X₁.named hnamed) (hpre vm₁ X₁.warmed) with ⟨v, B, X', hpost, hsteps⟩ | ⟨q, B, X', hpost, hsteps⟩
  · exact Or.inl ⟨v, vm₁, B, X₁.warmed, X', hpost, fun target h => hstep₁ _ fun acts => by rw [doInvoke_state]; exact hsteps.trans h⟩
  · exact Or.inr ⟨q, vm₁, B, X₁.warmed, X', hpost, hstep₁ _ fun acts => by rw [doInvoke_state]; exact hsteps⟩
end Calls
theorem vx_cls {s : State} {T : State} {vm₁ : Vm} {E : String} {k : ClassId} (hW : s.WarmedH vm₁) (h : (T.setVm vm₁).vm.findClass E = some k) : s.vm.findClass E = some k := by
  have h1 : vm₁.findClass E = some k := h
  rw [hW.alike.findClass] at h1
  exact h1
/-- the method's frame g, with q thrown over it -/
def vx_W (p : Program) (l : Launch) (e : Env) (R : Room) (s : State) (m : MethodId) (args : Array Value) (below : List Frame) (meth : Method) (c : Code) (H : Heap) (locs : List Loc) (cells slots : Nat) (Q : State → Prop) (g : JFrame) (q : Addr) : Prop :=
  ∀ T : State, T.heap = H → Stand p l e R s m args below meth c T locs cells slots → ∃ t, Steps p.tables e below ((T.setTop g).pushFrame (.throwing q)) t ∧ Q t
def vx_Run (p : Program) (l : Launch) (e : Env) (R : Room) (s : State) (m : MethodId) (args : Array Value) (below : List Frame) (meth : Method) (c : Code) (H : Heap) (locs : List Loc) (cells slots mc ms : Nat) (g : JFrame) (rest : List Value) (Qa : State → Outcome → State → Prop) (XC : String → State → State → Prop) (free : Addr → Prop) : Prop :=
  ∀ T : State, T.heap = H → Stand p l e R s m args below meth c T locs cells slots →
    (∃ (v : Option Value) (st₀ t T' : State) (L : List Loc), st₀.heap = H ∧ Stand p l e R s m args below meth c T' (locs ++ L) (cells + mc) (slots + ms) ∧ (∀ q ∈ L, free q.base) ∧ T'.heap = t.heap ∧ T'.vm = t.vm ∧ Qa st₀ (.returned v) t ∧
      Goes p e below T g T' { g with pc := g.pc + 3, stack := v.toList ++ rest }) ∨
    (∃ (q : Addr) (st₀ t T' : State) (L : List Loc) (E : String) (ce : Cell), st₀.heap = H ∧ Stand p l e R s m args below meth c T' (locs ++ L) (cells + mc) (slots + ms) ∧ (∀ z ∈ L, free z.base) ∧ T'.heap = t.heap ∧ T'.vm = t.vm ∧ XC E st₀ t ∧ t.heap[q]? = some ce ∧ ce.vm = .none ∧ s.vm.findClass E = some ce.cls ∧
      Steps p.tables e below (T.setTop g) ((T'.setTop { g with stack := rest }).pushFrame (.throwing q)))
def vx_X {S : Type} (px : S → Prop) (B : String → S → State → Prop) (A : Nat → Prop) : String → State → State → Prop := fun E st t => ∃ u : S, px u ∧ B E u t ∧ va_F A st t
section Runs
variable {p : Program} {l : Launch} {e : Env} {R : Room} {s : State} {m : MethodId} {args : Array Value} {below : List Frame} {meth : Method} {c : Code} {H : Heap} {locs : List Loc} {cells slots : Nat}
variable {y : MethodName} {bytes cc : ByteArray} {maxL nL mc ms n index : Nat} {ret : Option FieldType} {ws : List Cond} {rm : Room} {Pc : Array Value → State → Prop} {Qc : Array Value → State → Outcome → State → Prop} {XC : String → State → State → Prop} {free : Addr → Prop} {Ts : List Cond} {own C : String} {b : Addr} {As rest : List Value} {g : JFrame}
theorem vx_callBack (cb : CallB R s args own index y bytes maxL ret ws rm mc ms n) (hM : vx_Met l y ws rm Pc Qc XC mc ms free) (hbl : FrameBlind Pc) : vx_Back l R p e below s args y 3 8 (PreOf R mc ms Pc) (PostOf Qc mc ms free) (vx_Post XC mc ms free) := by
  obtain ⟨hrc, hrs, hfr, hlo, hws, hcw, -, hini, -⟩ := cb
  exact vx_back (bytes := bytes) (maxL := maxL) (ret := ret) hM hbl hrc hrs hfr hlo hws hcw (fun a' U hW => word_at hW (Or.inl (by first | rfl | simp [Cond.onTables, Cond.keeps, Cond.steady])) hini)
theorem vx_runV (S : CallFix p m c cc nL s args Ts own) (hM : vx_Met l y ws rm Pc Qc XC mc ms free) (cw : CallW R s args own C index y bytes maxL ret ws rm mc ms n) (hp : PreV s H C b Pc As)
    (hg : g.method = m) (hn : As.length = n) (hsize : g.locals.size = nL) (hstack : g.stack = As.reverse ++ .ref b :: rest) (hW : 2 * g.monitorRoom + (rest.map fun v => v.category).sum ≤ 8) (hdg : decode cc g.pc = .ok (.invokevirtual index, 3)) (hf : cells + mc ≤ R.cells ∧ slots + ms ≤ R.slots) :
    vx_Run p l e R s m args below meth c H locs cells slots mc ms g rest (Qc (Value.ref b :: As).toArray) XC free := by
  have hK : vx_Back l R p e below s args y 3 8 (PreOf R mc ms Pc) (PostOf Qc mc ms free) (vx_Post XC mc ms free) := vx_callBack cw.1 hM hp.1
  obtain ⟨⟨-, -, -, -, -, -, hcode, -, hy, hlen, hl⟩, hin, hse⟩ := cw
  obtain ⟨hx, hb, hml, ho, -⟩ := S
  obtain ⟨-, ⟨cellB, hcB, hoB, hclB⟩, hPc⟩ := hp
  intro T hT X
  rcases vx_callV X hx (C := C) (bytes := bytes) (maxL := maxL) (ret := ret) ho hl hin hse hcode hy hK (by rw [hT]; exact hcB) hoB hclB hg (hsize.trans hml.symm) (argsL := As) (rest := rest) (fun sig h => hn.trans (hlen sig h)) hstack hW (by rw [hb]; exact hdg)
    (fun vm₁ hW₁ => ⟨hf.1, hf.2, hPc (T.setVm vm₁) hT hW₁⟩) with ⟨v, vm₁, ⟨U', l2, c2, s2⟩, hW₁, X', ⟨g', mk, t, L, e1, e2, hq, h1, hL, h2, h3⟩, st⟩ | ⟨q, vm₁, ⟨U', l2, c2, s2⟩, hW₁, X', ⟨g', mk, t, L, E, ce, e1, e2, hq, hce, hcv, hcl, h1, hL, h2, h3⟩, st⟩
  · dsimp only [Pt.U, Pt.locs, Pt.cells, Pt.slots] at X' e1 e2 h1 h2 h3 st
    subst h1; subst h2; subst h3
    exact Or.inl ⟨v, (T.setVm vm₁).calling g' mk (Value.ref b :: As).toArray, t, U', L, hT, X', hL, e1, e2, hq, st⟩
  · dsimp only [Pt.U, Pt.locs, Pt.cells, Pt.slots] at X' e1 e2 h1 h2 h3 st hcl
    subst h1; subst h2; subst h3
    exact Or.inr ⟨q, (T.setVm vm₁).calling g' mk (Value.ref b :: As).toArray, t, U', L, E, ce, hT, X', hL, e1, e2, hq, hce, hcv, vx_cls hW₁ hcl, st⟩
theorem vx_runS (S : CallFix p m c cc nL s args Ts own) (hM : vx_Met l y ws rm Pc Qc XC mc ms free) (cw : CallB R s args own index y bytes maxL ret ws rm mc ms n ∧ (Cond.static y).before args s = true) (hp : PreS s H Pc As)
    (hg : g.method = m) (hn : As.length = n) (hsize : g.locals.size = nL) (hstack : g.stack = As.reverse ++ rest) (hW : 2 * g.monitorRoom + (rest.map fun v => v.category).sum ≤ 8) (hdg : decode cc g.pc = .ok (.invokestatic index, 3)) (hf : cells + mc ≤ R.cells ∧ slots + ms ≤ R.slots) :
    vx_Run p l e R s m args below meth c H locs cells slots mc ms g rest (Qc As.toArray) XC free := by
  have hK : vx_Back l R p e below s args y 3 8 (PreOf R mc ms Pc) (PostOf Qc mc ms free) (vx_Post XC mc ms free) := vx_callBack cw.1 hM hp.1
  obtain ⟨⟨-, -, -, -, -, -, hcode, hini, hy, hlen, hl⟩, hstt⟩ := cw
  obtain ⟨hx, hb, hml, ho, -⟩ := S
  intro T hT X
  rcases vx_callS X hx (bytes := bytes) (maxL := maxL) (ret := ret) ho hl hstt hini hcode hy hK hg (hsize.trans hml.symm) (argsL := As) (rest := rest) (fun sig h => hn.trans (hlen sig h)) hstack hW (by rw [hb]; exact hdg)
    (fun vm₁ hW₁ => ⟨hf.1, hf.2, hp.2 (T.setVm vm₁) hT hW₁⟩) with ⟨v, vm₁, ⟨U', l2, c2, s2⟩, hW₁, X', ⟨g', mk, t, L, e1, e2, hq, h1, hL, h2, h3⟩, st⟩ | ⟨q, vm₁, ⟨U', l2, c2, s2⟩, hW₁, X', ⟨g', mk, t, L, E, ce, e1, e2, hq, hce, hcv, hcl, h1, hL, h2, h3⟩, st⟩
  · dsimp only [Pt.U, Pt.locs, Pt.cells, Pt.slots] at X' e1 e2 h1 h2 h3 st
    subst h1; subst h2; subst h3
    exact Or.inl ⟨v, (T.setVm vm₁).calling g' mk As.toArray, t, U', L, hT, X', hL, e1, e2, hq, st⟩
  · dsimp only [Pt.U, Pt.locs, Pt.cells, Pt.slots] at X' e1 e2 h1 h2 h3 st hcl
    subst h1; subst h2; subst h3
    exact Or.inr ⟨q, (T.setVm vm₁).calling g' mk As.toArray, t, U', L, E, ce, hT, X', hL, e1, e2, hq, hce, hcv, vx_cls hW₁ hcl, st⟩
end Runs
section Rows
variable {p : Program} {l : Launch} {e : Env} {R : Room} {s : State} {m : MethodId} {args : Array Value} {below : List Frame} {meth : Method} {c : Code} {H : Heap} {locs : List Loc} {cells slots : Nat} {Q : State → Prop}
variable {mc ms : Nat} {free : Addr → Prop} {A0 A1 : Nat → Prop} {H0 : Heap} {a : Array Value} {pc : Nat} {ls : Array Slot} {st0 rest : List Value}
theorem vx_keep {st₀ t T' : State} {L : List Loc} (h0 : st₀.heap = H) (e1 : T'.heap = t.heap) (hS : va_S A0 H0 H locs) (hA : ∀ q, q < H.size → A1 q → A0 q) (hf : ∀ q, free q → A0 q) (hL : ∀ q ∈ L, free q.base) (hF : va_F A1 st₀ t) :
    H.size ≤ T'.heap.size ∧ (∀ q : Nat, q < H.size → ¬ A1 q → T'.heap[q]? = H[q]?) ∧ va_S A0 H0 T'.heap (locs ++ L) := by
  obtain ⟨hz, hk⟩ := hF
  rw [h0] at hz hk
  exact ⟨by rw [e1]; exact hz, fun q h1 h2 => by rw [e1]; exact hk q h1 h2,
    ⟨Nat.le_trans hS.1 (by rw [e1]; exact hz), fun q h1 h2 => by rw [e1, hk q (Nat.lt_of_lt_of_le h1 hS.1) (fun z => h2 (hA q (Nat.lt_of_lt_of_le h1 hS.1) z))]; exact hS.2.1 q h1 h2, fun q hq => by
      rcases List.mem_append.mp hq with h | h
      · exact hS.2.2 q h
      · exact hf _ (hL q h)⟩⟩
theorem vx_calli {S SX : Type} {post : Int32 → S → Prop} {px : SX → Prop} {B : S → State → Prop} {BX : String → SX → State → Prop} {AX : Nat → Prop} (hr : vx_Run p l e R s m args below meth c H locs cells slots mc ms (F0 m pc ls st0) rest (va_Qi post B A1 a) (vx_X px BX AX) free) (hS : va_S A0 H0 H locs) (hA : ∀ q, q < H.size → A1 q → A0 q) (hf : ∀ q, free q → A0 q) (hAX : ∀ q, q < H.size → AX q → A0 q)
    (kx : ∀ (E : String) (ce : Cell) (q9 : Addr) (u : SX) (t : State) (H1 : Heap) (locs1 : List Loc), t.heap = H1 → s.vm.Alike t.vm → px u → BX E u t → H.size ≤ H1.size → (∀ q : Nat, q < H.size → ¬ AX q → H1[q]? = H[q]?) → va_S A0 H0 H1 locs1 → H1[q9]? = some ce → ce.vm = .none → s.vm.findClass E = some ce.cls → vx_W p l e R s m args below meth c H1 locs1 (cells + mc) (slots + ms) Q (F0 m pc ls rest) q9)
    (kk : ∀ (r : Int32) (u : S) (t : State) (H1 : Heap) (locs1 : List Loc), t.heap = H1 → s.vm.Alike t.vm → post r u → B u t → H.size ≤ H1.size → (∀ q : Nat, q < H.size → ¬ A1 q → H1[q]? = H[q]?) → va_S A0 H0 H1 locs1 → W p l e R s m args below meth c H1 locs1 (cells + mc) (slots + ms) Q (F0 m (pc + 3) ls (.int r :: rest))) : W p l e R s m args below meth c H locs cells slots Q (F0 m pc ls st0) := by
  intro T hT X
  rcases hr T hT X with ⟨v, st₀, t, T', L, h0, X', hL, e1, e2, ⟨⟨r, u, hv, hp, hb⟩, hF⟩, st⟩ | ⟨q, st₀, t, T', L, E, ce, h0, X', hL, e1, e2, ⟨u, hp, hb, hF⟩, hce, hcv, hcl, st⟩
  · cases hv
    obtain ⟨k1, k2, k3⟩ := vx_keep h0 e1 hS hA hf hL hF
    obtain ⟨t2, a1, b1⟩ := kk r u t T'.heap (locs ++ L) e1.symm (by rw [← e2]; exact X'.warmed.alike) hp hb k1 k2 k3 T' rfl X'
    exact ⟨t2, st t2 a1, b1⟩
  · obtain ⟨k1, k2, k3⟩ := vx_keep h0 e1 hS hAX hf hL hF
    obtain ⟨t2, a1, b1⟩ := kx E ce q u t T'.heap (locs ++ L) e1.symm (by rw [← e2]; exact X'.warmed.alike) hp hb k1 k2 k3 (by rw [e1]; exact hce) hcv hcl T' rfl X'
    exact ⟨t2, st.trans a1, b1⟩
theorem vx_calll {S SX : Type} {post : Int64 → S → Prop} {px : SX → Prop} {B : S → State → Prop} {BX : String → SX → State → Prop} {AX : Nat → Prop} (hr : vx_Run p l e R s m args below meth c H locs cells slots mc ms (F0 m pc ls st0) rest (va_Ql post B A1 a) (vx_X px BX AX) free) (hS : va_S A0 H0 H locs) (hA : ∀ q, q < H.size → A1 q → A0 q) (hf : ∀ q, free q → A0 q) (hAX : ∀ q, q < H.size → AX q → A0 q)
    (kx : ∀ (E : String) (ce : Cell) (q9 : Addr) (u : SX) (t : State) (H1 : Heap) (locs1 : List Loc), t.heap = H1 → s.vm.Alike t.vm → px u → BX E u t → H.size ≤ H1.size → (∀ q : Nat, q < H.size → ¬ AX q → H1[q]? = H[q]?) → va_S A0 H0 H1 locs1 → H1[q9]? = some ce → ce.vm = .none → s.vm.findClass E = some ce.cls → vx_W p l e R s m args below meth c H1 locs1 (cells + mc) (slots + ms) Q (F0 m pc ls rest) q9)
    (kk : ∀ (r : Int64) (u : S) (t : State) (H1 : Heap) (locs1 : List Loc), t.heap = H1 → s.vm.Alike t.vm → post r u → B u t → H.size ≤ H1.size → (∀ q : Nat, q < H.size → ¬ A1 q → H1[q]? = H[q]?) → va_S A0 H0 H1 locs1 → W p l e R s m args below meth c H1 locs1 (cells + mc) (slots + ms) Q (F0 m (pc + 3) ls (.long r :: rest))) : W p l e R s m args below meth c H locs cells slots Q (F0 m pc ls st0) := by
  intro T hT X
  rcases hr T hT X with ⟨v, st₀, t, T', L, h0, X', hL, e1, e2, ⟨⟨r, u, hv, hp, hb⟩, hF⟩, st⟩ | ⟨q, st₀, t, T', L, E, ce, h0, X', hL, e1, e2, ⟨u, hp, hb, hF⟩, hce, hcv, hcl, st⟩
  · cases hv
    obtain ⟨k1, k2, k3⟩ := vx_keep h0 e1 hS hA hf hL hF
    obtain ⟨t2, a1, b1⟩ := kk r u t T'.heap (locs ++ L) e1.symm (by rw [← e2]; exact X'.warmed.alike) hp hb k1 k2 k3 T' rfl X'
    exact ⟨t2, st t2 a1, b1⟩
  · obtain ⟨k1, k2, k3⟩ := vx_keep h0 e1 hS hAX hf hL hF
    obtain ⟨t2, a1, b1⟩ := kx E ce q u t T'.heap (locs ++ L) e1.symm (by rw [← e2]; exact X'.warmed.alike) hp hb k1 k2 k3 (by rw [e1]; exact hce) hcv hcl T' rfl X'
    exact ⟨t2, st.trans a1, b1⟩
theorem vx_callf {S SX : Type} {post : UInt32 → S → Prop} {px : SX → Prop} {B : S → State → Prop} {BX : String → SX → State → Prop} {AX : Nat → Prop} (hr : vx_Run p l e R s m args below meth c H locs cells slots mc ms (F0 m pc ls st0) rest (va_Qf post B A1 a) (vx_X px BX AX) free) (hS : va_S A0 H0 H locs) (hA : ∀ q, q < H.size → A1 q → A0 q) (hf : ∀ q, free q → A0 q) (hAX : ∀ q, q < H.size → AX q → A0 q)
    (kx : ∀ (E : String) (ce : Cell) (q9 : Addr) (u : SX) (t : State) (H1 : Heap) (locs1 : List Loc), t.heap = H1 → s.vm.Alike t.vm → px u → BX E u t → H.size ≤ H1.size → (∀ q : Nat, q < H.size → ¬ AX q → H1[q]? = H[q]?) → va_S A0 H0 H1 locs1 → H1[q9]? = some ce → ce.vm = .none → s.vm.findClass E = some ce.cls → vx_W p l e R s m args below meth c H1 locs1 (cells + mc) (slots + ms) Q (F0 m pc ls rest) q9)
    (kk : ∀ (r : UInt32) (u : S) (t : State) (H1 : Heap) (locs1 : List Loc), t.heap = H1 → s.vm.Alike t.vm → post r u → B u t → H.size ≤ H1.size → (∀ q : Nat, q < H.size → ¬ A1 q → H1[q]? = H[q]?) → va_S A0 H0 H1 locs1 → W p l e R s m args below meth c H1 locs1 (cells + mc) (slots + ms) Q (F0 m (pc + 3) ls (.float r :: rest))) : W p l e R s m args below meth c H locs cells slots Q (F0 m pc ls st0) := by
  intro T hT X
  rcases hr T hT X with ⟨v, st₀, t, T', L, h0, X', hL, e1, e2, ⟨⟨r, u, hv, hp, hb⟩, hF⟩, st⟩ | ⟨q, st₀, t, T', L, E, ce, h0, X', hL, e1, e2, ⟨u, hp, hb, hF⟩, hce, hcv, hcl, st⟩
  · cases hv
    obtain ⟨k1, k2, k3⟩ := vx_keep h0 e1 hS hA hf hL hF
    obtain ⟨t2, a1, b1⟩ := kk r u t T'.heap (locs ++ L) e1.symm (by rw [← e2]; exact X'.warmed.alike) hp hb k1 k2 k3 T' rfl X'
    exact ⟨t2, st t2 a1, b1⟩
  · obtain ⟨k1, k2, k3⟩ := vx_keep h0 e1 hS hAX hf hL hF
    obtain ⟨t2, a1, b1⟩ := kx E ce q u t T'.heap (locs ++ L) e1.symm (by rw [← e2]; exact X'.warmed.alike) hp hb k1 k2 k3 (by rw [e1]; exact hce) hcv hcl T' rfl X'
    exact ⟨t2, st.trans a1, b1⟩
theorem vx_calld {S SX : Type} {post : UInt64 → S → Prop} {px : SX → Prop} {B : S → State → Prop} {BX : String → SX → State → Prop} {AX : Nat → Prop} (hr : vx_Run p l e R s m args below meth c H locs cells slots mc ms (F0 m pc ls st0) rest (va_Qd post B A1 a) (vx_X px BX AX) free) (hS : va_S A0 H0 H locs) (hA : ∀ q, q < H.size → A1 q → A0 q) (hf : ∀ q, free q → A0 q) (hAX : ∀ q, q < H.size → AX q → A0 q)
    (kx : ∀ (E : String) (ce : Cell) (q9 : Addr) (u : SX) (t : State) (H1 : Heap) (locs1 : List Loc), t.heap = H1 → s.vm.Alike t.vm → px u → BX E u t → H.size ≤ H1.size → (∀ q : Nat, q < H.size → ¬ AX q → H1[q]? = H[q]?) → va_S A0 H0 H1 locs1 → H1[q9]? = some ce → ce.vm = .none → s.vm.findClass E = some ce.cls → vx_W p l e R s m args below meth c H1 locs1 (cells + mc) (slots + ms) Q (F0 m pc ls rest) q9)
    (kk : ∀ (r : UInt64) (u : S) (t : State) (H1 : Heap) (locs1 : List Loc), t.heap = H1 → s.vm.Alike t.vm → post r u → B u t → H.size ≤ H1.size → (∀ q : Nat, q < H.size → ¬ A1 q → H1[q]? = H[q]?) → va_S A0 H0 H1 locs1 → W p l e R s m args below meth c H1 locs1 (cells + mc) (slots + ms) Q (F0 m (pc + 3) ls (.double r :: rest))) : W p l e R s m args below meth c H locs cells slots Q (F0 m pc ls st0) := by
  intro T hT X
  rcases hr T hT X with ⟨v, st₀, t, T', L, h0, X', hL, e1, e2, ⟨⟨r, u, hv, hp, hb⟩, hF⟩, st⟩ | ⟨q, st₀, t, T', L, E, ce, h0, X', hL, e1, e2, ⟨u, hp, hb, hF⟩, hce, hcv, hcl, st⟩
  · cases hv
    obtain ⟨k1, k2, k3⟩ := vx_keep h0 e1 hS hA hf hL hF
    obtain ⟨t2, a1, b1⟩ := kk r u t T'.heap (locs ++ L) e1.symm (by rw [← e2]; exact X'.warmed.alike) hp hb k1 k2 k3 T' rfl X'
    exact ⟨t2, st t2 a1, b1⟩
  · obtain ⟨k1, k2, k3⟩ := vx_keep h0 e1 hS hAX hf hL hF
    obtain ⟨t2, a1, b1⟩ := kx E ce q u t T'.heap (locs ++ L) e1.symm (by rw [← e2]; exact X'.warmed.alike) hp hb k1 k2 k3 (by rw [e1]; exact hce) hcv hcl T' rfl X'
    exact ⟨t2, st.trans a1, b1⟩
theorem vx_callv {S SX : Type} {post : S → Prop} {px : SX → Prop} {B : S → State → Prop} {BX : String → SX → State → Prop} {AX : Nat → Prop} (hr : vx_Run p l e R s m args below meth c H locs cells slots mc ms (F0 m pc ls st0) rest (va_Qv post B A1 a) (vx_X px BX AX) free) (hS : va_S A0 H0 H locs) (hA : ∀ q, q < H.size → A1 q → A0 q) (hf : ∀ q, free q → A0 q) (hAX : ∀ q, q < H.size → AX q → A0 q)
    (kx : ∀ (E : String) (ce : Cell) (q9 : Addr) (u : SX) (t : State) (H1 : Heap) (locs1 : List Loc), t.heap = H1 → s.vm.Alike t.vm → px u → BX E u t → H.size ≤ H1.size → (∀ q : Nat, q < H.size → ¬ AX q → H1[q]? = H[q]?) → va_S A0 H0 H1 locs1 → H1[q9]? = some ce → ce.vm = .none → s.vm.findClass E = some ce.cls → vx_W p l e R s m args below meth c H1 locs1 (cells + mc) (slots + ms) Q (F0 m pc ls rest) q9)
    (kk : ∀ (u : S) (t : State) (H1 : Heap) (locs1 : List Loc), t.heap = H1 → s.vm.Alike t.vm → post u → B u t → H.size ≤ H1.size → (∀ q : Nat, q < H.size → ¬ A1 q → H1[q]? = H[q]?) → va_S A0 H0 H1 locs1 → W p l e R s m args below meth c H1 locs1 (cells + mc) (slots + ms) Q (F0 m (pc + 3) ls (rest))) : W p l e R s m args below meth c H locs cells slots Q (F0 m pc ls st0) := by
  intro T hT X
  rcases hr T hT X with ⟨v, st₀, t, T', L, h0, X', hL, e1, e2, ⟨⟨u, hv, hp, hb⟩, hF⟩, st⟩ | ⟨q, st₀, t, T', L, E, ce, h0, X', hL, e1, e2, ⟨u, hp, hb, hF⟩, hce, hcv, hcl, st⟩
  · cases hv
    obtain ⟨k1, k2, k3⟩ := vx_keep h0 e1 hS hA hf hL hF
    obtain ⟨t2, a1, b1⟩ := kk u t T'.heap (locs ++ L) e1.symm (by rw [← e2]; exact X'.warmed.alike) hp hb k1 k2 k3 T' rfl X'
    exact ⟨t2, st t2 a1, b1⟩
  · obtain ⟨k1, k2, k3⟩ := vx_keep h0 e1 hS hAX hf hL hF
    obtain ⟨t2, a1, b1⟩ := kx E ce q u t T'.heap (locs ++ L) e1.symm (by rw [← e2]; exact X'.warmed.alike) hp hb k1 k2 k3 (by rw [e1]; exact hce) hcv hcl T' rfl X'
    exact ⟨t2, st.trans a1, b1⟩
/-- caught by the row x of this method's table; the rows ahead don't take it -/
theorem vx_catch {own name : String} {E : String} {ce : Cell} {q : Addr} (hown : s.vm.findClass own = some m.cls) (pre : List ExceptionTableEntry) (x : ExceptionTableEntry) (suf : List ExceptionTableEntry) (hsplit : c.exceptionTable.toList = pre ++ x :: suf)
    (hpass : ∀ z ∈ pre, covers z pc = false ∨ (z.catchType ≠ 0 ∧ ∃ nm : String, (Cond.classLink own z.catchType nm).before args s = true ∧ va_Nc E nm s)) (hx : covers x pc = true) (h0 : x.catchType ≠ 0)
    (hlink : (Cond.classLink own x.catchType name).before args s = true) (hcast : (Cond.castable E name).before args s = true) (hcell : H[q]? = some ce) (hv : ce.vm = .none) (hcl : s.vm.findClass E = some ce.cls)
    (kk : W p l e R s m args below meth c H locs cells slots Q (F0 m x.handlerPc ls [.ref q])) : vx_W p l e R s m args below meth c H locs cells slots Q (F0 m pc ls rest) q := by
  intro T hT X
  have hpl : e.platform.magicAccessors = ({} : Platform).magicAccessors := by rw [X.admits.platform]
  obtain ⟨c3, c4, hc3, hc4, hasg⟩ := Cond.castable_spec hcast
  cases Option.some.inj (hc3.symm.trans hcl)
  obtain ⟨c5, hc5, hcl5⟩ := Cond.classLink_spec hown hlink e.platform hpl
  cases Option.some.inj (hc4.symm.trans hc5)
  obtain ⟨vm', X', st⟩ := X.thenCaughtThrough q (g := F0 m pc ls rest) rfl (Steps.refl _) (by rw [hT]; exact hcell) (by rw [hv]; rfl) (by obtain ⟨k9, h9, -⟩ := Vm.findClass_spec hcl; exact ⟨k9, h9⟩) pre x suf hsplit
    (fun z hz => by
      rcases hpass z hz with h | ⟨hz0, nm, hl1, hn1⟩
      · exact Or.inl h
      · obtain ⟨c6, hc6, hcl6⟩ := Cond.classLink_spec hown hl1 e.platform hpl
        obtain ⟨a8, b8, h1, h2, h3⟩ := hn1
        cases Option.some.inj (h1.symm.trans hcl)
        cases Option.some.inj (h2.symm.trans hc6)
        exact Or.inr ⟨hz0, _, hcl6, h3⟩) hx (Or.inr ⟨h0, c4, hcl5, hasg⟩)
  obtain ⟨t, a1, b1⟩ := kk (T.setVm vm') hT X'
  exact ⟨t, st.trans a1, b1⟩
end Rows
section Ends
variable {p : Program} {l : Launch} {e : Env} {R : Room} {s : State} {m : MethodId} {args : Array Value} {below : List Frame} {meth : Method} {c : Code} {H : Heap} {locs : List Loc} {cells slots : Nat} {Q : State → Prop}
variable {mc ms : Nat} {free : Addr → Prop} {A0 A1 : Nat → Prop} {H0 : Heap} {a : Array Value} {ls : Array Slot} {st0 rest : List Value}
variable {Qc : Array Value → State → Outcome → State → Prop} {XC : String → State → State → Prop}
/-- what a body that may throw owes at its end -/
def vx_MQ (below : List Frame) (Qc : Array Value → State → Outcome → State → Prop) (XC : String → State → State → Prop) (a : Array Value) (s : State) (mc ms : Nat) (free : Addr → Prop) : State → Prop := fun t =>
  ∃ o, t.status = .running ∧ Ended t below o ∧ vx_Q Qc XC mc ms free a s o t
theorem vx_ret {g : JFrame} {mc ms : Nat} (k : W p l e R s m args below meth c H locs cells slots (MQ below Qc args s mc ms free) g) : W p l e R s m args below meth c H locs cells slots (vx_MQ below Qc XC args s mc ms free) g := by
  intro T hT X
  obtain ⟨t, a1, o, b1, b2, b3, b4⟩ := k T hT X
  exact ⟨t, a1, o, b1, b2, Or.inl ⟨b3, b4⟩⟩
/-- not caught here: it goes on to the caller -/
theorem vx_widen {g : JFrame} {q : Addr} {k n : Nat} (h1 : cells ≤ k) (h2 : slots ≤ n) (kk : vx_W p l e R s m args below meth c H locs k n Q g q) : vx_W p l e R s m args below meth c H locs cells slots Q g q := fun T hT X => kk T hT (stand_widen X h1 h2)
theorem vx_out {pc : Nat} {E : String} {ce : Cell} {q : Addr} {mc ms : Nat} (hout : ∀ x ∈ c.exceptionTable.toList, covers x pc = false) (hlocks : meth.locks = false) (hcell : H[q]? = some ce) (hv : ce.vm = .none) (hcl : s.vm.findClass E = some ce.cls)
    (hx : ∀ t : State, t.heap = H → s.vm.Alike t.vm → XC E s t) (hf : ∀ z ∈ locs, free z.base) (hc : cells ≤ mc) (hs : slots ≤ ms) :
    vx_W p l e R s m args below meth c H locs cells slots (vx_MQ below Qc XC args s mc ms free) (F0 m pc ls rest) q := by
  intro T hT X
  obtain ⟨st1, hrun, hend, hW, hsm⟩ := X.leaveThrown q (g := F0 m pc ls rest) rfl rfl rfl hout hlocks
  have hcell9 : (T.setFrames (.throwing q :: below)).heap[q]? = some ce := by
    show T.heap[q]? = some ce
    rw [hT]; exact hcell
  exact ⟨_, st1, .threw q, hrun, hend, Or.inr ⟨q, rfl, E, ce, locs, hx _ hT hW.alike, hcell9, hv, hcl, hW, hsm.mono hc hs, hf⟩⟩
theorem vx_frame {U : State} {k n : Nat} (h : s.sameButNew ({ U with vm := s.vm } : State) locs k n) : s.heap.size ≤ U.heap.size ∧ ∀ q : Nat, q < s.heap.size → (∀ z ∈ locs, z.base ≠ q) → U.heap[q]? = s.heap[q]? := by
  obtain ⟨-, h2, -, -, -, h6⟩ := h
  refine ⟨h2, fun q hq hz => ?_⟩
  obtain ⟨c9, e1, e2, e3, e4⟩ := h6 q _ (Array.getElem?_eq_getElem hq)
  have hs : c9.slots = (s.heap[q]).slots := Array.ext_getElem? fun i => e4 i fun hm => hz _ hm rfl
  have h9 : c9 = s.heap[q] := by
    rw [hs] at e2
    exact e2
  have e5 : U.heap[q]? = some c9 := e1
  rw [e5, h9, Array.getElem?_eq_getElem hq]
/-- the words of a throw but the four that speak of the heap -/
def vx_no (w : Cond) : Bool := decide (w ≠ .isRef (.static Bundle.tN "UNASSIGNED_STACK" Bundle.steD)) && decide (w ≠ .isRef (.static Bundle.tN "SUPPRESSED_SENTINEL" Bundle.listD)) && decide (w ≠ .laysStatic Bundle.tN "UNASSIGNED_STACK" Bundle.steD) && decide (w ≠ .laysStatic Bundle.tN "SUPPRESSED_SENTINEL" Bundle.listD)
def vx_at0 (own : String) (ic : Nat) (X : String) (names : List String) : List Cond := (Bundle.ownAtoms0 own ic X names).filter vx_no
def vx_atS (own : String) (ic : Nat) (X : String) (names : List String) : List Cond := (Bundle.ownAtoms own ic X names).filter vx_no
/-- a word that the tables alone decide, or a good one -/
def vx_ot (w : Cond) : Bool := w.onTables || goodWord w
theorem vx_ot_at {args a' : Array Value} {s U : State} {w : Cond} (hW : s.WarmedH U.vm) (hvm : s.vm = U.vm) (hg : vx_ot w = true) (h : w.before args s = true) : w.before a' U = true := by
  simp only [vx_ot, Bool.or_eq_true] at hg
  rcases hg with hg | hg
  · exact va_tabs hg hvm h
  · exact word_at hW (good_of_word hg) h
/-- a list's words: the good ones out of the method's own list, the others by premises of their own -/
theorem vx_hat {args : Array Value} {s : State} {L B : List Cond} (h1 : ∀ w ∈ L.filter goodWord, w.before args s = true) (h2 : ∀ w ∈ L.filter (fun w => !goodWord w), w ∈ B) (h3 : ∀ w ∈ B, w.before args s = true) : ∀ w ∈ L, w.before args s = true := by
  intro w hw
  by_cases g : goodWord w = true
  · exact h1 w (List.mem_filter.mpr ⟨hw, g⟩)
  · refine h3 w (h2 w (List.mem_filter.mpr ⟨hw, ?_⟩))
    show (!goodWord w) = true
    cases hgw : goodWord w
    · rfl
    · exact absurd hgw g
theorem vx_c {args : Array Value} {s : State} {w : Cond} {B : List Cond} (h : w.before args s = true) (t : ∀ w ∈ B, w.before args s = true) : ∀ w' ∈ w :: B, w'.before args s = true := fun w' h' => (List.mem_cons.mp h').elim (fun e => by rw [e]; exact h) (t w')
theorem vx_n {args : Array Value} {s : State} : ∀ w ∈ ([] : List Cond), w.before args s = true := fun _ h => nomatch h
theorem vx_own {args : Array Value} {s : State} {L : List Cond} (h1 : ∀ w ∈ L.filter vx_no, w.before args s = true)
    (hU : (Cond.isRef (.static Bundle.tN "UNASSIGNED_STACK" Bundle.steD)).before args s = true) (hN : (Cond.isRef (.static Bundle.tN "SUPPRESSED_SENTINEL" Bundle.listD)).before args s = true)
    (lU : (Cond.laysStatic Bundle.tN "UNASSIGNED_STACK" Bundle.steD).before args s = true) (lN : (Cond.laysStatic Bundle.tN "SUPPRESSED_SENTINEL" Bundle.listD).before args s = true) : ∀ w ∈ L, w.before args s = true := by
  intro w hw
  by_cases e1 : w = .isRef (.static Bundle.tN "UNASSIGNED_STACK" Bundle.steD)
  · rw [e1]; exact hU
  · by_cases e2 : w = .isRef (.static Bundle.tN "SUPPRESSED_SENTINEL" Bundle.listD)
    · rw [e2]; exact hN
    · by_cases e3 : w = .laysStatic Bundle.tN "UNASSIGNED_STACK" Bundle.steD
      · rw [e3]; exact lU
      · by_cases e4 : w = .laysStatic Bundle.tN "SUPPRESSED_SENTINEL" Bundle.listD
        · rw [e4]; exact lN
        · exact h1 w (List.mem_filter.mpr ⟨hw, by unfold vx_no; rw [decide_eq_true e1, decide_eq_true e2, decide_eq_true e3, decide_eq_true e4]; rfl⟩)
/-- where a static field lies, its class's statics cell in H -/
def vx_L (C n d : String) (A : Nat → Prop) (U : State) (H : Heap) : Prop := ∃ (c : ClassId) (k : Class) (i : Nat) (f : Field) (a : Nat) (cell : Cell), U.vm.findClass C = some c ∧ U.fieldFound? C n d = some (c, k, i, f) ∧ f.isStatic = true ∧ k.statics = some a ∧ H[a]? = some cell ∧ cell.vm.isStatics = true ∧ cell.cls = c ∧ f.slot < cell.slots.size ∧ k.staticTypes[f.slot]? = some f.type ∧ ¬ A a
theorem vx_L.moved {C n d : String} {A : Nat → Prop} {u U : State} {H : Heap} (hvm : u.vm.Alike U.vm) (h : vx_L C n d A u H) : vx_L C n d A U H := by
  obtain ⟨c, k, i, f, a, cell, h1, h2, h3, h4, h5, h6, h7, h8, h9, h10⟩ := h
  obtain ⟨k', hi', he⟩ := State.fieldFound?_setVm hvm h2
  exact ⟨c, k', i, f, a, cell, by rw [hvm.findClass]; exact h1, hi', h3, by rw [he]; exact h4, h5, h6, h7, h8, by rw [he]; exact h9, h10⟩
theorem vx_L.kept {C n d : String} {A : Nat → Prop} {U : State} {H H1 : Heap} (h : vx_L C n d A U H) (hq : ∀ a : Nat, a < H.size → ¬ A a → H1[a]? = H[a]?) : vx_L C n d A U H1 := by
  obtain ⟨c, k, i, f, a, cell, h1, h2, h3, h4, h5, h6, h7, h8, h9, h10⟩ := h
  exact ⟨c, k, i, f, a, cell, h1, h2, h3, h4, by rw [hq a (Array.getElem?_eq_some_iff.mp h5).1 h10]; exact h5, h6, h7, h8, h9, h10⟩
theorem vx_L.narrow {C n d : String} {A B : Nat → Prop} {U : State} {H : Heap} (h : vx_L C n d A U H) (hAB : ∀ q, B q → A q) : vx_L C n d B U H := by
  obtain ⟨c, k, i, f, a, cell, h1, h2, h3, h4, h5, h6, h7, h8, h9, h10⟩ := h
  exact ⟨c, k, i, f, a, cell, h1, h2, h3, h4, h5, h6, h7, h8, h9, fun z => h10 (hAB _ z)⟩
theorem vx_L.word {C n d : String} {A : Nat → Prop} {s : State} {args : Array Value} (h : vx_L C n d A s s.heap) : (Cond.laysStatic C n d).before args s = true := by
  obtain ⟨c, k, i, f, a, cell, h1, h2, h3, h4, h5, h6, h7, h8, h9, -⟩ := h
  show (Cond.laysStatic C n d).holds args s none s [] = true
  exact Cond.laysStatic_of h1 h2 h3 h4 h5 h6 h7 h8 h9
/-- .. and what it holds: null or some reference -/
def vx_Zq (C n d : String) (A : Nat → Prop) (U : State) (H : Heap) : Prop := va_Zq C n d A U H ∧ vx_L C n d A U H
theorem vx_Zq.moved {C n d : String} {A : Nat → Prop} {u U : State} {H : Heap} (hvm : u.vm.Alike U.vm) (h : vx_Zq C n d A u H) : vx_Zq C n d A U H := ⟨va_Zq.moved hvm h.1, vx_L.moved hvm h.2⟩
theorem vx_Zq.kept {C n d : String} {A : Nat → Prop} {U : State} {H H1 : Heap} (h : vx_Zq C n d A U H) (hq : ∀ a : Nat, a < H.size → ¬ A a → H1[a]? = H[a]?) : vx_Zq C n d A U H1 := ⟨va_Zq.kept h.1 hq, vx_L.kept h.2 hq⟩
theorem vx_Zq.narrow {C n d : String} {A B : Nat → Prop} {U : State} {H : Heap} (h : vx_Zq C n d A U H) (hAB : ∀ q, B q → A q) : vx_Zq C n d B U H := ⟨va_Zq.narrow h.1 hAB, vx_L.narrow h.2 hAB⟩
theorem vx_Zqof {args : Array Value} {s : State} {C n d : String} {A : Nat → Prop} (hl : (Cond.laysStatic C n d).before args s = true) (hini : (Cond.initialized C).before args s = true) (h : (Cond.isRef (.static C n d)).before args s = true) (hA : ∀ a : Nat, a < s.heap.size → ¬ A a) : vx_Zq C n d A s s.heap := by
  refine ⟨va_Zqof hl hini h hA, ?_⟩
  obtain ⟨c, k, i, f, a, cell, h1, h2, h3, h4, h5, h6, h7, h8, h9⟩ := Cond.laysStatic_spec hl
  exact ⟨c, k, i, f, a, cell, h1, h2, h3, h4, h5, h6, h7, h8, h9, hA a (Array.getElem?_eq_some_iff.mp h5).1⟩
theorem vx_isRef {C n d : String} {v : Value} {A : Nat → Prop} {s : State} {args : Array Value} (h : va_Z C n d v A s s.heap) (hv : v.isRef = true) : (Cond.isRef (.static C n d)).before args s = true := by
  obtain ⟨cf, kf, fi, f, a, cell, h1, h2, h3, h4, h5, h6, h7, -⟩ := h
  have he : (Term.static C n d).eval args s none [] s = some v := by
    simp [Term.eval, State.fieldNamed?, h1, h2, h4, h5, h6, h7]
  simp only [Cond.before, Cond.holds, Cond.value, he]
  cases v <;> simp_all [Value.isRef]
theorem vx_isRefq {C n d : String} {A : Nat → Prop} {s : State} {args : Array Value} (h : va_Zq C n d A s s.heap) : (Cond.isRef (.static C n d)).before args s = true := by
  rcases h with h | ⟨t, h⟩
  · exact vx_isRef h rfl
  · exact vx_isRef h rfl
/-- the same frame, seen from here: as if the method were called anew in this heap -/
theorem vx_rebase {T : State} (X : Stand p l e R s m args below meth c T locs cells slots) {R' : Room} (hf : R'.frames ≤ R.frames) (hl : R'.locals ≤ R.locals) (hc : cells + R'.cells ≤ R.cells) (hs : slots + R'.slots ≤ R.slots) :
    Stand p l e R' ((T.setVm s.vm).setFrames (.invoking m args :: below)) m args below meth c T [] 0 0 := by
  have htop : (T.setVm s.vm).topJava?.isSome := X.here.top
  have hF : ((T.setVm s.vm).setFrames (.invoking m args :: below)).frames = .invoking m args :: below := State.frames_setFrames _ (State.cur_lt_of_top htop)
  obtain ⟨g₀, hg0⟩ := Option.isSome_iff_exists.mp htop
  obtain ⟨r, hr⟩ := State.topJava?_eq_some.mp hg0
  have hl9 : e.platform.stackLimits (T.setVm s.vm).me = e.platform.stackLimits s.me := X.limits
  have hb9 : (T.setVm s.vm).me.stackBytes = s.me.stackBytes := X.bytes
  refine ⟨X.admits, X.cas, X.clock, hF, ?_, X.hears, X.method, X.code, X.here, X.tail, X.warmed, ?_, ?_, ?_⟩
  · have h := X.room
    have hU : ((T.setVm s.vm).setFrames (.invoking m args :: below)).localsInUse = s.localsInUse := by
      rw [State.localsInUse_invoking hF (meth := meth) (c := c) X.method X.code, State.localsInUse_invoking X.frames X.method X.code]
    simp only [State.hasRoom, Bool.and_eq_true, decide_eq_true_eq] at h ⊢
    obtain ⟨⟨⟨⟨h1, h2, h3, h4, h5, h6⟩, h7⟩, h8⟩, h9⟩ := h
    rw [X.frames, List.length_cons] at h2 h3
    have q1 := X.heapSize
    have q2 := X.used
    simp only [hF, hU, List.length_cons, State.stackLimits_setFrames, State.stackBytes_setFrames, hl9, hb9]
    refine ⟨⟨⟨⟨by omega, by omega, by omega, by omega, by omega, h6⟩, ?_⟩, ?_⟩, X.book⟩
    · show T.heap.size + R'.cells ≤ e.platform.maxCells
      omega
    · show T.slotsUsed + R'.slots ≤ e.platform.maxSlots
      omega
  · rw [State.stackLimits_setFrames]; rfl
  · rw [State.stackBytes_setFrames]; rfl
  · refine ⟨?_, Nat.le_refl _, Nat.le_refl _, ?_, ?_, fun a c9 h9 => ⟨c9, h9, rfl, rfl, fun _ _ => rfl⟩⟩
    · obtain ⟨t, ht, -⟩ := State.frames_cons hr
      show T.setVm s.vm = { ((T.setVm s.vm).setFrames (.invoking m args :: below)).setFrames (T.setVm s.vm).frames with heap := T.heap, slotsUsed := T.slotsUsed }
      rw [State.setFrames_setFrames, State.setFrames_self ht]
      rfl
    · show T.slotsUsed = T.slotsUsed + ((T.heap.toList.drop T.heap.size).map (·.slots.size)).sum
      rw [List.drop_eq_nil_of_le (Nat.le_of_eq Array.length_toList)]
      rfl
    · show ((T.heap.toList.drop T.heap.size).map (·.slots.size)).sum ≤ 0
      rw [List.drop_eq_nil_of_le (Nat.le_of_eq Array.length_toList)]
      exact Nat.le_refl _
/-- 'throw new E()': new; dup; invokespecial; athrow -/
theorem vx_throw0 {cc : ByteArray} {pc : Nat} (hexec : p.tables.exec = Jvm.exec) (hb : c.code = cc) (hl : l.stackTraces = false) {own cls : String} {names : List String} {ik ic mc ms : Nat} {A : Nat → Prop}
    (hown : s.vm.findClass own = some m.cls) (hcls : Bundle.fit cls = true) (hnames : ∀ n ∈ names, Bundle.fit n = true)
    (hk : (Cond.classLink own ik cls).before args s = true) (hini : (Cond.initialized cls).before args s = true) (hat : ∀ w ∈ vx_at0 own ic cls names, w.before args s = true)
    (hgood : ∀ w ∈ Cond.classLink own ik cls :: Cond.initialized cls :: vx_at0 own ic cls names, vx_ot w = true)
    (hU : vx_Zq Bundle.tN "UNASSIGNED_STACK" Bundle.steD A s s.heap) (hN : vx_Zq Bundle.tN "SUPPRESSED_SENTINEL" Bundle.listD A s s.heap) (hS : va_S A s.heap H locs) (hsize : ls.size = c.maxLocals)
    (d0 : decode cc pc = .ok (.new ik, 3)) (d3 : decode cc (pc + 3) = .ok (.dup, 1)) (d4 : decode cc (pc + 4) = .ok (.invokespecial ic, 3)) (d7 : decode cc (pc + 7) = .ok (.athrow, 1))
    (hout : ∀ x ∈ c.exceptionTable.toList, covers x (pc + 7) = false)
    (hRframes : names.length + 3 < R.frames) (hRlocals : (rest.map fun v => v.category).sum + (13 * (names.length + 1) + 42) ≤ R.locals) (hRcells : cells + 1 ≤ R.cells) (hRslots : slots + 6 ≤ R.slots) (hlocks : meth.locks = false)
    (hx : ∀ t : State, s.vm.Alike t.vm → H.size ≤ t.heap.size → (∀ q : Nat, q < H.size → t.heap[q]? = H[q]?) → XC cls s t)
    (hf : ∀ z ∈ locs, free z.base) (hc : cells + 1 ≤ mc) (hs : slots + 6 ≤ ms) :
    W p l e R s m args below meth c H locs cells slots (vx_MQ below Qc XC args s mc ms free) (F0 m pc ls rest) := by
  intro T hT X
  have htr : e.platform.stackTraces = false := (show e.platform.stackTraces = l.stackTraces by rw [X.admits.platform]).trans hl
  have Y := vx_rebase X (R' := { frames := R.frames, locals := R.locals, cells := 1, slots := 6 }) (Nat.le_refl _) (Nat.le_refl _) hRcells hRslots
  obtain ⟨s', hA⟩ : ∃ z, z = (T.setVm s.vm).setFrames (.invoking m args :: below) := ⟨_, rfl⟩
  rw [← hA] at Y
  have hvm : s'.vm = s.vm := by rw [hA]; rfl
  have hhp : s'.heap = H := by rw [hA]; exact hT
  have hW0 : s.WarmedH s'.vm := by rw [hvm]; exact State.WarmedH.refl s
  have hat' : ∀ w ∈ vx_at0 own ic cls names, w.before args s' = true := fun w hw => vx_ot_at hW0 hvm.symm (hgood w (List.mem_cons_of_mem _ (List.mem_cons_of_mem _ hw))) (hat w hw)
  have hk' : (Cond.classLink own ik cls).before args s' = true := vx_ot_at hW0 hvm.symm (hgood _ List.mem_cons_self) hk
  have hini' : (Cond.initialized cls).before args s' = true := vx_ot_at hW0 hvm.symm (hgood _ (List.mem_cons_of_mem _ List.mem_cons_self)) hini
  have hU' : vx_Zq Bundle.tN "UNASSIGNED_STACK" Bundle.steD A s' s'.heap := by rw [hhp]; exact vx_Zq.moved hW0.alike (hU.kept hS.2.1)
  have hN' : vx_Zq Bundle.tN "SUPPRESSED_SENTINEL" Bundle.listD A s' s'.heap := by rw [hhp]; exact vx_Zq.moved hW0.alike (hN.kept hS.2.1)
  have h : ∀ w ∈ Bundle.ownAtoms0 own ic cls names, w.before args s' = true := vx_own hat' (vx_isRefq hU'.1) (vx_isRefq hN'.1) hU'.2.word hN'.2.word
  have hown' : s'.vm.findClass own = some m.cls := by rw [hvm]; exact hown
  have hins : (Cond.instantiable cls 6).before args s' = true := h _ (by simp [Bundle.ownAtoms0])
  obtain ⟨vm₁, cX, kX, hfX, hkX, -, -, X₁, st1⟩ := Y.newCold hexec (own := own) (C := cls) (index := ik) (n := 6) hown' hk' hins hini'
    (g := F0 m pc ls rest) rfl (by rw [hb]; exact d0) (Nat.le_refl _) (Nat.le_refl _)
  generalize hT1 : (T.setVm vm₁).pushCell { cls := cX, slots := kX.instanceTypes.map defaultValue, vm := .none } = T1 at X₁ st1
  have hcat : (Value.ref T.heap.size).category = 1 := rfl
  have hcellA : T1.heap[T.heap.size]? = some (freshCell cX kX) := by rw [← hT1]; exact State.heap_pushCell_size _ _
  have d3' : decode c.code (pc + 3) = .ok (.dup, 1) := by rw [hb]; exact d3
  obtain ⟨U, hsteps, hrun, hend, hW, hsame, ce, hce, hO⟩ := X₁.ctorThrow0 hexec htr (own := own) (cls := cls) (names := names) (ic := ic) hown' hcls hnames h (fun x hx => nomatch hx) hfX hkX hcellA (by rw [hhp, hT]; exact Nat.le_refl _)
    (g := { method := m, pc := pc + 4, locals := ls, stack := .ref T.heap.size :: .ref T.heap.size :: rest, locked := none }) rfl hsize rfl rfl (rest := rest) rfl
    (by rw [hb]; exact d4) (by rw [hb]; exact d7) hout hRframes (by simp only [List.map_cons, List.sum_cons, hcat]; omega) hlocks
  obtain ⟨f1, f2⟩ := vx_frame hsame
  rw [hhp] at f1 f2
  have hWs : s.WarmedH U.vm := State.WarmedH.trans hW0 hW
  have hcl : s.vm.findClass cls = some ce.cls := by
    have h9 := hO.cls
    rw [hvm] at h9
    exact h9
  have hall : s.sameButNew ({ U with vm := s.vm } : State) locs mc ms := by
    subst hA
    obtain ⟨e1, e2⟩ := hsame
    rw [State.setFrames_setFrames] at e1
    have h2 : (T.setVm s.vm).sameButNew ({ U with vm := s.vm } : State) [] (0 + 1) (0 + 6) := ⟨e1, e2⟩
    have h3 := X.same.trans h2
    rw [List.append_nil] at h3
    exact h3.mono hc hs
  refine ⟨U, ?_, .threw T.heap.size, hrun, hend, Or.inr ⟨T.heap.size, rfl, cls, ce, locs, hx U hWs.alike f1 (fun q hq => f2 q hq (fun z hz => nomatch hz)), hce, hO.vm, hcl, hWs, hall, hf⟩⟩
  refine st1 _ ?_
  show Steps p.tables e below (T1.setTop { method := m, pc := pc + 3, locals := ls, stack := .ref T.heap.size :: rest, locked := none }) _
  jvm_step X₁.here [X₁.here.top, hexec, d3', Value.category]
  exact hsteps
/-- 'throw new E("text")': new; dup; ldc; invokespecial; athrow -/
theorem vx_throwS {cc : ByteArray} {pc : Nat} (hexec : p.tables.exec = Jvm.exec) (hb : c.code = cc) (hl : l.stackTraces = false) {own cls text : String} {names : List String} {ik is ic mc ms sa : Nat} {A : Nat → Prop}
    (hown : s.vm.findClass own = some m.cls) (hcls : Bundle.fit cls = true) (hnames : ∀ n ∈ names, Bundle.fit n = true)
    (hk : (Cond.classLink own ik cls).before args s = true) (hini : (Cond.initialized cls).before args s = true) (hstr : vk_R own is text sa s) (hat : ∀ w ∈ vx_atS own ic cls names, w.before args s = true)
    (hgood : ∀ w ∈ Cond.classLink own ik cls :: Cond.initialized cls :: vx_atS own ic cls names, vx_ot w = true)
    (hU : vx_Zq Bundle.tN "UNASSIGNED_STACK" Bundle.steD A s s.heap) (hN : vx_Zq Bundle.tN "SUPPRESSED_SENTINEL" Bundle.listD A s s.heap) (hS : va_S A s.heap H locs) (hsize : ls.size = c.maxLocals)
    (d0 : decode cc pc = .ok (.new ik, 3)) (d3 : decode cc (pc + 3) = .ok (.dup, 1)) (d4 : decode cc (pc + 4) = .ok (.ldc is, 2)) (d6 : decode cc (pc + 6) = .ok (.invokespecial ic, 3)) (d9 : decode cc (pc + 9) = .ok (.athrow, 1))
    (hout : ∀ x ∈ c.exceptionTable.toList, covers x (pc + 9) = false)
    (hRframes : names.length + 3 < R.frames) (hRlocals : (rest.map fun v => v.category).sum + (13 * (names.length + 1) + 43) ≤ R.locals) (hRcells : cells + 1 ≤ R.cells) (hRslots : slots + 6 ≤ R.slots) (hlocks : meth.locks = false)
    (hx : ∀ t : State, s.vm.Alike t.vm → H.size ≤ t.heap.size → (∀ q : Nat, q < H.size → t.heap[q]? = H[q]?) → XC cls s t)
    (hf : ∀ z ∈ locs, free z.base) (hc : cells + 1 ≤ mc) (hs : slots + 6 ≤ ms) :
    W p l e R s m args below meth c H locs cells slots (vx_MQ below Qc XC args s mc ms free) (F0 m pc ls rest) := by
  intro T hT X
  have htr : e.platform.stackTraces = false := (show e.platform.stackTraces = l.stackTraces by rw [X.admits.platform]).trans hl
  have Y := vx_rebase X (R' := { frames := R.frames, locals := R.locals, cells := 1, slots := 6 }) (Nat.le_refl _) (Nat.le_refl _) hRcells hRslots
  obtain ⟨s', hA⟩ : ∃ z, z = (T.setVm s.vm).setFrames (.invoking m args :: below) := ⟨_, rfl⟩
  rw [← hA] at Y
  have hvm : s'.vm = s.vm := by rw [hA]; rfl
  have hhp : s'.heap = H := by rw [hA]; exact hT
  have hW0 : s.WarmedH s'.vm := by rw [hvm]; exact State.WarmedH.refl s
  have hat' : ∀ w ∈ vx_atS own ic cls names, w.before args s' = true := fun w hw => vx_ot_at hW0 hvm.symm (hgood w (List.mem_cons_of_mem _ (List.mem_cons_of_mem _ hw))) (hat w hw)
  have hk' : (Cond.classLink own ik cls).before args s' = true := vx_ot_at hW0 hvm.symm (hgood _ List.mem_cons_self) hk
  have hini' : (Cond.initialized cls).before args s' = true := vx_ot_at hW0 hvm.symm (hgood _ (List.mem_cons_of_mem _ List.mem_cons_self)) hini
  have hU' : vx_Zq Bundle.tN "UNASSIGNED_STACK" Bundle.steD A s' s'.heap := by rw [hhp]; exact vx_Zq.moved hW0.alike (hU.kept hS.2.1)
  have hN' : vx_Zq Bundle.tN "SUPPRESSED_SENTINEL" Bundle.listD A s' s'.heap := by rw [hhp]; exact vx_Zq.moved hW0.alike (hN.kept hS.2.1)
  have h : ∀ w ∈ Bundle.ownAtoms own ic cls names, w.before args s' = true := vx_own hat' (vx_isRefq hU'.1) (vx_isRefq hN'.1) hU'.2.word hN'.2.word
  have hown' : s'.vm.findClass own = some m.cls := by rw [hvm]; exact hown
  have hins : (Cond.instantiable cls 6).before args s' = true := h _ (by simp [Bundle.ownAtoms])
  obtain ⟨vm₁, cX, kX, hfX, hkX, -, -, X₁, st1⟩ := Y.newCold hexec (own := own) (C := cls) (index := ik) (n := 6) hown' hk' hins hini'
    (g := F0 m pc ls rest) rfl (by rw [hb]; exact d0) (Nat.le_refl _) (Nat.le_refl _)
  generalize hT1 : (T.setVm vm₁).pushCell { cls := cX, slots := kX.instanceTypes.map defaultValue, vm := .none } = T1 at X₁ st1
  have hcat : (Value.ref T.heap.size).category = 1 := rfl
  have hcellA : T1.heap[T.heap.size]? = some (freshCell cX kX) := by rw [← hT1]; exact State.heap_pushCell_size _ _
  have d3' : decode c.code (pc + 3) = .ok (.dup, 1) := by rw [hb]; exact d3
  have d4' : decode c.code (pc + 4) = .ok (.ldc is, 2) := by rw [hb]; exact d4
  have hstr' : vk_R own is text sa s' := vk_R.warm hW0 hstr
  obtain ⟨U, hsteps, hrun, hend, hW, hsame, ce, hce, hO⟩ := X₁.ctorThrowS hexec htr (own := own) (cls := cls) (names := names) (ic := ic) hown' hcls hnames h (fun x hx => nomatch hx) hfX hkX hcellA (by rw [hhp, hT]; exact Nat.le_refl _) (msg := .ref sa) rfl
    (g := { method := m, pc := pc + 6, locals := ls, stack := .ref sa :: .ref T.heap.size :: .ref T.heap.size :: rest, locked := none }) rfl hsize rfl rfl (rest := rest) rfl
    (by rw [hb]; exact d6) (by rw [hb]; exact d9) hout hRframes (by simp only [List.map_cons, List.sum_cons, hcat]; omega) hlocks
  obtain ⟨f1, f2⟩ := vx_frame hsame
  rw [hhp] at f1 f2
  have hWs : s.WarmedH U.vm := State.WarmedH.trans hW0 hW
  have hcl : s.vm.findClass cls = some ce.cls := by
    have h9 := hO.cls
    rw [hvm] at h9
    exact h9
  have hall : s.sameButNew ({ U with vm := s.vm } : State) locs mc ms := by
    subst hA
    obtain ⟨e1, e2⟩ := hsame
    rw [State.setFrames_setFrames] at e1
    have h2 : (T.setVm s.vm).sameButNew ({ U with vm := s.vm } : State) [] (0 + 1) (0 + 6) := ⟨e1, e2⟩
    have h3 := X.same.trans h2
    rw [List.append_nil] at h3
    exact h3.mono hc hs
  refine ⟨U, ?_, .threw T.heap.size, hrun, hend, Or.inr ⟨T.heap.size, rfl, cls, ce, locs, hx U hWs.alike f1 (fun q hq => f2 q hq (fun z hz => nomatch hz)), hce, hO.vm, hcl, hWs, hall, hf⟩⟩
  refine st1 _ ?_
  show Steps p.tables e below (T1.setTop { method := m, pc := pc + 3, locals := ls, stack := .ref T.heap.size :: rest, locked := none }) _
  jvm_step X₁.here [X₁.here.top, hexec, d3', Value.category]
  exact X₁.ldcString hexec (own := own) (text := text) (index := is) (a := sa) hown' hstr'.1 hstr'.2
    (g := { method := m, pc := pc + 4, locals := ls, stack := .ref T.heap.size :: .ref T.heap.size :: rest, locked := none }) rfl d4' _ hsteps
/-- 'throw new E("text")', the text by a wide index -/
theorem vx_throwSW {cc : ByteArray} {pc : Nat} (hexec : p.tables.exec = Jvm.exec) (hb : c.code = cc) (hl : l.stackTraces = false) {own cls text : String} {names : List String} {ik is ic mc ms sa : Nat} {A : Nat → Prop}
    (hown : s.vm.findClass own = some m.cls) (hcls : Bundle.fit cls = true) (hnames : ∀ n ∈ names, Bundle.fit n = true)
    (hk : (Cond.classLink own ik cls).before args s = true) (hini : (Cond.initialized cls).before args s = true) (hstr : vk_R own is text sa s) (hat : ∀ w ∈ vx_atS own ic cls names, w.before args s = true)
    (hgood : ∀ w ∈ Cond.classLink own ik cls :: Cond.initialized cls :: vx_atS own ic cls names, vx_ot w = true)
    (hU : vx_Zq Bundle.tN "UNASSIGNED_STACK" Bundle.steD A s s.heap) (hN : vx_Zq Bundle.tN "SUPPRESSED_SENTINEL" Bundle.listD A s s.heap) (hS : va_S A s.heap H locs) (hsize : ls.size = c.maxLocals)
    (d0 : decode cc pc = .ok (.new ik, 3)) (d3 : decode cc (pc + 3) = .ok (.dup, 1)) (d4 : decode cc (pc + 4) = .ok (.ldc_w is, 3)) (d7 : decode cc (pc + 7) = .ok (.invokespecial ic, 3)) (d10 : decode cc (pc + 10) = .ok (.athrow, 1))
    (hout : ∀ x ∈ c.exceptionTable.toList, covers x (pc + 10) = false)
    (hRframes : names.length + 3 < R.frames) (hRlocals : (rest.map fun v => v.category).sum + (13 * (names.length + 1) + 43) ≤ R.locals) (hRcells : cells + 1 ≤ R.cells) (hRslots : slots + 6 ≤ R.slots) (hlocks : meth.locks = false)
    (hx : ∀ t : State, s.vm.Alike t.vm → H.size ≤ t.heap.size → (∀ q : Nat, q < H.size → t.heap[q]? = H[q]?) → XC cls s t)
    (hf : ∀ z ∈ locs, free z.base) (hc : cells + 1 ≤ mc) (hs : slots + 6 ≤ ms) :
    W p l e R s m args below meth c H locs cells slots (vx_MQ below Qc XC args s mc ms free) (F0 m pc ls rest) := by
  intro T hT X
  have htr : e.platform.stackTraces = false := (show e.platform.stackTraces = l.stackTraces by rw [X.admits.platform]).trans hl
  have Y := vx_rebase X (R' := { frames := R.frames, locals := R.locals, cells := 1, slots := 6 }) (Nat.le_refl _) (Nat.le_refl _) hRcells hRslots
  obtain ⟨s', hA⟩ : ∃ z, z = (T.setVm s.vm).setFrames (.invoking m args :: below) := ⟨_, rfl⟩
  rw [← hA] at Y
  have hvm : s'.vm = s.vm := by rw [hA]; rfl
  have hhp : s'.heap = H := by rw [hA]; exact hT
  have hW0 : s.WarmedH s'.vm := by rw [hvm]; exact State.WarmedH.refl s
  have hat' : ∀ w ∈ vx_atS own ic cls names, w.before args s' = true := fun w hw => vx_ot_at hW0 hvm.symm (hgood w (List.mem_cons_of_mem _ (List.mem_cons_of_mem _ hw))) (hat w hw)
  have hk' : (Cond.classLink own ik cls).before args s' = true := vx_ot_at hW0 hvm.symm (hgood _ List.mem_cons_self) hk
  have hini' : (Cond.initialized cls).before args s' = true := vx_ot_at hW0 hvm.symm (hgood _ (List.mem_cons_of_mem _ List.mem_cons_self)) hini
  have hU' : vx_Zq Bundle.tN "UNASSIGNED_STACK" Bundle.steD A s' s'.heap := by rw [hhp]; exact vx_Zq.moved hW0.alike (hU.kept hS.2.1)
  have hN' : vx_Zq Bundle.tN "SUPPRESSED_SENTINEL" Bundle.listD A s' s'.heap := by rw [hhp]; exact vx_Zq.moved hW0.alike (hN.kept hS.2.1)
  have h : ∀ w ∈ Bundle.ownAtoms own ic cls names, w.before args s' = true := vx_own hat' (vx_isRefq hU'.1) (vx_isRefq hN'.1) hU'.2.word hN'.2.word
  have hown' : s'.vm.findClass own = some m.cls := by rw [hvm]; exact hown
  have hins : (Cond.instantiable cls 6).before args s' = true := h _ (by simp [Bundle.ownAtoms])
  obtain ⟨vm₁, cX, kX, hfX, hkX, -, -, X₁, st1⟩ := Y.newCold hexec (own := own) (C := cls) (index := ik) (n := 6) hown' hk' hins hini'
    (g := F0 m pc ls rest) rfl (by rw [hb]; exact d0) (Nat.le_refl _) (Nat.le_refl _)
  generalize hT1 : (T.setVm vm₁).pushCell { cls := cX, slots := kX.instanceTypes.map defaultValue, vm := .none } = T1 at X₁ st1
  have hcat : (Value.ref T.heap.size).category = 1 := rfl
  have hcellA : T1.heap[T.heap.size]? = some (freshCell cX kX) := by rw [← hT1]; exact State.heap_pushCell_size _ _
  have d3' : decode c.code (pc + 3) = .ok (.dup, 1) := by rw [hb]; exact d3
  have d4' : decode c.code (pc + 4) = .ok (.ldc_w is, 3) := by rw [hb]; exact d4
  have hstr' : vk_R own is text sa s' := vk_R.warm hW0 hstr
  obtain ⟨U, hsteps, hrun, hend, hW, hsame, ce, hce, hO⟩ := X₁.ctorThrowS hexec htr (own := own) (cls := cls) (names := names) (ic := ic) hown' hcls hnames h (fun x hx => nomatch hx) hfX hkX hcellA (by rw [hhp, hT]; exact Nat.le_refl _) (msg := .ref sa) rfl
    (g := { method := m, pc := pc + 7, locals := ls, stack := .ref sa :: .ref T.heap.size :: .ref T.heap.size :: rest, locked := none }) rfl hsize rfl rfl (rest := rest) rfl
    (by rw [hb]; exact d7) (by rw [hb]; exact d10) hout hRframes (by simp only [List.map_cons, List.sum_cons, hcat]; omega) hlocks
  obtain ⟨f1, f2⟩ := vx_frame hsame
  rw [hhp] at f1 f2
  have hWs : s.WarmedH U.vm := State.WarmedH.trans hW0 hW
  have hcl : s.vm.findClass cls = some ce.cls := by
    have h9 := hO.cls
    rw [hvm] at h9
    exact h9
  have hall : s.sameButNew ({ U with vm := s.vm } : State) locs mc ms := by
    subst hA
    obtain ⟨e1, e2⟩ := hsame
    rw [State.setFrames_setFrames] at e1
    have h2 : (T.setVm s.vm).sameButNew ({ U with vm := s.vm } : State) [] (0 + 1) (0 + 6) := ⟨e1, e2⟩
    have h3 := X.same.trans h2
    rw [List.append_nil] at h3
    exact h3.mono hc hs
  refine ⟨U, ?_, .threw T.heap.size, hrun, hend, Or.inr ⟨T.heap.size, rfl, cls, ce, locs, hx U hWs.alike f1 (fun q hq => f2 q hq (fun z hz => nomatch hz)), hce, hO.vm, hcl, hWs, hall, hf⟩⟩
  refine st1 _ ?_
  show Steps p.tables e below (T1.setTop { method := m, pc := pc + 3, locals := ls, stack := .ref T.heap.size :: rest, locked := none }) _
  jvm_step X₁.here [X₁.here.top, hexec, d3', Value.category]
  exact X₁.ldcStringW hexec (own := own) (text := text) (index := is) (a := sa) hown' hstr'.1 hstr'.2
    (g := { method := m, pc := pc + 4, locals := ls, stack := .ref T.heap.size :: .ref T.heap.size :: rest, locked := none }) rfl d4' _ hsteps
end Ends
section Bodies
variable {l : Launch}
theorem vx_ofW {y : MethodName} {ws ws' : List Cond} {rm : Room} {Pc : Array Value → State → Prop} {Qc : Array Value → State → Outcome → State → Prop} {XC : String → State → State → Prop} {mc ms : Nat} {free : Addr → Prop} {cc : ByteArray} {maxL : Nat} {ret : Option FieldType}
    (hy : plainName y.cls = true) (hw : ws = Cond.code y cc maxL ret :: ws')
    (body : ∀ p e s m args below meth c s₁, BodyLoose p l y (headSpec ws rm) cc maxL ret e s m args below meth c s₁ → c.maxLocals = maxL → (∀ x ∈ c.exceptionTable.toList, False) → Pc args s →
      W p l e (headSpec ws rm).room s m args below meth c s.heap [] 0 0 (vx_MQ below Qc XC args s mc ms free) (entryFrame m args maxL)) : vx_Met l y ws rm Pc Qc XC mc ms free := by
  refine MetFree.of_bodyS (code := cc) (maxLocals := maxL) (ret := ret) hy ?_ ?_
  · intro args s m h hn
    obtain ⟨meth, c, h1, h2, h3, h4, h5, h6, -, -⟩ := Cond.code_spec hn (atoms_spec (ws := ws) h _ (by rw [hw]; exact List.mem_cons_self))
    exact ⟨meth, c, h1, h2, h3, h4, h5, h6⟩
  · intro p e s m args below meth c s₁ B hml hP _
    have hh0 : s₁.heap = s.heap := by rw [B.state]; rfl
    have ht : ∀ x ∈ c.exceptionTable.toList, False := by
      obtain ⟨meth9, c9, h1, h2, -, -, -, -, h7, -⟩ := Cond.code_spec B.named (atoms_spec (ws := ws) B.pre _ (by rw [hw]; exact List.mem_cons_self))
      cases Option.some.inj (h1.symm.trans B.method)
      cases Option.some.inj (h2.symm.trans (Stand.of_body B).code)
      intro x hx
      rw [Array.isEmpty_iff.mp h7] at hx
      cases hx
    obtain ⟨t, a1, o, b1, b2, b3⟩ := body p e s m args below meth c s₁ B hml ht hP s₁ hh0 (Stand.of_body B)
    exact ⟨t, o, a1, b1, b2, b3⟩
/-- the table of a body with handlers -/
theorem vx_table {p : Program} {x y : MethodName} {S : Spec} {cc bytes : ByteArray} {maxL maxL' : Nat} {ret ret' : Option FieldType} {e : Env} {s s₁ : State} {m : MethodId} {args : Array Value} {below : List Frame} {meth : Method} {c : Code} {hh : List (Nat × Nat × Nat × Nat)}
    (B : BodyLoose p l y S cc maxL ret e s m args below meth c s₁) (h : (Cond.codeWith y bytes maxL' ret' hh).before args s = true) : c.exceptionTable.toList = tableOf hh := by
  obtain ⟨m9, meth9, c9, hn9, h1, h2, -, -, h6, -⟩ := Cond.codeWith_spec h
  cases Option.some.inj (hn9.symm.trans B.named)
  cases Option.some.inj (h1.symm.trans B.method)
  cases Option.some.inj (h2.symm.trans (Stand.of_body B).code)
  rw [← h6, table_eq]
end Bodies
end VXA
/-! ===== END ===== -/
/-! ===== BEGIN a static call of a method with an exception table ===== -/
section VXS
variable {p : Program} {l : Launch} {e : Env} {R : Room} {s : State} {m : MethodId} {args : Array Value} {below : List Frame} {meth : Method} {c : Code} {T : State} {H : Heap} {locs : List Loc} {cells slots : Nat}
abbrev vx_CSW (R : Room) (s : State) (args : Array Value) (own : String) (index : Nat) (y : MethodName) (bytes : ByteArray) (maxL : Nat) (ret : Option FieldType) (hh : List (Nat × Nat × Nat × Nat)) (ws : List Cond) (rm : Room) (mc ms n : Nat) : Prop :=
  (rm.cells = mc ∧ rm.slots = ms ∧ rm.frames + 1 ≤ R.frames ∧ 8 + (maxL + 11) + rm.locals ≤ R.locals ∧ (∀ w ∈ ws, ∀ (a' : Array Value) (U : State), s.WarmedH U.vm → w.before a' U = true) ∧ Cond.codeWith y bytes maxL ret hh ∈ ws) ∧
  (Cond.codeWith y bytes maxL ret hh).before args s = true ∧ (Cond.initialized y.cls).before args s = true ∧ (y.cls ≠ "java/lang/invoke/MethodHandle" ∧ y.cls ≠ "java/lang/invoke/VarHandle") ∧
  (∀ sig, parseMethodDescriptor y.desc = some sig → n = sig.parameters.length) ∧ (Cond.methodLink own index y).before args s = true ∧ (Cond.static y).before args s = true
theorem vx_cwSW {own : String} {index maxL mc ms : Nat} {y : MethodName} {bytes : ByteArray} {ret : Option FieldType} {hh : List (Nat × Nat × Nat × Nat)} {Ts ws ws' : List Cond} {rm : Room} (n : Nat) (ht : ∀ w ∈ Ts, w.before args s = true) (hT : GoodIn Ts (va_wsS own index y ws)) (hw : ws = Cond.codeWith y bytes maxL ret hh :: ws') (hrc : rm.cells = mc) (hrs : rm.slots = ms)
    (hd : y.cls ≠ "java/lang/invoke/MethodHandle" ∧ y.cls ≠ "java/lang/invoke/VarHandle" ∧ (parseMethodDescriptor y.desc).map (fun d => d.parameters.length) = some n) (hR : rm.frames + 1 ≤ R.frames ∧ 8 + (maxL + 11) + rm.locals ≤ R.locals) :
    vx_CSW R s args own index y bytes maxL ret hh ws rm mc ms n := by
  have ok : ∀ w ∈ va_wsS own index y ws, w.before args s = true := fun w h => ht w (hT w h).1
  have hG : GoodIn Ts ws := fun w h => hT w (by unfold va_wsS; exact List.mem_append_right _ h)
  have hc : Cond.codeWith y bytes maxL ret hh ∈ ws := by rw [hw]; exact List.mem_cons_self
  refine ⟨⟨hrc, hrs, hR.1, hR.2, pay_in ht hG, hc⟩, ht _ (hG _ hc).1, ok _ (by simp [va_wsS]), ⟨hd.1, hd.2.1⟩, fun sig h => ?_, ok _ (by simp [va_wsS]), ok _ (by simp [va_wsS])⟩
  have h2 := hd.2.2
  rw [h] at h2
  exact (Option.some.inj h2).symm
theorem vx_callSW (X : Stand p l e R s m args below meth c T locs cells slots) (hexec : p.tables.exec = Jvm.exec) {own : String} {index : Nat} {y : MethodName} {bytes : ByteArray} {maxL : Nat} {ret : Option FieldType} {hh : List (Nat × Nat × Nat × Nat)}
    (hown : s.vm.findClass own = some m.cls) (hlink : (Cond.methodLink own index y).before args s = true) (hstat : (Cond.static y).before args s = true) (hinit : (Cond.initialized y.cls).before args s = true)
    (hcode : (Cond.codeWith y bytes maxL ret hh).before args s = true) (hy : y.cls ≠ "java/lang/invoke/MethodHandle" ∧ y.cls ≠ "java/lang/invoke/VarHandle")
    {W9 : Nat} {Pre : Pt → Array Value → Prop} {Post : Pt → Array Value → Option Value → Pt → Prop} (hK : Back l R p e below s args y 3 W9 Pre Post)
    {g : JFrame} (hg : g.method = m) (hsize : g.locals.size = c.maxLocals) {argsL rest : List Value} (hlen : ∀ sig, parseMethodDescriptor y.desc = some sig → argsL.length = sig.parameters.length)
    (hstack : g.stack = argsL.reverse ++ rest) (hW : 2 * g.monitorRoom + (rest.map fun v => v.category).sum ≤ W9) (hdg : decode c.code g.pc = .ok (.invokestatic index, 3))
    (hpre : ∀ vm₁, s.WarmedH vm₁ → Pre ⟨T.setVm vm₁, locs, cells, slots⟩ argsL.toArray) :
    ∃ (v : Option Value) (vm₁ : Vm) (B : Pt), s.WarmedH vm₁ ∧ Stand p l e R s m args below meth c B.U B.locs B.cells B.slots ∧ Post ⟨T.setVm vm₁, locs, cells, slots⟩ argsL.toArray v B ∧
      ∀ target, Steps p.tables e below (B.U.setTop { g with pc := g.pc + 3, stack := v.toList ++ rest }) target → Steps p.tables e below (T.setTop g) target := by
  obtain ⟨mk, methM, cM, hnamed, hmethM, -, -, -, -, -, -, hsigM⟩ := Cond.codeWith_spec hcode
  have hstatic : methM.isStatic = true := Cond.static_spec hnamed hmethM hstat
  obtain ⟨kP, hkP, -⟩ := className_of_methodNamed hnamed
  have hinitP : kP.init = .initialized := Cond.initialized_spec (findClass_of_methodNamed hnamed) hkP hinit
  obtain ⟨vm₁, X₁, hstep₁⟩ := X.invokestatic hexec hown hlink hnamed hmethM hstatic hkP hinitP hy (g := g) hg (argsL := argsL) (rest := rest) (hlen _ hsigM) hstack hdg
  obtain ⟨v, B, X', hpost, hsteps⟩ := hK m meth c ⟨T.setVm vm₁, locs, cells, slots⟩ { g with stack := rest } (.invokestatic index) mk argsL.toArray X₁ hg hsize hdg hW (X₁.named hnamed) (hpre vm₁ X₁.warmed)
  exact ⟨v, vm₁, B, X₁.warmed, X', hpost, fun target h => hstep₁ _ fun acts => by rw [doInvoke_state]; exact hsteps.trans h⟩
theorem vx_runSW {y : MethodName} {bytes cc : ByteArray} {maxL nL mc ms n index : Nat} {ret : Option FieldType} {hh : List (Nat × Nat × Nat × Nat)} {ws : List Cond} {rm : Room} {Pc : Array Value → State → Prop} {Qc : Array Value → State → Outcome → State → Prop} {free : Addr → Prop} {Ts : List Cond} {own : String} {As rest : List Value} {g : JFrame}
    (S : CallFix p m c cc nL s args Ts own) (hM : Met l y ws rm Pc Qc mc ms free) (cw : vx_CSW R s args own index y bytes maxL ret hh ws rm mc ms n) (hp : PreS s H Pc As)
    (hg : g.method = m) (hn : As.length = n) (hsize : g.locals.size = nL) (hstack : g.stack = As.reverse ++ rest) (hW : 2 * g.monitorRoom + (rest.map fun v => v.category).sum ≤ 8) (hdg : decode cc g.pc = .ok (.invokestatic index, 3)) (hf : cells + mc ≤ R.cells ∧ slots + ms ≤ R.slots) :
    va_Run p l e R s m args below meth c H locs cells slots mc ms g rest (Qc As.toArray) (free) := by
  obtain ⟨⟨hrc, hrs, hfr, hlo, hws, hcw⟩, hcode, hini, hy, hlen, hl, hstt⟩ := cw
  have hK : Back l R p e below s args y 3 8 (PreOf R mc ms Pc) (PostOf Qc mc ms free) := va_backW (hh := hh) (bytes := bytes) (maxL := maxL) (ret := ret) hM hp.1 hrc hrs hfr hlo hws hcw (fun a' U hW => word_at hW (Or.inl (by first | rfl | simp [Cond.onTables, Cond.keeps, Cond.steady])) hini)
  obtain ⟨hx, hb, hml, ho, -⟩ := S
  intro T hT X
  obtain ⟨v, vm₁, ⟨U', l2, c2, s2⟩, hW₁, X', ⟨g', mk, t, L, e1, e2, hq, h1, hL, h2, h3⟩, st⟩ := vx_callSW X hx (hh := hh) (bytes := bytes) (maxL := maxL) (ret := ret) ho hl hstt hini hcode hy hK hg (hsize.trans hml.symm) (argsL := As) (rest := rest) (fun sig h => hn.trans (hlen sig h)) hstack hW (by rw [hb]; exact hdg)
    (fun vm₁ hW₁ => ⟨hf.1, hf.2, hp.2 (T.setVm vm₁) hT hW₁⟩)
  dsimp only [Pt.U, Pt.locs, Pt.cells, Pt.slots] at X' e1 e2 h1 h2 h3 st
  subst h1; subst h2; subst h3
  exact ⟨v, (T.setVm vm₁).calling g' mk As.toArray, t, U', L, hT, X', hL, e1, e2, hq, st⟩
/-- not caught here, past rows that name other classes: it goes on to the caller -/
theorem vx_outP {p : Program} {l : Launch} {e : Env} {R : Room} {s : State} {m : MethodId} {args : Array Value} {below : List Frame} {meth : Method} {c : Code} {H : Heap} {locs : List Loc} {cells slots : Nat} {free : Addr → Prop} {ls : Array Slot} {rest : List Value} {Qc : Array Value → State → Outcome → State → Prop} {XC : String → State → State → Prop}
    {pc : Nat} {own E : String} {ce : Cell} {q : Addr} {mc ms : Nat} (hown : s.vm.findClass own = some m.cls) (hlocks : meth.locks = false)
    (hpass : ∀ z ∈ c.exceptionTable.toList, covers z pc = false ∨ (z.catchType ≠ 0 ∧ ∃ nm : String, (Cond.classLink own z.catchType nm).before args s = true ∧ va_Nc E nm s)) (hcell : H[q]? = some ce) (hv : ce.vm = .none) (hcl : s.vm.findClass E = some ce.cls)
    (hx : ∀ t : State, t.heap = H → s.vm.Alike t.vm → XC E s t) (hf : ∀ z ∈ locs, free z.base) (hc : cells ≤ mc) (hs : slots ≤ ms) :
    vx_W p l e R s m args below meth c H locs cells slots (vx_MQ below Qc XC args s mc ms free) (F0 m pc ls rest) q := by
  intro T hT X
  have hpl : e.platform.magicAccessors = ({} : Platform).magicAccessors := by rw [X.admits.platform]
  obtain ⟨vm', hW', X', st⟩ := X.outThrough hlocks q (g := F0 m pc ls rest) rfl rfl rfl (cell := ce) (by rw [hT]; exact hcell) (by rw [hv]; rfl)
    (by obtain ⟨k9, h9, -⟩ := Vm.findClass_spec hcl; exact ⟨k9, h9⟩) (fun z hz => by
      rcases hpass z hz with h | ⟨hz0, nm, hl1, hn1⟩
      · exact Or.inl h
      · obtain ⟨c6, hc6, hcl6⟩ := Cond.classLink_spec hown hl1 e.platform hpl
        obtain ⟨a8, b8, h1, h2, h3⟩ := hn1
        cases Option.some.inj (h1.symm.trans hcl)
        cases Option.some.inj (h2.symm.trans hc6)
        exact Or.inr ⟨hz0, _, hcl6, h3⟩)
  obtain ⟨g₀, hfr⟩ := X'.frames_eq
  have hcell9 : ((T.setVm vm').setFrames (.throwing q :: below)).heap[q]? = some ce := by
    show T.heap[q]? = some ce
    rw [hT]; exact hcell
  have hend : Ended ((T.setVm vm').setFrames (.throwing q :: below)) below (.threw q) := State.frames_setFrames _ (State.cur_lt_of_frames hfr)
  refine ⟨(T.setVm vm').setFrames (.throwing q :: below), ?_, .threw q, X'.here.running, hend, Or.inr ⟨q, rfl, E, ce, locs, hx _ hT (X'.ends _).1.alike, hcell9, hv, hcl, (X'.ends _).1, (X'.ends _).2.mono hc hs, hf⟩⟩
  rw [X.pushThrowing_eq]
  exact st
/-- a thing of a world lies in the heap -/
theorem vx_lt {D : va_G} {cl : List vw_C} {ws : va_W} {H1 : Heap} (h : va_P D cl ws H1) {k : Nat} {q : Nat × va_E} (hk : ws[k]? = some q) : q.1 < H1.size := (h k q hk).lt
end VXS
/-! ===== END ===== -/
/-! ===== BEGIN methods with a table of their own: called by a name, returning or throwing ===== -/
section VXH
/-! vx_backW, vx_callVX, vx_callSX, vx_callVW, vx_runVW, vx_runVX, vx_runSX, vx_ofWH follow the same proofs as their sisters above (Free/Laws.lean, Shelf42/LK1.lean); vx_outP calls Shelf42/NT130.lean (outThrough). -/
section
variable {l : Launch} {R : Room} {p : Program} {e : Env} {below : List Frame} {s : State} {sargs : Array Value} {y : MethodName} {len W9 : Nat}
theorem vx_backW {ws : List Cond} {rm : Room} {Pc : Array Value → State → Prop} {Qc : Array Value → State → Outcome → State → Prop} {XC : String → State → State → Prop} {mc ms : Nat} {free : Addr → Prop} {bytes : ByteArray} {maxL : Nat} {ret : Option FieldType} {hh : List (Nat × Nat × Nat × Nat)}
    (hM : vx_Met l y ws rm Pc Qc XC mc ms free) (hblind : FrameBlind Pc) (hrc : rm.cells = mc) (hrs : rm.slots = ms)
    (hframes : rm.frames + 1 ≤ R.frames) (hlocals : W9 + (maxL + 11) + rm.locals ≤ R.locals)
    (hws : ∀ w ∈ ws, ∀ a' U, s.WarmedH U.vm → w.before a' U = true) (hcode : Cond.codeWith y bytes maxL ret hh ∈ ws) (hinit : ∀ a' U, s.WarmedH U.vm → (Cond.initialized y.cls).before a' U = true) :
    vx_Back l R p e below s sargs y len W9 (PreOf R mc ms Pc) (PostOf Qc mc ms free) (vx_Post XC mc ms free) := by
  intro m meth c A g ig mk a X hg hsize hdg hW hn hp
  have h1 : (headSpec ws rm).pre.before a A.U = true := atoms_intro fun w hw => hws w hw _ _ X.warmed
  have h2 : (Cond.codeWith y bytes maxL ret hh).before a A.U = true := hws _ hcode _ _ X.warmed
  have h3 : (Cond.initialized y.cls).before a A.U = true := hinit _ _ X.warmed
  have h4 : A.cells + (headSpec ws rm).room.cells ≤ R.cells := by rw [show (headSpec ws rm).room.cells = mc from hrc]; exact hp.1
  have h5 : A.slots + (headSpec ws rm).room.slots ≤ R.slots := by rw [show (headSpec ws rm).room.slots = ms from hrs]; exact hp.2.1
  have hPc : Pc a (A.U.calling g mk a) := hblind _ _ _ _ hp.2.2
  obtain ⟨U, Ls, c0, s0⟩ := A
  dsimp only [Pt.U, Pt.locs, Pt.cells, Pt.slots] at h1 h2 h3 h4 h5 X hn hPc ⊢
  obtain ⟨m9, methY, cY, hn9, hmY, hcY, -, hlY, -⟩ := Cond.codeWith_spec h2
  cases Option.some.inj (hn9.symm.trans hn)
  obtain ⟨kY, hkY, -⟩ := className_of_methodNamed hn
  have hinitY : kY.init = .initialized := Cond.initialized_spec (findClass_of_methodNamed hn) hkY h3
  have h : At U g.method c below := by rw [hg]; exact X.here
  have hlocals9 : W9 + (maxL + 11) + (headSpec ws rm).room.locals ≤ R.locals := hlocals
  have happ : (headSpec ws rm).appliesLoose y e.platform (U.calling g mk a) = true :=
    Spec.appliesLoose_calling (g := g) h hdg hn hkY hinitY
      (X.room_calling (g := g) (R' := (headSpec ws rm).room) hsize hmY hcY hframes (by rw [hlY]; omega) h4 h5) h1
  obtain ⟨mid, hmid⟩ := h.above
  have hfr : (U.setTop g).frames = (.java g :: mid) ++ below := by rw [State.frames_setTop' g h.top, hmid]; rfl
  obtain ⟨o, s₂, hsteps, -, hend, hq⟩ := Steps.callFree hM p X.admits X.cas X.clock (acts := []) hfr happ hPc trivial
  have hq' : vx_Q Qc XC mc ms free a (U.calling g mk a) o s₂ := hq
  rw [State.frames_setTop' g h.top] at hend
  obtain ⟨g₀, hg0⟩ := Option.isSome_iff_exists.mp h.top
  obtain ⟨r, hr⟩ := State.topJava?_eq_some.mp hg0
  have hr' : (({ U with heap := s₂.heap, slotsUsed := s₂.slotsUsed } : State).setVm s₂.vm).frames = .java g₀ :: r := hr
  rcases hq' with ⟨hqc, L, hfe, hL⟩ | ⟨q, rfl, E, ce, L, hx, hce, hcv, hcl, hW₂, hsm, hL⟩
  · obtain ⟨⟨v, rfl⟩, hW₂, e2, q2, q3, q4, q5, q6⟩ := id hfe
    have e3 : s₂ = ({ (U.calling g mk a).setFrames s₂.frames with heap := s₂.heap, slotsUsed := s₂.slotsUsed } : State).setVm s₂.vm := by
      have : s₂ = ({ s₂ with vm := (U.calling g mk a).vm } : State).setVm s₂.vm := rfl
      rw [e2] at this
      exact this
    obtain ⟨c₂, i₂, len₂, hc₂, hd₂, hf₂⟩ := hend
    have hW' : U.WarmedH s₂.vm := hW₂
    have hcc : c₂ = c := by
      have h1 : s₂.code? g.method = U.code? g.method := by
        rw [State.code?_eq, State.code?_eq, hW'.alike.method?]
      exact Option.some.inj (hc₂.symm.trans (h1.trans h.code))
    subst hcc
    have hlen : len₂ = len := by rw [hdg] at hd₂; cases hd₂; rfl
    subst hlen
    have hs₂ : s₂ = (({ U with heap := s₂.heap, slotsUsed := s₂.slotsUsed } : State).setVm s₂.vm).setTop { g with pc := g.pc + len₂, stack := v.toList ++ g.stack } := by
      refine e3.trans ?_
      rw [hf₂, State.calling_eq h.top, State.setFrames_setFrames, State.setTop_of_frames _ hr', hr]
      rfl
    have hsame : U.sameButNew ({ U with heap := s₂.heap, slotsUsed := s₂.slotsUsed } : State) L mc ms := by
      refine ⟨?_, q2, q3, q4, q5, q6⟩
      obtain ⟨t, ht, -⟩ := State.frames_cons hr
      show ({ U with heap := s₂.heap, slotsUsed := s₂.slotsUsed } : State) = { U.setFrames U.frames with heap := s₂.heap, slotsUsed := s₂.slotsUsed }
      rw [State.setFrames_self ht]
    subst hg
    refine Or.inl ⟨v, ⟨(({ U with heap := s₂.heap, slotsUsed := s₂.slotsUsed } : State).setVm s₂.vm), Ls ++ L, c0 + mc, s0 + ms⟩,
      ⟨X.admits, X.cas, X.clock, X.frames, X.room, X.hears, X.method, X.code, (X.here.setHeapUsed s₂.heap s₂.slotsUsed).setVm hW'.alike, X.tail, State.WarmedH.trans X.warmed hW', X.limits, X.bytes, X.same.trans (hsame.setVm s.vm)⟩,
      ⟨g, mk, s₂, L, rfl, rfl, hqc, rfl, hL, rfl, rfl⟩, ?_⟩
    show Steps p.tables e below _ ((({ U with heap := s₂.heap, slotsUsed := s₂.slotsUsed } : State).setVm s₂.vm).setTop { g with pc := g.pc + len₂, stack := v.toList ++ g.stack })
    rw [← hs₂]
    exact hsteps
  · obtain ⟨e2, q2, q3, q4, q5, q6⟩ := id hsm
    have e3 : s₂ = ({ (U.calling g mk a).setFrames s₂.frames with heap := s₂.heap, slotsUsed := s₂.slotsUsed } : State).setVm s₂.vm := by
      have : s₂ = ({ s₂ with vm := (U.calling g mk a).vm } : State).setVm s₂.vm := rfl
      rw [e2] at this
      exact this
    have hf₂ : s₂.frames = .throwing q :: .java g :: U.frames.tail := hend
    have hW' : U.WarmedH s₂.vm := hW₂
    have hs₂ : s₂ = ((({ U with heap := s₂.heap, slotsUsed := s₂.slotsUsed } : State).setVm s₂.vm).setTop g).pushFrame (.throwing q) := by
      refine e3.trans ?_
      rw [hf₂, State.calling_eq h.top, State.setFrames_setFrames, State.pushFrame, State.frames_setTop _ hr', State.setTop_of_frames _ hr', State.setFrames_setFrames, hr]
      rfl
    have hsame : U.sameButNew ({ U with heap := s₂.heap, slotsUsed := s₂.slotsUsed } : State) L mc ms := by
      refine ⟨?_, q2, q3, q4, q5, q6⟩
      obtain ⟨t, ht, -⟩ := State.frames_cons hr
      show ({ U with heap := s₂.heap, slotsUsed := s₂.slotsUsed } : State) = { U.setFrames U.frames with heap := s₂.heap, slotsUsed := s₂.slotsUsed }
      rw [State.setFrames_self ht]
    subst hg
    refine Or.inr ⟨q, ⟨(({ U with heap := s₂.heap, slotsUsed := s₂.slotsUsed } : State).setVm s₂.vm), Ls ++ L, c0 + mc, s0 + ms⟩,
      ⟨X.admits, X.cas, X.clock, X.frames, X.room, X.hears, X.method, X.code, (X.here.setHeapUsed s₂.heap s₂.slotsUsed).setVm hW'.alike, X.tail, State.WarmedH.trans X.warmed hW', X.limits, X.bytes, X.same.trans (hsame.setVm s.vm)⟩,
      ⟨g, mk, s₂, L, E, ce, rfl, rfl, hx, hce, hcv, hcl, rfl, hL, rfl, rfl⟩, ?_⟩
    show Steps p.tables e below _ (((({ U with heap := s₂.heap, slotsUsed := s₂.slotsUsed } : State).setVm s₂.vm).setTop g).pushFrame (.throwing q))
    rw [← hs₂]
    exact hsteps
end
variable {p : Program} {l : Launch} {e : Env} {R : Room} {s : State} {m : MethodId} {args : Array Value} {below : List Frame} {meth : Method} {c : Code} {T : State} {H : Heap} {locs : List Loc} {cells slots : Nat}
theorem vx_callVX (X : Stand p l e R s m args below meth c T locs cells slots) (hexec : p.tables.exec = Jvm.exec) {own C : String} {index : Nat} {y : MethodName} {bytes : ByteArray} {maxL : Nat} {ret : Option FieldType} {hh : List (Nat × Nat × Nat × Nat)}
    (hown : s.vm.findClass own = some m.cls) (hlink : (Cond.methodLink own index y).before args s = true) (hinst : (Cond.instanceMethod y).before args s = true) (hsel : (Cond.selects C y y).before args s = true)
    (hcode : (Cond.codeWith y bytes maxL ret hh).before args s = true) (hy : y.cls ≠ "java/lang/invoke/MethodHandle" ∧ y.cls ≠ "java/lang/invoke/VarHandle")
    {W9 : Nat} {Pre : Pt → Array Value → Prop} {Post : Pt → Array Value → Option Value → Pt → Prop} {PostX : Pt → Array Value → Addr → Pt → Prop} (hK : vx_Back l R p e below s args y 3 W9 Pre Post PostX)
    {b : Addr} {cellB : Cell} (hcell : T.heap[b]? = some cellB) (hobj : cellB.vm.isStatics = false) (hcls : s.vm.findClass C = some cellB.cls)
    {g : JFrame} (hg : g.method = m) (hsize : g.locals.size = c.maxLocals) {argsL rest : List Value} (hlen : ∀ sig, parseMethodDescriptor y.desc = some sig → argsL.length = sig.parameters.length)
    (hstack : g.stack = argsL.reverse ++ .ref b :: rest) (hW : 2 * g.monitorRoom + (rest.map fun v => v.category).sum ≤ W9) (hdg : decode c.code g.pc = .ok (.invokevirtual index, 3))
    (hpre : ∀ vm₁, s.WarmedH vm₁ → Pre ⟨T.setVm vm₁, locs, cells, slots⟩ (Value.ref b :: argsL).toArray) :
    (∃ (v : Option Value) (vm₁ : Vm) (B : Pt), s.WarmedH vm₁ ∧ Stand p l e R s m args below meth c B.U B.locs B.cells B.slots ∧ Post ⟨T.setVm vm₁, locs, cells, slots⟩ (Value.ref b :: argsL).toArray v B ∧
      ∀ target, Steps p.tables e below (B.U.setTop { g with pc := g.pc + 3, stack := v.toList ++ rest }) target → Steps p.tables e below (T.setTop g) target) ∨
    (∃ (q : Addr) (vm₁ : Vm) (B : Pt), s.WarmedH vm₁ ∧ Stand p l e R s m args below meth c B.U B.locs B.cells B.slots ∧ PostX ⟨T.setVm vm₁, locs, cells, slots⟩ (Value.ref b :: argsL).toArray q B ∧
      Steps p.tables e below (T.setTop g) ((B.U.setTop { g with stack := rest }).pushFrame (.throwing q))) := by
  obtain ⟨mk, methM, hnamed, hmethM, hstM, habM⟩ := Cond.instanceMethod_spec hinst
  obtain ⟨m8, methM', cM, hn8, hmethM', -, -, -, -, -, -, hsigM⟩ := Cond.codeWith_spec hcode
  cases Option.some.inj (hn8.symm.trans hnamed)
  cases hmethM.symm.trans hmethM'
  obtain ⟨c2, r2, m2, q1, q2, q3, q4, kP, hkP, hkPi⟩ := Cond.selects_spec hsel
  cases hcls.symm.trans q1
  cases (State.methodFound?_of_named hnamed hy).symm.trans q2
  cases hnamed.symm.trans q3
  have hselP : selectMethod e.platform s.vm cellB.cls mk = .method mk := by rw [Launch.admits_selectMethod X.admits]; exact q4
  obtain ⟨vm₁, X₁, hstep₁⟩ := X.invokevirtual hexec hown hlink hnamed hmethM hstM hkP hkPi hy (a := b) (cell := cellB) hcell
    (fun z h => by rw [h] at hobj; cases hobj) hselP hmethM habM hkP hkPi (g := g) hg (argsL := argsL) (rest := rest) (hlen _ hsigM) hstack hdg
  rcases hK m meth c ⟨T.setVm vm₁, locs, cells, slots⟩ { g with stack := rest } (.invokevirtual index) mk (Value.ref b :: argsL).toArray X₁ hg hsize hdg hW (X₁.named hnamed) (hpre vm₁ X₁.warmed) with ⟨v, B, X', hpost, hsteps⟩ | ⟨q, B, X', hpost, hsteps⟩
  · exact Or.inl ⟨v, vm₁, B, X₁.warmed, X', hpost, fun target h => hstep₁ _ fun acts => by rw [doInvoke_state]; exact hsteps.trans h⟩
  · exact Or.inr ⟨q, vm₁, B, X₁.warmed, X', hpost, hstep₁ _ fun acts => by rw [doInvoke_state]; exact hsteps⟩
theorem vx_callSX (X : Stand p l e R s m args below meth c T locs cells slots) (hexec : p.tables.exec = Jvm.exec) {own : String} {index : Nat} {y : MethodName} {bytes : ByteArray} {maxL : Nat} {ret : Option FieldType} {hh : List (Nat × Nat × Nat × Nat)}
    (hown : s.vm.findClass own = some m.cls) (hlink : (Cond.methodLink own index y).before args s = true) (hstat : (Cond.static y).before args s = true) (hinit : (Cond.initialized y.cls).before args s = true)
    (hcode : (Cond.codeWith y bytes maxL ret hh).before args s = true) (hy : y.cls ≠ "java/lang/invoke/MethodHandle" ∧ y.cls ≠ "java/lang/invoke/VarHandle")
    {W9 : Nat} {Pre : Pt → Array Value → Prop} {Post : Pt → Array Value → Option Value → Pt → Prop} {PostX : Pt → Array Value → Addr → Pt → Prop} (hK : vx_Back l R p e below s args y 3 W9 Pre Post PostX)
    {g : JFrame} (hg : g.method = m) (hsize : g.locals.size = c.maxLocals) {argsL rest : List Value} (hlen : ∀ sig, parseMethodDescriptor y.desc = some sig → argsL.length = sig.parameters.length)
    (hstack : g.stack = argsL.reverse ++ rest) (hW : 2 * g.monitorRoom + (rest.map fun v => v.category).sum ≤ W9) (hdg : decode c.code g.pc = .ok (.invokestatic index, 3))
    (hpre : ∀ vm₁, s.WarmedH vm₁ → Pre ⟨T.setVm vm₁, locs, cells, slots⟩ argsL.toArray) :
    (∃ (v : Option Value) (vm₁ : Vm) (B : Pt), s.WarmedH vm₁ ∧ Stand p l e R s m args below meth c B.U B.locs B.cells B.slots ∧ Post ⟨T.setVm vm₁, locs, cells, slots⟩ argsL.toArray v B ∧
      ∀ target, Steps p.tables e below (B.U.setTop { g with pc := g.pc + 3, stack := v.toList ++ rest }) target → Steps p.tables e below (T.setTop g) target) ∨
    (∃ (q : Addr) (vm₁ : Vm) (B : Pt), s.WarmedH vm₁ ∧ Stand p l e R s m args below meth c B.U B.locs B.cells B.slots ∧ PostX ⟨T.setVm vm₁, locs, cells, slots⟩ argsL.toArray q B ∧
      Steps p.tables e below (T.setTop g) ((B.U.setTop { g with stack := rest }).pushFrame (.throwing q))) := by
  obtain ⟨mk, methM, cM, hnamed, hmethM, -, -, -, -, -, -, hsigM⟩ := Cond.codeWith_spec hcode
  have hstatic : methM.isStatic = true := Cond.static_spec hnamed hmethM hstat
  obtain ⟨kP, hkP, -⟩ := className_of_methodNamed hnamed
  have hinitP : kP.init = .initialized := Cond.initialized_spec (findClass_of_methodNamed hnamed) hkP hinit
  obtain ⟨vm₁, X₁, hstep₁⟩ := X.invokestatic hexec hown hlink hnamed hmethM hstatic hkP hinitP hy (g := g) hg (argsL := argsL) (rest := rest) (hlen _ hsigM) hstack hdg
  rcases hK m meth c ⟨T.setVm vm₁, locs, cells, slots⟩ { g with stack := rest } (.invokestatic index) mk argsL.toArray X₁ hg hsize hdg hW (X₁.named hnamed) (hpre vm₁ X₁.warmed) with ⟨v, B, X', hpost, hsteps⟩ | ⟨q, B, X', hpost, hsteps⟩
  · exact Or.inl ⟨v, vm₁, B, X₁.warmed, X', hpost, fun target h => hstep₁ _ fun acts => by rw [doInvoke_state]; exact hsteps.trans h⟩
  · exact Or.inr ⟨q, vm₁, B, X₁.warmed, X', hpost, hstep₁ _ fun acts => by rw [doInvoke_state]; exact hsteps⟩
theorem vx_callVW (X : Stand p l e R s m args below meth c T locs cells slots) (hexec : p.tables.exec = Jvm.exec) {own C : String} {index : Nat} {y : MethodName} {bytes : ByteArray} {maxL : Nat} {ret : Option FieldType} {hh : List (Nat × Nat × Nat × Nat)}
    (hown : s.vm.findClass own = some m.cls) (hlink : (Cond.methodLink own index y).before args s = true) (hinst : (Cond.instanceMethod y).before args s = true) (hsel : (Cond.selects C y y).before args s = true)
    (hcode : (Cond.codeWith y bytes maxL ret hh).before args s = true) (hy : y.cls ≠ "java/lang/invoke/MethodHandle" ∧ y.cls ≠ "java/lang/invoke/VarHandle")
    {W9 : Nat} {Pre : Pt → Array Value → Prop} {Post : Pt → Array Value → Option Value → Pt → Prop} (hK : Back l R p e below s args y 3 W9 Pre Post)
    {b : Addr} {cellB : Cell} (hcell : T.heap[b]? = some cellB) (hobj : cellB.vm.isStatics = false) (hcls : s.vm.findClass C = some cellB.cls)
    {g : JFrame} (hg : g.method = m) (hsize : g.locals.size = c.maxLocals) {argsL rest : List Value} (hlen : ∀ sig, parseMethodDescriptor y.desc = some sig → argsL.length = sig.parameters.length)
    (hstack : g.stack = argsL.reverse ++ .ref b :: rest) (hW : 2 * g.monitorRoom + (rest.map fun v => v.category).sum ≤ W9) (hdg : decode c.code g.pc = .ok (.invokevirtual index, 3))
    (hpre : ∀ vm₁, s.WarmedH vm₁ → Pre ⟨T.setVm vm₁, locs, cells, slots⟩ (Value.ref b :: argsL).toArray) :
    ∃ (v : Option Value) (vm₁ : Vm) (B : Pt), s.WarmedH vm₁ ∧ Stand p l e R s m args below meth c B.U B.locs B.cells B.slots ∧ Post ⟨T.setVm vm₁, locs, cells, slots⟩ (Value.ref b :: argsL).toArray v B ∧
      ∀ target, Steps p.tables e below (B.U.setTop { g with pc := g.pc + 3, stack := v.toList ++ rest }) target → Steps p.tables e below (T.setTop g) target := by
  obtain ⟨mk, methM, hnamed, hmethM, hstM, habM⟩ := Cond.instanceMethod_spec hinst
  obtain ⟨m8, methM', cM, hn8, hmethM', -, -, -, -, -, -, hsigM⟩ := Cond.codeWith_spec hcode
  cases Option.some.inj (hn8.symm.trans hnamed)
  cases hmethM.symm.trans hmethM'
  obtain ⟨c2, r2, m2, q1, q2, q3, q4, kP, hkP, hkPi⟩ := Cond.selects_spec hsel
  cases hcls.symm.trans q1
  cases (State.methodFound?_of_named hnamed hy).symm.trans q2
  cases hnamed.symm.trans q3
  have hselP : selectMethod e.platform s.vm cellB.cls mk = .method mk := by rw [Launch.admits_selectMethod X.admits]; exact q4
  obtain ⟨vm₁, X₁, hstep₁⟩ := X.invokevirtual hexec hown hlink hnamed hmethM hstM hkP hkPi hy (a := b) (cell := cellB) hcell
    (fun z h => by rw [h] at hobj; cases hobj) hselP hmethM habM hkP hkPi (g := g) hg (argsL := argsL) (rest := rest) (hlen _ hsigM) hstack hdg
  obtain ⟨v, B, X', hpost, hsteps⟩ := hK m meth c ⟨T.setVm vm₁, locs, cells, slots⟩ { g with stack := rest } (.invokevirtual index) mk (Value.ref b :: argsL).toArray X₁ hg hsize hdg hW (X₁.named hnamed) (hpre vm₁ X₁.warmed)
  exact ⟨v, vm₁, B, X₁.warmed, X', hpost, fun target h => hstep₁ _ fun acts => by rw [doInvoke_state]; exact hsteps.trans h⟩
abbrev vx_CVW (R : Room) (s : State) (args : Array Value) (own C : String) (index : Nat) (y : MethodName) (bytes : ByteArray) (maxL : Nat) (ret : Option FieldType) (hh : List (Nat × Nat × Nat × Nat)) (ws : List Cond) (rm : Room) (mc ms n : Nat) : Prop :=
  (rm.cells = mc ∧ rm.slots = ms ∧ rm.frames + 1 ≤ R.frames ∧ 8 + (maxL + 11) + rm.locals ≤ R.locals ∧ (∀ w ∈ ws, ∀ (a' : Array Value) (U : State), s.WarmedH U.vm → w.before a' U = true) ∧ Cond.codeWith y bytes maxL ret hh ∈ ws) ∧
  (Cond.codeWith y bytes maxL ret hh).before args s = true ∧ (Cond.initialized y.cls).before args s = true ∧ (y.cls ≠ "java/lang/invoke/MethodHandle" ∧ y.cls ≠ "java/lang/invoke/VarHandle") ∧
  (∀ sig, parseMethodDescriptor y.desc = some sig → n = sig.parameters.length) ∧ (Cond.methodLink own index y).before args s = true ∧ (Cond.instanceMethod y).before args s = true ∧ (Cond.selects C y y).before args s = true
theorem vx_cwVW {own C : String} {index maxL mc ms : Nat} {y : MethodName} {bytes : ByteArray} {ret : Option FieldType} {hh : List (Nat × Nat × Nat × Nat)} {Ts ws ws' : List Cond} {rm : Room} (n : Nat) (ht : ∀ w ∈ Ts, w.before args s = true) (hT : GoodIn Ts (wsV own index C y ws)) (hw : ws = Cond.codeWith y bytes maxL ret hh :: ws') (hrc : rm.cells = mc) (hrs : rm.slots = ms)
    (hd : y.cls = C ∧ y.cls ≠ "java/lang/invoke/MethodHandle" ∧ y.cls ≠ "java/lang/invoke/VarHandle" ∧ (parseMethodDescriptor y.desc).map (fun d => d.parameters.length) = some n) (hR : rm.frames + 1 ≤ R.frames ∧ 8 + (maxL + 11) + rm.locals ≤ R.locals) :
    vx_CVW R s args own C index y bytes maxL ret hh ws rm mc ms n := by
  obtain ⟨hC, hd⟩ := hd
  subst hC
  have ok : ∀ w ∈ wsV own index y.cls y ws, w.before args s = true := fun w h => ht w (hT w h).1
  have hG : GoodIn Ts ws := fun w h => hT w (by unfold wsV; exact List.mem_append_right _ h)
  have hc : Cond.codeWith y bytes maxL ret hh ∈ ws := by rw [hw]; exact List.mem_cons_self
  refine ⟨⟨hrc, hrs, hR.1, hR.2, pay_in ht hG, hc⟩, ht _ (hG _ hc).1, ok _ (by simp [wsV]), ⟨hd.1, hd.2.1⟩, fun sig h => ?_, ok _ (by simp [wsV]), ok _ (by simp [wsV]), ok _ (by simp [wsV])⟩
  have h2 := hd.2.2
  rw [h] at h2
  exact (Option.some.inj h2).symm
theorem vx_runVW {y : MethodName} {bytes cc : ByteArray} {maxL nL mc ms n index : Nat} {ret : Option FieldType} {hh : List (Nat × Nat × Nat × Nat)} {ws : List Cond} {rm : Room} {Pc : Array Value → State → Prop} {Qc : Array Value → State → Outcome → State → Prop} {free : Addr → Prop} {Ts : List Cond} {own C : String} {b : Addr} {As rest : List Value} {g : JFrame}
    (S : CallFix p m c cc nL s args Ts own) (hM : Met l y ws rm Pc Qc mc ms free) (cw : vx_CVW R s args own C index y bytes maxL ret hh ws rm mc ms n) (hp : PreV s H C b Pc As)
    (hg : g.method = m) (hn : As.length = n) (hsize : g.locals.size = nL) (hstack : g.stack = As.reverse ++ .ref b :: rest) (hW : 2 * g.monitorRoom + (rest.map fun v => v.category).sum ≤ 8) (hdg : decode cc g.pc = .ok (.invokevirtual index, 3)) (hf : cells + mc ≤ R.cells ∧ slots + ms ≤ R.slots) :
    va_Run p l e R s m args below meth c H locs cells slots mc ms g rest (Qc (Value.ref b :: As).toArray) free := by
  obtain ⟨⟨hrc, hrs, hfr, hlo, hws, hcw⟩, hcode, hini, hy, hlen, hl, hin, hse⟩ := cw
  have hK : Back l R p e below s args y 3 8 (PreOf R mc ms Pc) (PostOf Qc mc ms free) := va_backW (hh := hh) (bytes := bytes) (maxL := maxL) (ret := ret) hM hp.1 hrc hrs hfr hlo hws hcw (fun a' U hW => word_at hW (Or.inl (by first | rfl | simp [Cond.onTables, Cond.keeps, Cond.steady])) hini)
  obtain ⟨hx, hb, hml, ho, -⟩ := S
  obtain ⟨-, ⟨cellB, hcB, hoB, hclB⟩, hPc⟩ := hp
  intro T hT X
  obtain ⟨v, vm₁, ⟨U', l2, c2, s2⟩, hW₁, X', ⟨g', mk, t, L, e1, e2, hq, h1, hL, h2, h3⟩, st⟩ := vx_callVW X hx (C := C) (hh := hh) (bytes := bytes) (maxL := maxL) (ret := ret) ho hl hin hse hcode hy hK (by rw [hT]; exact hcB) hoB hclB hg (hsize.trans hml.symm) (argsL := As) (rest := rest) (fun sig h => hn.trans (hlen sig h)) hstack hW (by rw [hb]; exact hdg)
    (fun vm₁ hW₁ => ⟨hf.1, hf.2, hPc (T.setVm vm₁) hT hW₁⟩)
  dsimp only [Pt.U, Pt.locs, Pt.cells, Pt.slots] at X' e1 e2 h1 h2 h3 st
  subst h1; subst h2; subst h3
  exact ⟨v, (T.setVm vm₁).calling g' mk (Value.ref b :: As).toArray, t, U', L, hT, X', hL, e1, e2, hq, st⟩
section
variable {y : MethodName} {bytes cc : ByteArray} {maxL nL mc ms n index : Nat} {ret : Option FieldType} {ws : List Cond} {rm : Room} {Pc : Array Value → State → Prop} {Qc : Array Value → State → Outcome → State → Prop} {XC : String → State → State → Prop} {free : Addr → Prop} {Ts : List Cond} {own C : String} {b : Addr} {As rest : List Value} {g : JFrame}
theorem vx_runVX {hh : List (Nat × Nat × Nat × Nat)} (S : CallFix p m c cc nL s args Ts own) (hM : vx_Met l y ws rm Pc Qc XC mc ms free) (cw : vx_CVW R s args own C index y bytes maxL ret hh ws rm mc ms n) (hp : PreV s H C b Pc As)
    (hg : g.method = m) (hn : As.length = n) (hsize : g.locals.size = nL) (hstack : g.stack = As.reverse ++ .ref b :: rest) (hW : 2 * g.monitorRoom + (rest.map fun v => v.category).sum ≤ 8) (hdg : decode cc g.pc = .ok (.invokevirtual index, 3)) (hf : cells + mc ≤ R.cells ∧ slots + ms ≤ R.slots) :
    vx_Run p l e R s m args below meth c H locs cells slots mc ms g rest (Qc (Value.ref b :: As).toArray) XC free := by
  obtain ⟨⟨hrc, hrs, hfr, hlo, hws, hcw⟩, hcode, hini, hy, hlen, hl, hin, hse⟩ := cw
  have hK : vx_Back l R p e below s args y 3 8 (PreOf R mc ms Pc) (PostOf Qc mc ms free) (vx_Post XC mc ms free) := vx_backW (hh := hh) (bytes := bytes) (maxL := maxL) (ret := ret) hM hp.1 hrc hrs hfr hlo hws hcw (fun a' U hW => word_at hW (Or.inl (by first | rfl | simp [Cond.onTables, Cond.keeps, Cond.steady])) hini)
  obtain ⟨hx, hb, hml, ho, -⟩ := S
  obtain ⟨-, ⟨cellB, hcB, hoB, hclB⟩, hPc⟩ := hp
  intro T hT X
  rcases vx_callVX X hx (C := C) (hh := hh) (bytes := bytes) (maxL := maxL) (ret := ret) ho hl hin hse hcode hy hK (by rw [hT]; exact hcB) hoB hclB hg (hsize.trans hml.symm) (argsL := As) (rest := rest) (fun sig h => hn.trans (hlen sig h)) hstack hW (by rw [hb]; exact hdg)
    (fun vm₁ hW₁ => ⟨hf.1, hf.2, hPc (T.setVm vm₁) hT hW₁⟩) with ⟨v, vm₁, ⟨U', l2, c2, s2⟩, hW₁, X', ⟨g', mk, t, L, e1, e2, hq, h1, hL, h2, h3⟩, st⟩ | ⟨q, vm₁, ⟨U', l2, c2, s2⟩, hW₁, X', ⟨g', mk, t, L, E, ce, e1, e2, hq, hce, hcv, hcl, h1, hL, h2, h3⟩, st⟩
  · dsimp only [Pt.U, Pt.locs, Pt.cells, Pt.slots] at X' e1 e2 h1 h2 h3 st
    subst h1; subst h2; subst h3
    exact Or.inl ⟨v, (T.setVm vm₁).calling g' mk (Value.ref b :: As).toArray, t, U', L, hT, X', hL, e1, e2, hq, st⟩
  · dsimp only [Pt.U, Pt.locs, Pt.cells, Pt.slots] at X' e1 e2 h1 h2 h3 st hcl
    subst h1; subst h2; subst h3
    exact Or.inr ⟨q, (T.setVm vm₁).calling g' mk (Value.ref b :: As).toArray, t, U', L, E, ce, hT, X', hL, e1, e2, hq, hce, hcv, vx_cls hW₁ hcl, st⟩
theorem vx_runSX {hh : List (Nat × Nat × Nat × Nat)} (S : CallFix p m c cc nL s args Ts own) (hM : vx_Met l y ws rm Pc Qc XC mc ms free) (cw : vx_CSW R s args own index y bytes maxL ret hh ws rm mc ms n) (hp : PreS s H Pc As)
    (hg : g.method = m) (hn : As.length = n) (hsize : g.locals.size = nL) (hstack : g.stack = As.reverse ++ rest) (hW : 2 * g.monitorRoom + (rest.map fun v => v.category).sum ≤ 8) (hdg : decode cc g.pc = .ok (.invokestatic index, 3)) (hf : cells + mc ≤ R.cells ∧ slots + ms ≤ R.slots) :
    vx_Run p l e R s m args below meth c H locs cells slots mc ms g rest (Qc As.toArray) XC free := by
  obtain ⟨⟨hrc, hrs, hfr, hlo, hws, hcw⟩, hcode, hini, hy, hlen, hl, hstt⟩ := cw
  have hK : vx_Back l R p e below s args y 3 8 (PreOf R mc ms Pc) (PostOf Qc mc ms free) (vx_Post XC mc ms free) := vx_backW (hh := hh) (bytes := bytes) (maxL := maxL) (ret := ret) hM hp.1 hrc hrs hfr hlo hws hcw (fun a' U hW => word_at hW (Or.inl (by first | rfl | simp [Cond.onTables, Cond.keeps, Cond.steady])) hini)
  obtain ⟨hx, hb, hml, ho, -⟩ := S
  intro T hT X
  rcases vx_callSX X hx (hh := hh) (bytes := bytes) (maxL := maxL) (ret := ret) ho hl hstt hini hcode hy hK hg (hsize.trans hml.symm) (argsL := As) (rest := rest) (fun sig h => hn.trans (hlen sig h)) hstack hW (by rw [hb]; exact hdg)
    (fun vm₁ hW₁ => ⟨hf.1, hf.2, hp.2 (T.setVm vm₁) hT hW₁⟩) with ⟨v, vm₁, ⟨U', l2, c2, s2⟩, hW₁, X', ⟨g', mk, t, L, e1, e2, hq, h1, hL, h2, h3⟩, st⟩ | ⟨q, vm₁, ⟨U', l2, c2, s2⟩, hW₁, X', ⟨g', mk, t, L, E, ce, e1, e2, hq, hce, hcv, hcl, h1, hL, h2, h3⟩, st⟩
  · dsimp only [Pt.U, Pt.locs, Pt.cells, Pt.slots] at X' e1 e2 h1 h2 h3 st
    subst h1; subst h2; subst h3
    exact Or.inl ⟨v, (T.setVm vm₁).calling g' mk As.toArray, t, U', L, hT, X', hL, e1, e2, hq, st⟩
  · dsimp only [Pt.U, Pt.locs, Pt.cells, Pt.slots] at X' e1 e2 h1 h2 h3 st hcl
    subst h1; subst h2; subst h3
    exact Or.inr ⟨q, (T.setVm vm₁).calling g' mk As.toArray, t, U', L, E, ce, hT, X', hL, e1, e2, hq, hce, hcv, vx_cls hW₁ hcl, st⟩
end
end VXH
theorem vx_ofWH {l : Launch} {y : MethodName} {ws ws' : List Cond} {rm : Room} {Pc : Array Value → State → Prop} {Qc : Array Value → State → Outcome → State → Prop} {XC : String → State → State → Prop} {mc ms : Nat} {free : Addr → Prop} {cc : ByteArray} {maxL : Nat} {ret : Option FieldType} {hh : List (Nat × Nat × Nat × Nat)}
    (hy : plainName y.cls = true) (hw : ws = Cond.codeWith y cc maxL ret hh :: ws')
    (body : ∀ p e s m args below meth c s₁, BodyLoose p l y (headSpec ws rm) cc maxL ret e s m args below meth c s₁ → c.maxLocals = maxL → Pc args s →
      W p l e (headSpec ws rm).room s m args below meth c s.heap [] 0 0 (vx_MQ below Qc XC args s mc ms free) (entryFrame m args maxL)) : vx_Met l y ws rm Pc Qc XC mc ms free := by
  refine MetFree.of_bodyS (code := cc) (maxLocals := maxL) (ret := ret) hy ?_ ?_
  · intro args s m h hn
    obtain ⟨m9, meth, c, hn9, h1, h2, h3, h4, -, h5, h6, -⟩ := Cond.codeWith_spec (atoms_spec (ws := ws) h _ (by rw [hw]; exact List.mem_cons_self))
    cases hn.symm.trans hn9
    exact ⟨meth, c, h1, h2, h3, h4, h5, h6⟩
  · intro p e s m args below meth c s₁ B hml hP _
    have hh0 : s₁.heap = s.heap := by rw [B.state]; rfl
    obtain ⟨t, a1, o, b1, b2, b3⟩ := body p e s m args below meth c s₁ B hml hP s₁ hh0 (Stand.of_body B)
    exact ⟨t, o, a1, b1, b2, b3⟩
/-! ===== END ===== -/
end
section
/-! ===== BEGIN printed: names, fields, word lists, decode rows ===== -/
def RX0 : String := "WeftHouse$Cartoon"
def TX0 : u_T := fun k => match k with
  | 0 => ("WeftHouse$Cartoon", "width", "I", true)
  | 1 => ("WeftHouse$Cartoon", "height", "I", false)
  | 2 => ("WeftHouse$Cartoon", "signs", "[I", true)
  | 3 => ("WeftHouse$Cartoon", "firstHatching", "I", false)
  | _ => ("WeftHouse$Cartoon", "secondHatching", "I", false)
def tyX0 : Nat → FieldType := fun k => match k with
  | 0 => .int
  | 1 => .int
  | 2 => .array .int
  | 3 => .int
  | _ => .int
abbrev wsX00 : List Cond := u_ws RX0 TX0 5
theorem nmX0 : ∀ a, a < 5 → ∀ b, b < 5 → a ≠ b → (TX0 a).2.1 ≠ (TX0 b).2.1 := by decide +kernel
theorem tyX0_ok : ∀ k, k < 5 → parseFieldDescriptor (TX0 k).2.2.1 = some (tyX0 k) := by decide +kernel
abbrev cX0_init : ByteArray := prog_2_method_1_code
def yX0_init : MethodName := ⟨RX0, "<init>", "(I)V"⟩
abbrev cX0_width : ByteArray := prog_2_method_2_code
def yX0_width : MethodName := ⟨RX0, "width", "()I"⟩
abbrev cX0_height : ByteArray := prog_2_method_3_code
def yX0_height : MethodName := ⟨RX0, "height", "()I"⟩
abbrev cX0_addRow : ByteArray := prog_2_method_4_code
def yX0_addRow : MethodName := ⟨RX0, "addRow", "([I)V"⟩
abbrev cX0_hatchBetween : ByteArray := prog_2_method_5_code
def yX0_hatchBetween : MethodName := ⟨RX0, "hatchBetween", "(II)V"⟩
abbrev cX0_colourAt : ByteArray := prog_2_method_6_code
def yX0_colourAt : MethodName := ⟨RX0, "colourAt", "(IIZ)I"⟩
def RX1 : String := "WeftHouse$Lots"
def TX1 : u_T := fun k => match k with
  | 0 => ("WeftHouse$Lots", "count", "I", false)
  | 1 => ("WeftHouse$Lots", "colours", "[I", true)
  | 2 => ("WeftHouse$Lots", "threadsAtFirst", "[I", true)
  | 3 => ("WeftHouse$Lots", "threadsLeft", "[I", true)
  | 4 => ("WeftHouse$Lots", "fades", "[I", true)
  | _ => ("WeftHouse$Lots", "bleeding", "[Z", true)
def tyX1 : Nat → FieldType := fun k => match k with
  | 0 => .int
  | 1 => .array .int
  | 2 => .array .int
  | 3 => .array .int
  | 4 => .array .int
  | _ => .array .boolean
abbrev wsX10 : List Cond := u_ws RX1 TX1 6
theorem nmX1 : ∀ a, a < 6 → ∀ b, b < 6 → a ≠ b → (TX1 a).2.1 ≠ (TX1 b).2.1 := by decide +kernel
theorem tyX1_ok : ∀ k, k < 6 → parseFieldDescriptor (TX1 k).2.2.1 = some (tyX1 k) := by decide +kernel
abbrev cX1_init : ByteArray := prog_3_method_1_code
def yX1_init : MethodName := ⟨RX1, "<init>", "()V"⟩
abbrev cX1_count : ByteArray := prog_3_method_2_code
def yX1_count : MethodName := ⟨RX1, "count", "()I"⟩
abbrev cX1_add : ByteArray := prog_3_method_3_code
def yX1_add : MethodName := ⟨RX1, "add", "(IIIZ)I"⟩
abbrev cX1_threadsIn : ByteArray := prog_3_method_4_code
def yX1_threadsIn : MethodName := ⟨RX1, "threadsIn", "(I)I"⟩
abbrev cX1_threadsGivenBy : ByteArray := prog_3_method_5_code
def yX1_threadsGivenBy : MethodName := ⟨RX1, "threadsGivenBy", "(I)I"⟩
abbrev cX1_fadeOf : ByteArray := prog_3_method_6_code
def yX1_fadeOf : MethodName := ⟨RX1, "fadeOf", "(I)I"⟩
abbrev cX1_isBleeding : ByteArray := prog_3_method_7_code
def yX1_isBleeding : MethodName := ⟨RX1, "isBleeding", "(I)Z"⟩
abbrev cX1_threadsOfColour : ByteArray := prog_3_method_8_code
def yX1_threadsOfColour : MethodName := ⟨RX1, "threadsOfColour", "(I)I"⟩
abbrev cX1_takeThread : ByteArray := prog_3_method_9_code
def yX1_takeThread : MethodName := ⟨RX1, "takeThread", "(I)I"⟩
def RX2 : String := "WeftHouse$Piece"
def TX2 : u_T := fun k => match k with
  | 0 => ("WeftHouse$Piece", "width", "I", false)
  | 1 => ("WeftHouse$Piece", "height", "I", true)
  | 2 => ("WeftHouse$Piece", "weavers", "I", true)
  | 3 => ("WeftHouse$Piece", "rowsWoven", "[I", true)
  | 4 => ("WeftHouse$Piece", "colours", "[I", true)
  | 5 => ("WeftHouse$Piece", "lotNumbers", "[I", true)
  | 6 => ("WeftHouse$Piece", "shades", "[I", true)
  | 7 => ("WeftHouse$Piece", "origins", "[I", true)
  | _ => ("WeftHouse$Piece", "sewnAhead", "[Z", true)
def tyX2 : Nat → FieldType := fun k => match k with
  | 0 => .int
  | 1 => .int
  | 2 => .int
  | 3 => .array .int
  | 4 => .array .int
  | 5 => .array .int
  | 6 => .array .int
  | 7 => .array .int
  | _ => .array .boolean
abbrev wsX20 : List Cond := u_ws RX2 TX2 9
theorem nmX2 : ∀ a, a < 9 → ∀ b, b < 9 → a ≠ b → (TX2 a).2.1 ≠ (TX2 b).2.1 := by decide +kernel
theorem tyX2_ok : ∀ k, k < 9 → parseFieldDescriptor (TX2 k).2.2.1 = some (tyX2 k) := by decide +kernel
abbrev cX2_init : ByteArray := prog_4_method_1_code
def yX2_init : MethodName := ⟨RX2, "<init>", "(II)V"⟩
abbrev cX2_width : ByteArray := prog_4_method_2_code
def yX2_width : MethodName := ⟨RX2, "width", "()I"⟩
abbrev cX2_height : ByteArray := prog_4_method_3_code
def yX2_height : MethodName := ⟨RX2, "height", "()I"⟩
abbrev cX2_weavers : ByteArray := prog_4_method_4_code
def yX2_weavers : MethodName := ⟨RX2, "weavers", "()I"⟩
abbrev cX2_holds : ByteArray := prog_4_method_5_code
def yX2_holds : MethodName := ⟨RX2, "holds", "(II)Z"⟩
abbrev cX2_colourAt : ByteArray := prog_4_method_6_code
def yX2_colourAt : MethodName := ⟨RX2, "colourAt", "(II)I"⟩
abbrev cX2_lotAt : ByteArray := prog_4_method_7_code
def yX2_lotAt : MethodName := ⟨RX2, "lotAt", "(II)I"⟩
abbrev cX2_shadeAt : ByteArray := prog_4_method_8_code
def yX2_shadeAt : MethodName := ⟨RX2, "shadeAt", "(II)I"⟩
abbrev cX2_placeOf : ByteArray := prog_4_method_9_code
def yX2_placeOf : MethodName := ⟨RX2, "placeOf", "(II)I"⟩
abbrev cX2_drawFrom : ByteArray := prog_4_method_10_code
def yX2_drawFrom : MethodName := ⟨RX2, "drawFrom", "(LWeftHouse$Cartoon;ZI)V"⟩
abbrev cX2_originOf : ByteArray := prog_4_method_11_code
def yX2_originOf : MethodName := ⟨RX2, "originOf", "(II)I"⟩
abbrev cX2_hasWovenAll : ByteArray := prog_4_method_12_code
def yX2_hasWovenAll : MethodName := ⟨RX2, "hasWovenAll", "(I)Z"⟩
abbrev cX2_isAboveNeighbour : ByteArray := prog_4_method_13_code
def yX2_isAboveNeighbour : MethodName := ⟨RX2, "isAboveNeighbour", "(I)Z"⟩
abbrev cX2_firstColumnOf : ByteArray := prog_4_method_14_code
def yX2_firstColumnOf : MethodName := ⟨RX2, "firstColumnOf", "(I)I"⟩
abbrev cX2_threadsSuffice : ByteArray := prog_4_method_15_code
def yX2_threadsSuffice : MethodName := ⟨RX2, "threadsSuffice", "(ILWeftHouse$Lots;)Z"⟩
abbrev cX2_countInNextRow : ByteArray := prog_4_method_16_code
def yX2_countInNextRow : MethodName := ⟨RX2, "countInNextRow", "(II)I"⟩
abbrev cX2_weaveRow : ByteArray := prog_4_method_17_code
def yX2_weaveRow : MethodName := ⟨RX2, "weaveRow", "(ILWeftHouse$Lots;)I"⟩
abbrev cX2_countWoven : ByteArray := prog_4_method_18_code
def yX2_countWoven : MethodName := ⟨RX2, "countWoven", "()I"⟩
abbrev cX2_isDone : ByteArray := prog_4_method_19_code
def yX2_isDone : MethodName := ⟨RX2, "isDone", "()Z"⟩
abbrev cX2_countWovenOf : ByteArray := prog_4_method_20_code
def yX2_countWovenOf : MethodName := ⟨RX2, "countWovenOf", "(I)I"⟩
abbrev cX2_addThreadsTo : ByteArray := prog_4_method_21_code
def yX2_addThreadsTo : MethodName := ⟨RX2, "addThreadsTo", "([I)V"⟩
abbrev cX2_sumOfShades : ByteArray := prog_4_method_22_code
def yX2_sumOfShades : MethodName := ⟨RX2, "sumOfShades", "()I"⟩
abbrev cX2_countLike : ByteArray := prog_4_method_23_code
def yX2_countLike : MethodName := ⟨RX2, "countLike", "(LWeftHouse$Cartoon;Z)I"⟩
abbrev cX2_countSlits : ByteArray := prog_4_method_24_code
def yX2_countSlits : MethodName := ⟨RX2, "countSlits", "()I"⟩
abbrev cX2_hasSlitAhead : ByteArray := prog_4_method_25_code
def yX2_hasSlitAhead : MethodName := ⟨RX2, "hasSlitAhead", "(I)Z"⟩
abbrev cX2_longestUnlikeAhead : ByteArray := prog_4_method_26_code
def yX2_longestUnlikeAhead : MethodName := ⟨RX2, "longestUnlikeAhead", "(I)I"⟩
abbrev cX2_isSewnAhead : ByteArray := prog_4_method_27_code
def yX2_isSewnAhead : MethodName := ⟨RX2, "isSewnAhead", "(I)Z"⟩
abbrev cX2_sewAhead : ByteArray := prog_4_method_28_code
def yX2_sewAhead : MethodName := ⟨RX2, "sewAhead", "(I)V"⟩
abbrev cX2_setSewnAhead : ByteArray := prog_4_method_29_code
def yX2_setSewnAhead : MethodName := ⟨RX2, "setSewnAhead", "(IZ)V"⟩
abbrev cX2_fade : ByteArray := prog_4_method_30_code
def yX2_fade : MethodName := ⟨RX2, "fade", "(ILWeftHouse$Lots;)V"⟩
abbrev cX2_bleed : ByteArray := prog_4_method_31_code
def yX2_bleed : MethodName := ⟨RX2, "bleed", "(LWeftHouse$Lots;)V"⟩
abbrev cX2_stain : ByteArray := prog_4_method_32_code
def yX2_stain : MethodName := ⟨RX2, "stain", "(III)V"⟩
abbrev cX2_dim : ByteArray := prog_4_method_33_code
def yX2_dim : MethodName := ⟨RX2, "dim", "(III)V"⟩
abbrev cX2_append : ByteArray := prog_4_method_34_code
def yX2_append : MethodName := ⟨RX2, "append", "(LWeftHouse$Piece;I)V"⟩
abbrev cX2_copyColumn : ByteArray := prog_4_method_35_code
def yX2_copyColumn : MethodName := ⟨RX2, "copyColumn", "(LWeftHouse$Piece;II)V"⟩
abbrev cX2_keepAhead : ByteArray := prog_4_method_36_code
def yX2_keepAhead : MethodName := ⟨RX2, "keepAhead", "(I)V"⟩
abbrev cX2_countMatching : ByteArray := prog_4_method_37_code
def yX2_countMatching : MethodName := ⟨RX2, "countMatching", "(LWeftHouse$Piece;)I"⟩
abbrev cX2_isTrueAhead : ByteArray := prog_4_method_38_code
def yX2_isTrueAhead : MethodName := ⟨RX2, "isTrueAhead", "(I)Z"⟩
abbrev cX2_isAllTrue : ByteArray := prog_4_method_39_code
def yX2_isAllTrue : MethodName := ⟨RX2, "isAllTrue", "()Z"⟩
def RX3 : String := "WeftHouse"
def TX3 : u_T := fun k => match k with
  | 0 => ("WeftHouse", "word", "[I", true)
  | 1 => ("WeftHouse", "wordLength", "I", false)
  | 2 => ("WeftHouse", "cartoons", "[LWeftHouse$Cartoon;", true)
  | 3 => ("WeftHouse", "cartoonCount", "I", false)
  | 4 => ("WeftHouse", "lots", "LWeftHouse$Lots;", true)
  | 5 => ("WeftHouse", "pieces", "[LWeftHouse$Piece;", true)
  | 6 => ("WeftHouse", "pieceCount", "I", false)
  | _ => ("WeftHouse", "threadsByLot", "[I", true)
def tyX3 : Nat → FieldType := fun k => match k with
  | 0 => .array .int
  | 1 => .int
  | 2 => .array (.object "WeftHouse$Cartoon")
  | 3 => .int
  | 4 => .object "WeftHouse$Lots"
  | 5 => .array (.object "WeftHouse$Piece")
  | 6 => .int
  | _ => .array .int
abbrev wsX30 : List Cond := u_ws RX3 TX3 8
theorem nmX3 : ∀ a, a < 8 → ∀ b, b < 8 → a ≠ b → (TX3 a).2.1 ≠ (TX3 b).2.1 := by decide +kernel
theorem tyX3_ok : ∀ k, k < 8 → parseFieldDescriptor (TX3 k).2.2.1 = some (tyX3 k) := by decide +kernel
abbrev cX3_init : ByteArray := prog_1_method_1_code
def yX3_init : MethodName := ⟨RX3, "<init>", "()V"⟩
abbrev cX3_type : ByteArray := prog_1_method_2_code
def yX3_type : MethodName := ⟨RX3, "type", "(C)I"⟩
abbrev cX3_empty : ByteArray := prog_1_method_3_code
def yX3_empty : MethodName := ⟨RX3, "empty", "()I"⟩
abbrev cX3_cartoon : ByteArray := prog_1_method_4_code
def yX3_cartoon : MethodName := ⟨RX3, "cartoon", "(I)I"⟩
abbrev cX3_row : ByteArray := prog_1_method_5_code
def yX3_row : MethodName := ⟨RX3, "row", "(I)I"⟩
abbrev cX3_hatch : ByteArray := prog_1_method_6_code
def yX3_hatch : MethodName := ⟨RX3, "hatch", "(III)V"⟩
abbrev cX3_dye : ByteArray := prog_1_method_7_code
def yX3_dye : MethodName := ⟨RX3, "dye", "(IIIZ)I"⟩
abbrev cX3_left : ByteArray := prog_1_method_8_code
def yX3_left : MethodName := ⟨RX3, "left", "(I)I"⟩
abbrev cX3_gold : ByteArray := prog_1_method_9_code
def yX3_gold : MethodName := ⟨RX3, "gold", "()I"⟩
abbrev cX3_loom : ByteArray := prog_1_method_10_code
def yX3_loom : MethodName := ⟨RX3, "loom", "(IIZ)I"⟩
abbrev cX3_weave : ByteArray := prog_1_method_11_code
def yX3_weave : MethodName := ⟨RX3, "weave", "(II)I"⟩
abbrev cX3_pieceIs : ByteArray := prog_1_method_12_code
def yX3_pieceIs : MethodName := ⟨RX3, "pieceIs", "(II)I"⟩
abbrev cX3_cell : ByteArray := prog_1_method_13_code
def yX3_cell : MethodName := ⟨RX3, "cell", "(IIII)I"⟩
abbrev cX3_sew : ByteArray := prog_1_method_14_code
def yX3_sew : MethodName := ⟨RX3, "sew", "(II)Z"⟩
abbrev cX3_light : ByteArray := prog_1_method_15_code
def yX3_light : MethodName := ⟨RX3, "light", "(II)I"⟩
abbrev cX3_wash : ByteArray := prog_1_method_16_code
def yX3_wash : MethodName := ⟨RX3, "wash", "(I)I"⟩
abbrev cX3_cut : ByteArray := prog_1_method_17_code
def yX3_cut : MethodName := ⟨RX3, "cut", "(II)I"⟩
abbrev cX3_match : ByteArray := prog_1_method_18_code
def yX3_match : MethodName := ⟨RX3, "match", "(II)I"⟩
abbrev cX3_join : ByteArray := prog_1_method_19_code
def yX3_join : MethodName := ⟨RX3, "join", "(II)Z"⟩
abbrev cX3_isTrue : ByteArray := prog_1_method_20_code
def yX3_isTrue : MethodName := ⟨RX3, "isTrue", "(I)Z"⟩
abbrev cX3_likeness : ByteArray := prog_1_method_21_code
def yX3_likeness : MethodName := ⟨RX3, "likeness", "(II)I"⟩
abbrev cX3_balances : ByteArray := prog_1_method_22_code
def yX3_balances : MethodName := ⟨RX3, "balances", "()Z"⟩
abbrev cX3_signOf : ByteArray := prog_1_method_23_code
def yX3_signOf : MethodName := ⟨RX3, "signOf", "(C)I"⟩
abbrev cX3_cartoonNumbered : ByteArray := prog_1_method_24_code
def yX3_cartoonNumbered : MethodName := ⟨RX3, "cartoonNumbered", "(I)LWeftHouse$Cartoon;"⟩
abbrev cX3_pieceNumbered : ByteArray := prog_1_method_25_code
def yX3_pieceNumbered : MethodName := ⟨RX3, "pieceNumbered", "(I)LWeftHouse$Piece;"⟩
abbrev cX3_requireColour : ByteArray := prog_1_method_26_code
def yX3_requireColour : MethodName := ⟨RX3, "requireColour", "(I)V"⟩
abbrev cX3_requireSecondColumn : ByteArray := prog_1_method_27_code
def yX3_requireSecondColumn : MethodName := ⟨RX3, "requireSecondColumn", "(LWeftHouse$Piece;I)V"⟩
abbrev cX3_requireDone : ByteArray := prog_1_method_28_code
def yX3_requireDone : MethodName := ⟨RX3, "requireDone", "(LWeftHouse$Piece;)V"⟩
abbrev cX3_requireTwoDone : ByteArray := prog_1_method_29_code
def yX3_requireTwoDone : MethodName := ⟨RX3, "requireTwoDone", "(IILWeftHouse$Piece;LWeftHouse$Piece;)V"⟩
abbrev cX3_requireRoomForPiece : ByteArray := prog_1_method_30_code
def yX3_requireRoomForPiece : MethodName := ⟨RX3, "requireRoomForPiece", "()V"⟩
abbrev cX3_keepPiece : ByteArray := prog_1_method_31_code
def yX3_keepPiece : MethodName := ⟨RX3, "keepPiece", "(LWeftHouse$Piece;)I"⟩
abbrev cX3_dropPiece : ByteArray := prog_1_method_32_code
def yX3_dropPiece : MethodName := ⟨RX3, "dropPiece", "(I)V"⟩
abbrev cX3_valueAt : ByteArray := prog_1_method_33_code
def yX3_valueAt : MethodName := ⟨RX3, "valueAt", "([II)I"⟩
abbrev cX3_setAt : ByteArray := prog_1_method_34_code
def yX3_setAt : MethodName := ⟨RX3, "setAt", "([III)V"⟩
def RX4 : String := "WeftHouseModel"
def TX4 : u_T := fun k => match k with
  | 0 => ("WeftHouseModel", "letters", "I", false)
  | 1 => ("WeftHouseModel", "word", "[I", true)
  | 2 => ("WeftHouseModel", "cartoons", "I", false)
  | 3 => ("WeftHouseModel", "width", "[I", true)
  | 4 => ("WeftHouseModel", "height", "[I", true)
  | 5 => ("WeftHouseModel", "first", "[I", true)
  | 6 => ("WeftHouseModel", "second", "[I", true)
  | 7 => ("WeftHouseModel", "drawn", "[I", true)
  | 8 => ("WeftHouseModel", "lots", "I", false)
  | 9 => ("WeftHouseModel", "colourOf", "[I", true)
  | 10 => ("WeftHouseModel", "had", "[I", true)
  | 11 => ("WeftHouseModel", "left", "[I", true)
  | 12 => ("WeftHouseModel", "fade", "[I", true)
  | 13 => ("WeftHouseModel", "bleeds", "[Z", true)
  | 14 => ("WeftHouseModel", "pieces", "I", false)
  | 15 => ("WeftHouseModel", "columns", "[I", true)
  | 16 => ("WeftHouseModel", "rows", "[I", true)
  | 17 => ("WeftHouseModel", "weavers", "[I", true)
  | 18 => ("WeftHouseModel", "isGone", "[Z", true)
  | 19 => ("WeftHouseModel", "woven", "[I", true)
  | 20 => ("WeftHouseModel", "wide", "[I", true)
  | 21 => ("WeftHouseModel", "fromPiece", "[I", true)
  | 22 => ("WeftHouseModel", "fromColumn", "[I", true)
  | 23 => ("WeftHouseModel", "isSewn", "[Z", true)
  | 24 => ("WeftHouseModel", "colour", "[I", true)
  | 25 => ("WeftHouseModel", "lot", "[I", true)
  | 26 => ("WeftHouseModel", "shade", "[I", true)
  | _ => ("WeftHouseModel", "thrown", "I", false)
def tyX4 : Nat → FieldType := fun k => match k with
  | 0 => .int
  | 1 => .array .int
  | 2 => .int
  | 3 => .array .int
  | 4 => .array .int
  | 5 => .array .int
  | 6 => .array .int
  | 7 => .array .int
  | 8 => .int
  | 9 => .array .int
  | 10 => .array .int
  | 11 => .array .int
  | 12 => .array .int
  | 13 => .array .boolean
  | 14 => .int
  | 15 => .array .int
  | 16 => .array .int
  | 17 => .array .int
  | 18 => .array .boolean
  | 19 => .array .int
  | 20 => .array .int
  | 21 => .array .int
  | 22 => .array .int
  | 23 => .array .boolean
  | 24 => .array .int
  | 25 => .array .int
  | 26 => .array .int
  | _ => .int
abbrev wsX40 : List Cond := u_ws RX4 TX4 28
theorem nmX4 : ∀ a, a < 28 → ∀ b, b < 28 → a ≠ b → (TX4 a).2.1 ≠ (TX4 b).2.1 := by decide +kernel
theorem tyX4_ok : ∀ k, k < 28 → parseFieldDescriptor (TX4 k).2.2.1 = some (tyX4 k) := by decide +kernel
abbrev cX4_init : ByteArray := prog_6_method_1_code
def yX4_init : MethodName := ⟨RX4, "<init>", "()V"⟩
abbrev cX4_thrown : ByteArray := prog_6_method_2_code
def yX4_thrown : MethodName := ⟨RX4, "thrown", "()I"⟩
abbrev cX4_in : ByteArray := prog_6_method_3_code
def yX4_in : MethodName := ⟨RX4, "in", "(III)Z"⟩
abbrev cX4_goes : ByteArray := prog_6_method_4_code
def yX4_goes : MethodName := ⟨RX4, "goes", "(ZZZ)Z"⟩
abbrev cX4_isCartoon : ByteArray := prog_6_method_5_code
def yX4_isCartoon : MethodName := ⟨RX4, "isCartoon", "(I)Z"⟩
abbrev cX4_isColour : ByteArray := prog_6_method_6_code
def yX4_isColour : MethodName := ⟨RX4, "isColour", "(I)Z"⟩
abbrev cX4_isPiece : ByteArray := prog_6_method_7_code
def yX4_isPiece : MethodName := ⟨RX4, "isPiece", "(I)Z"⟩
abbrev cX4_numberOf : ByteArray := prog_6_method_8_code
def yX4_numberOf : MethodName := ⟨RX4, "numberOf", "(C)I"⟩
abbrev cX4_type : ByteArray := prog_6_method_9_code
def yX4_type : MethodName := ⟨RX4, "type", "(C)I"⟩
abbrev cX4_empty : ByteArray := prog_6_method_10_code
def yX4_empty : MethodName := ⟨RX4, "empty", "()I"⟩
abbrev cX4_cartoon : ByteArray := prog_6_method_11_code
def yX4_cartoon : MethodName := ⟨RX4, "cartoon", "(I)I"⟩
abbrev cX4_row : ByteArray := prog_6_method_12_code
def yX4_row : MethodName := ⟨RX4, "row", "(I)I"⟩
abbrev cX4_hatch : ByteArray := prog_6_method_13_code
def yX4_hatch : MethodName := ⟨RX4, "hatch", "(III)V"⟩
abbrev cX4_drawnAt : ByteArray := prog_6_method_14_code
def yX4_drawnAt : MethodName := ⟨RX4, "drawnAt", "(III)I"⟩
abbrev cX4_dye : ByteArray := prog_6_method_15_code
def yX4_dye : MethodName := ⟨RX4, "dye", "(IIIZ)I"⟩
abbrev cX4_left : ByteArray := prog_6_method_16_code
def yX4_left : MethodName := ⟨RX4, "left", "(I)I"⟩
abbrev cX4_wovenOf : ByteArray := prog_6_method_17_code
def yX4_wovenOf : MethodName := ⟨RX4, "wovenOf", "(I)I"⟩
abbrev cX4_gold : ByteArray := prog_6_method_18_code
def yX4_gold : MethodName := ⟨RX4, "gold", "()I"⟩
abbrev cX4_at : ByteArray := prog_6_method_19_code
def yX4_at : MethodName := ⟨RX4, "at", "(III)I"⟩
abbrev cX4_setsColumn : ByteArray := prog_6_method_20_code
def yX4_setsColumn : MethodName := ⟨RX4, "setsColumn", "(IIII)V"⟩
abbrev cX4_loom : ByteArray := prog_6_method_21_code
def yX4_loom : MethodName := ⟨RX4, "loom", "(IIZ)I"⟩
abbrev cX4_isDone : ByteArray := prog_6_method_22_code
def yX4_isDone : MethodName := ⟨RX4, "isDone", "(I)Z"⟩
abbrev cX4_mayWeave : ByteArray := prog_6_method_23_code
def yX4_mayWeave : MethodName := ⟨RX4, "mayWeave", "(II)Z"⟩
abbrev cX4_giver : ByteArray := prog_6_method_24_code
def yX4_giver : MethodName := ⟨RX4, "giver", "(I)I"⟩
abbrev cX4_weaves : ByteArray := prog_6_method_25_code
def yX4_weaves : MethodName := ⟨RX4, "weaves", "(IIII)Z"⟩
abbrev cX4_weave : ByteArray := prog_6_method_26_code
def yX4_weave : MethodName := ⟨RX4, "weave", "(II)I"⟩
abbrev cX4_isUnlike : ByteArray := prog_6_method_27_code
def yX4_isUnlike : MethodName := ⟨RX4, "isUnlike", "(III)Z"⟩
abbrev cX4_isSlit : ByteArray := prog_6_method_28_code
def yX4_isSlit : MethodName := ⟨RX4, "isSlit", "(II)Z"⟩
abbrev cX4_slits : ByteArray := prog_6_method_29_code
def yX4_slits : MethodName := ⟨RX4, "slits", "(I)I"⟩
abbrev cX4_shades : ByteArray := prog_6_method_30_code
def yX4_shades : MethodName := ⟨RX4, "shades", "(I)I"⟩
abbrev cX4_wovenIn : ByteArray := prog_6_method_31_code
def yX4_wovenIn : MethodName := ⟨RX4, "wovenIn", "(I)I"⟩
abbrev cX4_pieceIs : ByteArray := prog_6_method_32_code
def yX4_pieceIs : MethodName := ⟨RX4, "pieceIs", "(II)I"⟩
abbrev cX4_cell : ByteArray := prog_6_method_33_code
def yX4_cell : MethodName := ⟨RX4, "cell", "(IIII)I"⟩
abbrev cX4_isInner : ByteArray := prog_6_method_34_code
def yX4_isInner : MethodName := ⟨RX4, "isInner", "(II)Z"⟩
abbrev cX4_sew : ByteArray := prog_6_method_35_code
def yX4_sew : MethodName := ⟨RX4, "sew", "(II)Z"⟩
abbrev cX4_light : ByteArray := prog_6_method_36_code
def yX4_light : MethodName := ⟨RX4, "light", "(II)I"⟩
abbrev cX4_runs : ByteArray := prog_6_method_37_code
def yX4_runs : MethodName := ⟨RX4, "runs", "(IIII)I"⟩
abbrev cX4_wash : ByteArray := prog_6_method_38_code
def yX4_wash : MethodName := ⟨RX4, "wash", "(I)I"⟩
abbrev cX4_copies : ByteArray := prog_6_method_39_code
def yX4_copies : MethodName := ⟨RX4, "copies", "(IIII)V"⟩
abbrev cX4_cut : ByteArray := prog_6_method_40_code
def yX4_cut : MethodName := ⟨RX4, "cut", "(II)I"⟩
abbrev cX4_match : ByteArray := prog_6_method_41_code
def yX4_match : MethodName := ⟨RX4, "match", "(II)I"⟩
abbrev cX4_isRight : ByteArray := prog_6_method_42_code
def yX4_isRight : MethodName := ⟨RX4, "isRight", "(II)Z"⟩
abbrev cX4_join : ByteArray := prog_6_method_43_code
def yX4_join : MethodName := ⟨RX4, "join", "(II)Z"⟩
abbrev cX4_isTrue : ByteArray := prog_6_method_44_code
def yX4_isTrue : MethodName := ⟨RX4, "isTrue", "(I)Z"⟩
abbrev cX4_likeness : ByteArray := prog_6_method_45_code
def yX4_likeness : MethodName := ⟨RX4, "likeness", "(II)I"⟩
abbrev cX4_balances : ByteArray := prog_6_method_46_code
def yX4_balances : MethodName := ⟨RX4, "balances", "()Z"⟩
def RJ9 : String := "java/lang/Math"
def TJ9 : u_T := fun k => match k with
  | _ => ("", "", "", false)
def tyJ9 : Nat → FieldType := fun k => match k with
  | _ => .int
abbrev wsJ90 : List Cond := u_ws RJ9 TJ9 0
theorem nmJ9 : ∀ a, a < 0 → ∀ b, b < 0 → a ≠ b → (TJ9 a).2.1 ≠ (TJ9 b).2.1 := by decide +kernel
theorem tyJ9_ok : ∀ k, k < 0 → parseFieldDescriptor (TJ9 k).2.2.1 = some (tyJ9 k) := by decide +kernel
abbrev cJ9_max_7cf53 : ByteArray := prog_11_method_65_code
def yJ9_max_7cf53 : MethodName := ⟨RJ9, "max", "(II)I"⟩
def RJ0 : String := "java/lang/String"
def TJ0 : u_T := fun k => match k with
  | _ => ("", "", "", false)
def tyJ0 : Nat → FieldType := fun k => match k with
  | _ => .int
abbrev wsJ00 : List Cond := u_ws RJ0 TJ0 0
theorem nmJ0 : ∀ a, a < 0 → ∀ b, b < 0 → a ≠ b → (TJ0 a).2.1 ≠ (TJ0 b).2.1 := by decide +kernel
theorem tyJ0_ok : ∀ k, k < 0 → parseFieldDescriptor (TJ0 k).2.2.1 = some (tyJ0 k) := by decide +kernel
def RL : String := "WeftHouseLaw"
abbrev cL_type : ByteArray := method_3_code
def yL_type : MethodName := ⟨RL, "type", "(LWeftHouse;C[J)I"⟩
abbrev cL_cartoon : ByteArray := method_4_code
def yL_cartoon : MethodName := ⟨RL, "cartoon", "(LWeftHouse;I[J)I"⟩
abbrev cL_row : ByteArray := method_5_code
def yL_row : MethodName := ⟨RL, "row", "(LWeftHouse;I[J)I"⟩
abbrev cL_hatch : ByteArray := method_6_code
def yL_hatch : MethodName := ⟨RL, "hatch", "(LWeftHouse;III)I"⟩
abbrev cL_dye : ByteArray := method_7_code
def yL_dye : MethodName := ⟨RL, "dye", "(LWeftHouse;IIIZ[J)I"⟩
abbrev cL_left : ByteArray := method_8_code
def yL_left : MethodName := ⟨RL, "left", "(LWeftHouse;I[J)I"⟩
abbrev cL_loom : ByteArray := method_9_code
def yL_loom : MethodName := ⟨RL, "loom", "(LWeftHouse;IIZ[J)I"⟩
abbrev cL_weave : ByteArray := method_10_code
def yL_weave : MethodName := ⟨RL, "weave", "(LWeftHouse;II[J)I"⟩
abbrev cL_pieceIs : ByteArray := method_11_code
def yL_pieceIs : MethodName := ⟨RL, "pieceIs", "(LWeftHouse;II[J)I"⟩
abbrev cL_cell : ByteArray := method_12_code
def yL_cell : MethodName := ⟨RL, "cell", "(LWeftHouse;IIII[J)I"⟩
abbrev cL_sew : ByteArray := method_13_code
def yL_sew : MethodName := ⟨RL, "sew", "(LWeftHouse;II[J)I"⟩
abbrev cL_light : ByteArray := method_14_code
def yL_light : MethodName := ⟨RL, "light", "(LWeftHouse;II[J)I"⟩
abbrev cL_wash : ByteArray := method_15_code
def yL_wash : MethodName := ⟨RL, "wash", "(LWeftHouse;I[J)I"⟩
abbrev cL_cut : ByteArray := method_16_code
def yL_cut : MethodName := ⟨RL, "cut", "(LWeftHouse;II[J)I"⟩
abbrev cL_match : ByteArray := method_17_code
def yL_match : MethodName := ⟨RL, "match", "(LWeftHouse;II[J)I"⟩
abbrev cL_join : ByteArray := method_18_code
def yL_join : MethodName := ⟨RL, "join", "(LWeftHouse;II[J)I"⟩
abbrev cL_isTrue : ByteArray := method_19_code
def yL_isTrue : MethodName := ⟨RL, "isTrue", "(LWeftHouse;I[J)I"⟩
abbrev cL_likeness : ByteArray := method_20_code
def yL_likeness : MethodName := ⟨RL, "likeness", "(LWeftHouse;II[J)I"⟩
abbrev cL_law : ByteArray := code
def yL_law : MethodName := ⟨RL, "law", "([I)Z"⟩
def wsJ9_max_7cf53 : List Cond := .code yJ9_max_7cf53 cJ9_max_7cf53 2 (some .int) :: ([])
abbrev vwCl : List vw_C := [(RX0, TX0, 5), (RX1, TX1, 6), (RX2, TX2, 9), (RX3, TX3, 8), (RX4, TX4, 28)]
end
section
theorem dX0_init_0 : decode cX0_init 0 = .ok (.aload_n 0, 1) := by decide +kernel
theorem dX0_init_1 : decode cX0_init 1 = .ok (.invokespecial 3, 3) := by decide +kernel
theorem dX0_init_4 : decode cX0_init 4 = .ok (.aload_n 0, 1) := by decide +kernel
theorem dX0_init_5 : decode cX0_init 5 = .ok (.iconst 0, 1) := by decide +kernel
theorem dX0_init_6 : decode cX0_init 6 = .ok (.putfield 9, 3) := by decide +kernel
theorem dX0_init_9 : decode cX0_init 9 = .ok (.aload_n 0, 1) := by decide +kernel
theorem dX0_init_10 : decode cX0_init 10 = .ok (.bipush 120, 2) := by decide +kernel
theorem dX0_init_12 : decode cX0_init 12 = .ok (.newarray .int, 2) := by decide +kernel
theorem dX0_init_14 : decode cX0_init 14 = .ok (.putfield 15, 3) := by decide +kernel
theorem dX0_init_17 : decode cX0_init 17 = .ok (.aload_n 0, 1) := by decide +kernel
theorem dX0_init_18 : decode cX0_init 18 = .ok (.iconst 0, 1) := by decide +kernel
theorem dX0_init_19 : decode cX0_init 19 = .ok (.putfield 19, 3) := by decide +kernel
theorem dX0_init_22 : decode cX0_init 22 = .ok (.aload_n 0, 1) := by decide +kernel
theorem dX0_init_23 : decode cX0_init 23 = .ok (.iconst 1, 1) := by decide +kernel
theorem dX0_init_24 : decode cX0_init 24 = .ok (.putfield 22, 3) := by decide +kernel
theorem dX0_init_27 : decode cX0_init 27 = .ok (.aload_n 0, 1) := by decide +kernel
theorem dX0_init_28 : decode cX0_init 28 = .ok (.iload_n 1, 1) := by decide +kernel
theorem dX0_init_29 : decode cX0_init 29 = .ok (.putfield 25, 3) := by decide +kernel
theorem dX0_init_32 : decode cX0_init 32 = .ok (.return_, 1) := by decide +kernel
theorem dX0_width_0 : decode cX0_width 0 = .ok (.aload_n 0, 1) := by decide +kernel
theorem dX0_width_1 : decode cX0_width 1 = .ok (.getfield 25, 3) := by decide +kernel
theorem dX0_width_4 : decode cX0_width 4 = .ok (.ireturn, 1) := by decide +kernel
theorem dX0_height_0 : decode cX0_height 0 = .ok (.aload_n 0, 1) := by decide +kernel
theorem dX0_height_1 : decode cX0_height 1 = .ok (.getfield 9, 3) := by decide +kernel
theorem dX0_height_4 : decode cX0_height 4 = .ok (.ireturn, 1) := by decide +kernel
theorem dX0_addRow_0 : decode cX0_addRow 0 = .ok (.iconst 0, 1) := by decide +kernel
theorem dX0_addRow_1 : decode cX0_addRow 1 = .ok (.istore_n 2, 1) := by decide +kernel
theorem dX0_addRow_2 : decode cX0_addRow 2 = .ok (.iload_n 2, 1) := by decide +kernel
theorem dX0_addRow_3 : decode cX0_addRow 3 = .ok (.aload_n 0, 1) := by decide +kernel
theorem dX0_addRow_4 : decode cX0_addRow 4 = .ok (.getfield 25, 3) := by decide +kernel
theorem dX0_addRow_7 : decode cX0_addRow 7 = .ok (.if_icmp .ge 30, 3) := by decide +kernel
theorem dX0_addRow_10 : decode cX0_addRow 10 = .ok (.aload_n 0, 1) := by decide +kernel
theorem dX0_addRow_11 : decode cX0_addRow 11 = .ok (.getfield 15, 3) := by decide +kernel
theorem dX0_addRow_14 : decode cX0_addRow 14 = .ok (.aload_n 0, 1) := by decide +kernel
theorem dX0_addRow_15 : decode cX0_addRow 15 = .ok (.getfield 9, 3) := by decide +kernel
theorem dX0_addRow_18 : decode cX0_addRow 18 = .ok (.bipush 12, 2) := by decide +kernel
theorem dX0_addRow_20 : decode cX0_addRow 20 = .ok (.imul, 1) := by decide +kernel
theorem dX0_addRow_21 : decode cX0_addRow 21 = .ok (.iload_n 2, 1) := by decide +kernel
theorem dX0_addRow_22 : decode cX0_addRow 22 = .ok (.iadd, 1) := by decide +kernel
theorem dX0_addRow_23 : decode cX0_addRow 23 = .ok (.aload_n 1, 1) := by decide +kernel
theorem dX0_addRow_24 : decode cX0_addRow 24 = .ok (.iload_n 2, 1) := by decide +kernel
theorem dX0_addRow_25 : decode cX0_addRow 25 = .ok (.invokestatic 28, 3) := by decide +kernel
theorem dX0_addRow_28 : decode cX0_addRow 28 = .ok (.invokestatic 32, 3) := by decide +kernel
theorem dX0_addRow_31 : decode cX0_addRow 31 = .ok (.iinc 2 1, 3) := by decide +kernel
theorem dX0_addRow_34 : decode cX0_addRow 34 = .ok (.goto (-32), 3) := by decide +kernel
theorem dX0_addRow_37 : decode cX0_addRow 37 = .ok (.aload_n 0, 1) := by decide +kernel
theorem dX0_addRow_38 : decode cX0_addRow 38 = .ok (.dup, 1) := by decide +kernel
theorem dX0_addRow_39 : decode cX0_addRow 39 = .ok (.getfield 9, 3) := by decide +kernel
theorem dX0_addRow_42 : decode cX0_addRow 42 = .ok (.iconst 1, 1) := by decide +kernel
theorem dX0_addRow_43 : decode cX0_addRow 43 = .ok (.iadd, 1) := by decide +kernel
theorem dX0_addRow_44 : decode cX0_addRow 44 = .ok (.putfield 9, 3) := by decide +kernel
theorem dX0_addRow_47 : decode cX0_addRow 47 = .ok (.return_, 1) := by decide +kernel
theorem dX0_hatchBetween_0 : decode cX0_hatchBetween 0 = .ok (.aload_n 0, 1) := by decide +kernel
theorem dX0_hatchBetween_1 : decode cX0_hatchBetween 1 = .ok (.iload_n 1, 1) := by decide +kernel
theorem dX0_hatchBetween_2 : decode cX0_hatchBetween 2 = .ok (.putfield 19, 3) := by decide +kernel
theorem dX0_hatchBetween_5 : decode cX0_hatchBetween 5 = .ok (.aload_n 0, 1) := by decide +kernel
theorem dX0_hatchBetween_6 : decode cX0_hatchBetween 6 = .ok (.iload_n 2, 1) := by decide +kernel
theorem dX0_hatchBetween_7 : decode cX0_hatchBetween 7 = .ok (.putfield 22, 3) := by decide +kernel
theorem dX0_hatchBetween_10 : decode cX0_hatchBetween 10 = .ok (.return_, 1) := by decide +kernel
theorem dX0_colourAt_0 : decode cX0_colourAt 0 = .ok (.iload_n 3, 1) := by decide +kernel
theorem dX0_colourAt_1 : decode cX0_colourAt 1 = .ok (.ifCond .eq 14, 3) := by decide +kernel
theorem dX0_colourAt_4 : decode cX0_colourAt 4 = .ok (.aload_n 0, 1) := by decide +kernel
theorem dX0_colourAt_5 : decode cX0_colourAt 5 = .ok (.getfield 25, 3) := by decide +kernel
theorem dX0_colourAt_8 : decode cX0_colourAt 8 = .ok (.iconst 1, 1) := by decide +kernel
theorem dX0_colourAt_9 : decode cX0_colourAt 9 = .ok (.isub, 1) := by decide +kernel
theorem dX0_colourAt_10 : decode cX0_colourAt 10 = .ok (.iload_n 2, 1) := by decide +kernel
theorem dX0_colourAt_11 : decode cX0_colourAt 11 = .ok (.isub, 1) := by decide +kernel
theorem dX0_colourAt_12 : decode cX0_colourAt 12 = .ok (.goto 4, 3) := by decide +kernel
theorem dX0_colourAt_15 : decode cX0_colourAt 15 = .ok (.iload_n 2, 1) := by decide +kernel
theorem dX0_colourAt_16 : decode cX0_colourAt 16 = .ok (.istore 4, 2) := by decide +kernel
theorem dX0_colourAt_18 : decode cX0_colourAt 18 = .ok (.aload_n 0, 1) := by decide +kernel
theorem dX0_colourAt_19 : decode cX0_colourAt 19 = .ok (.getfield 15, 3) := by decide +kernel
theorem dX0_colourAt_22 : decode cX0_colourAt 22 = .ok (.iload_n 1, 1) := by decide +kernel
theorem dX0_colourAt_23 : decode cX0_colourAt 23 = .ok (.bipush 12, 2) := by decide +kernel
theorem dX0_colourAt_25 : decode cX0_colourAt 25 = .ok (.imul, 1) := by decide +kernel
theorem dX0_colourAt_26 : decode cX0_colourAt 26 = .ok (.iload 4, 2) := by decide +kernel
theorem dX0_colourAt_28 : decode cX0_colourAt 28 = .ok (.iadd, 1) := by decide +kernel
theorem dX0_colourAt_29 : decode cX0_colourAt 29 = .ok (.invokestatic 28, 3) := by decide +kernel
theorem dX0_colourAt_32 : decode cX0_colourAt 32 = .ok (.istore 5, 2) := by decide +kernel
theorem dX0_colourAt_34 : decode cX0_colourAt 34 = .ok (.iload 5, 2) := by decide +kernel
theorem dX0_colourAt_36 : decode cX0_colourAt 36 = .ok (.bipush 6, 2) := by decide +kernel
theorem dX0_colourAt_38 : decode cX0_colourAt 38 = .ok (.if_icmp .eq 6, 3) := by decide +kernel
theorem dX0_colourAt_41 : decode cX0_colourAt 41 = .ok (.iload 5, 2) := by decide +kernel
theorem dX0_colourAt_43 : decode cX0_colourAt 43 = .ok (.ireturn, 1) := by decide +kernel
theorem dX0_colourAt_44 : decode cX0_colourAt 44 = .ok (.iload_n 1, 1) := by decide +kernel
theorem dX0_colourAt_45 : decode cX0_colourAt 45 = .ok (.iload 4, 2) := by decide +kernel
theorem dX0_colourAt_47 : decode cX0_colourAt 47 = .ok (.iadd, 1) := by decide +kernel
theorem dX0_colourAt_48 : decode cX0_colourAt 48 = .ok (.iconst 2, 1) := by decide +kernel
theorem dX0_colourAt_49 : decode cX0_colourAt 49 = .ok (.irem, 1) := by decide +kernel
theorem dX0_colourAt_50 : decode cX0_colourAt 50 = .ok (.ifCond .ne 10, 3) := by decide +kernel
theorem dX0_colourAt_53 : decode cX0_colourAt 53 = .ok (.aload_n 0, 1) := by decide +kernel
theorem dX0_colourAt_54 : decode cX0_colourAt 54 = .ok (.getfield 19, 3) := by decide +kernel
theorem dX0_colourAt_57 : decode cX0_colourAt 57 = .ok (.goto 7, 3) := by decide +kernel
theorem dX0_colourAt_60 : decode cX0_colourAt 60 = .ok (.aload_n 0, 1) := by decide +kernel
theorem dX0_colourAt_61 : decode cX0_colourAt 61 = .ok (.getfield 22, 3) := by decide +kernel
theorem dX0_colourAt_64 : decode cX0_colourAt 64 = .ok (.ireturn, 1) := by decide +kernel
theorem dX1_init_0 : decode cX1_init 0 = .ok (.aload_n 0, 1) := by decide +kernel
theorem dX1_init_1 : decode cX1_init 1 = .ok (.invokespecial 3, 3) := by decide +kernel
theorem dX1_init_4 : decode cX1_init 4 = .ok (.aload_n 0, 1) := by decide +kernel
theorem dX1_init_5 : decode cX1_init 5 = .ok (.iconst 0, 1) := by decide +kernel
theorem dX1_init_6 : decode cX1_init 6 = .ok (.putfield 9, 3) := by decide +kernel
theorem dX1_init_9 : decode cX1_init 9 = .ok (.aload_n 0, 1) := by decide +kernel
theorem dX1_init_10 : decode cX1_init 10 = .ok (.bipush 20, 2) := by decide +kernel
theorem dX1_init_12 : decode cX1_init 12 = .ok (.newarray .int, 2) := by decide +kernel
theorem dX1_init_14 : decode cX1_init 14 = .ok (.putfield 15, 3) := by decide +kernel
theorem dX1_init_17 : decode cX1_init 17 = .ok (.aload_n 0, 1) := by decide +kernel
theorem dX1_init_18 : decode cX1_init 18 = .ok (.bipush 20, 2) := by decide +kernel
theorem dX1_init_20 : decode cX1_init 20 = .ok (.newarray .int, 2) := by decide +kernel
theorem dX1_init_22 : decode cX1_init 22 = .ok (.putfield 19, 3) := by decide +kernel
theorem dX1_init_25 : decode cX1_init 25 = .ok (.aload_n 0, 1) := by decide +kernel
theorem dX1_init_26 : decode cX1_init 26 = .ok (.bipush 20, 2) := by decide +kernel
theorem dX1_init_28 : decode cX1_init 28 = .ok (.newarray .int, 2) := by decide +kernel
theorem dX1_init_30 : decode cX1_init 30 = .ok (.putfield 22, 3) := by decide +kernel
theorem dX1_init_33 : decode cX1_init 33 = .ok (.aload_n 0, 1) := by decide +kernel
theorem dX1_init_34 : decode cX1_init 34 = .ok (.bipush 20, 2) := by decide +kernel
theorem dX1_init_36 : decode cX1_init 36 = .ok (.newarray .int, 2) := by decide +kernel
theorem dX1_init_38 : decode cX1_init 38 = .ok (.putfield 25, 3) := by decide +kernel
theorem dX1_init_41 : decode cX1_init 41 = .ok (.aload_n 0, 1) := by decide +kernel
theorem dX1_init_42 : decode cX1_init 42 = .ok (.bipush 20, 2) := by decide +kernel
theorem dX1_init_44 : decode cX1_init 44 = .ok (.newarray .boolean, 2) := by decide +kernel
theorem dX1_init_46 : decode cX1_init 46 = .ok (.putfield 28, 3) := by decide +kernel
theorem dX1_init_49 : decode cX1_init 49 = .ok (.return_, 1) := by decide +kernel
theorem dX1_count_0 : decode cX1_count 0 = .ok (.aload_n 0, 1) := by decide +kernel
theorem dX1_count_1 : decode cX1_count 1 = .ok (.getfield 9, 3) := by decide +kernel
theorem dX1_count_4 : decode cX1_count 4 = .ok (.ireturn, 1) := by decide +kernel
theorem dX1_add_0 : decode cX1_add 0 = .ok (.aload_n 0, 1) := by decide +kernel
theorem dX1_add_1 : decode cX1_add 1 = .ok (.getfield 9, 3) := by decide +kernel
theorem dX1_add_4 : decode cX1_add 4 = .ok (.istore 5, 2) := by decide +kernel
theorem dX1_add_6 : decode cX1_add 6 = .ok (.aload_n 0, 1) := by decide +kernel
theorem dX1_add_7 : decode cX1_add 7 = .ok (.getfield 15, 3) := by decide +kernel
theorem dX1_add_10 : decode cX1_add 10 = .ok (.iload 5, 2) := by decide +kernel
theorem dX1_add_12 : decode cX1_add 12 = .ok (.iload_n 1, 1) := by decide +kernel
theorem dX1_add_13 : decode cX1_add 13 = .ok (.invokestatic 32, 3) := by decide +kernel
theorem dX1_add_16 : decode cX1_add 16 = .ok (.aload_n 0, 1) := by decide +kernel
theorem dX1_add_17 : decode cX1_add 17 = .ok (.getfield 19, 3) := by decide +kernel
theorem dX1_add_20 : decode cX1_add 20 = .ok (.iload 5, 2) := by decide +kernel
theorem dX1_add_22 : decode cX1_add 22 = .ok (.iload_n 2, 1) := by decide +kernel
theorem dX1_add_23 : decode cX1_add 23 = .ok (.invokestatic 32, 3) := by decide +kernel
theorem dX1_add_26 : decode cX1_add 26 = .ok (.aload_n 0, 1) := by decide +kernel
theorem dX1_add_27 : decode cX1_add 27 = .ok (.getfield 22, 3) := by decide +kernel
theorem dX1_add_30 : decode cX1_add 30 = .ok (.iload 5, 2) := by decide +kernel
theorem dX1_add_32 : decode cX1_add 32 = .ok (.iload_n 2, 1) := by decide +kernel
theorem dX1_add_33 : decode cX1_add 33 = .ok (.invokestatic 32, 3) := by decide +kernel
theorem dX1_add_36 : decode cX1_add 36 = .ok (.aload_n 0, 1) := by decide +kernel
theorem dX1_add_37 : decode cX1_add 37 = .ok (.getfield 25, 3) := by decide +kernel
theorem dX1_add_40 : decode cX1_add 40 = .ok (.iload 5, 2) := by decide +kernel
theorem dX1_add_42 : decode cX1_add 42 = .ok (.iload_n 3, 1) := by decide +kernel
theorem dX1_add_43 : decode cX1_add 43 = .ok (.invokestatic 32, 3) := by decide +kernel
theorem dX1_add_46 : decode cX1_add 46 = .ok (.iload 5, 2) := by decide +kernel
theorem dX1_add_48 : decode cX1_add 48 = .ok (.ifCond .lt 22, 3) := by decide +kernel
theorem dX1_add_51 : decode cX1_add 51 = .ok (.iload 5, 2) := by decide +kernel
theorem dX1_add_53 : decode cX1_add 53 = .ok (.aload_n 0, 1) := by decide +kernel
theorem dX1_add_54 : decode cX1_add 54 = .ok (.getfield 28, 3) := by decide +kernel
theorem dX1_add_57 : decode cX1_add 57 = .ok (.arraylength, 1) := by decide +kernel
theorem dX1_add_58 : decode cX1_add 58 = .ok (.if_icmp .ge 12, 3) := by decide +kernel
theorem dX1_add_61 : decode cX1_add 61 = .ok (.aload_n 0, 1) := by decide +kernel
theorem dX1_add_62 : decode cX1_add 62 = .ok (.getfield 28, 3) := by decide +kernel
theorem dX1_add_65 : decode cX1_add 65 = .ok (.iload 5, 2) := by decide +kernel
theorem dX1_add_67 : decode cX1_add 67 = .ok (.iload 4, 2) := by decide +kernel
theorem dX1_add_69 : decode cX1_add 69 = .ok (.bastore, 1) := by decide +kernel
theorem dX1_add_70 : decode cX1_add 70 = .ok (.aload_n 0, 1) := by decide +kernel
theorem dX1_add_71 : decode cX1_add 71 = .ok (.dup, 1) := by decide +kernel
theorem dX1_add_72 : decode cX1_add 72 = .ok (.getfield 9, 3) := by decide +kernel
theorem dX1_add_75 : decode cX1_add 75 = .ok (.iconst 1, 1) := by decide +kernel
theorem dX1_add_76 : decode cX1_add 76 = .ok (.iadd, 1) := by decide +kernel
theorem dX1_add_77 : decode cX1_add 77 = .ok (.putfield 9, 3) := by decide +kernel
theorem dX1_add_80 : decode cX1_add 80 = .ok (.iload 5, 2) := by decide +kernel
theorem dX1_add_82 : decode cX1_add 82 = .ok (.ireturn, 1) := by decide +kernel
theorem dX1_threadsIn_0 : decode cX1_threadsIn 0 = .ok (.aload_n 0, 1) := by decide +kernel
theorem dX1_threadsIn_1 : decode cX1_threadsIn 1 = .ok (.getfield 22, 3) := by decide +kernel
theorem dX1_threadsIn_4 : decode cX1_threadsIn 4 = .ok (.iload_n 1, 1) := by decide +kernel
theorem dX1_threadsIn_5 : decode cX1_threadsIn 5 = .ok (.invokestatic 36, 3) := by decide +kernel
theorem dX1_threadsIn_8 : decode cX1_threadsIn 8 = .ok (.ireturn, 1) := by decide +kernel
theorem dX1_threadsGivenBy_0 : decode cX1_threadsGivenBy 0 = .ok (.aload_n 0, 1) := by decide +kernel
theorem dX1_threadsGivenBy_1 : decode cX1_threadsGivenBy 1 = .ok (.getfield 19, 3) := by decide +kernel
theorem dX1_threadsGivenBy_4 : decode cX1_threadsGivenBy 4 = .ok (.iload_n 1, 1) := by decide +kernel
theorem dX1_threadsGivenBy_5 : decode cX1_threadsGivenBy 5 = .ok (.invokestatic 36, 3) := by decide +kernel
theorem dX1_threadsGivenBy_8 : decode cX1_threadsGivenBy 8 = .ok (.aload_n 0, 1) := by decide +kernel
theorem dX1_threadsGivenBy_9 : decode cX1_threadsGivenBy 9 = .ok (.getfield 22, 3) := by decide +kernel
theorem dX1_threadsGivenBy_12 : decode cX1_threadsGivenBy 12 = .ok (.iload_n 1, 1) := by decide +kernel
theorem dX1_threadsGivenBy_13 : decode cX1_threadsGivenBy 13 = .ok (.invokestatic 36, 3) := by decide +kernel
theorem dX1_threadsGivenBy_16 : decode cX1_threadsGivenBy 16 = .ok (.isub, 1) := by decide +kernel
theorem dX1_threadsGivenBy_17 : decode cX1_threadsGivenBy 17 = .ok (.ireturn, 1) := by decide +kernel
theorem dX1_fadeOf_0 : decode cX1_fadeOf 0 = .ok (.aload_n 0, 1) := by decide +kernel
theorem dX1_fadeOf_1 : decode cX1_fadeOf 1 = .ok (.getfield 25, 3) := by decide +kernel
theorem dX1_fadeOf_4 : decode cX1_fadeOf 4 = .ok (.iload_n 1, 1) := by decide +kernel
theorem dX1_fadeOf_5 : decode cX1_fadeOf 5 = .ok (.invokestatic 36, 3) := by decide +kernel
theorem dX1_fadeOf_8 : decode cX1_fadeOf 8 = .ok (.ireturn, 1) := by decide +kernel
theorem dX1_isBleeding_0 : decode cX1_isBleeding 0 = .ok (.iload_n 1, 1) := by decide +kernel
theorem dX1_isBleeding_1 : decode cX1_isBleeding 1 = .ok (.ifCond .lt 25, 3) := by decide +kernel
theorem dX1_isBleeding_4 : decode cX1_isBleeding 4 = .ok (.iload_n 1, 1) := by decide +kernel
theorem dX1_isBleeding_5 : decode cX1_isBleeding 5 = .ok (.aload_n 0, 1) := by decide +kernel
theorem dX1_isBleeding_6 : decode cX1_isBleeding 6 = .ok (.getfield 28, 3) := by decide +kernel
theorem dX1_isBleeding_9 : decode cX1_isBleeding 9 = .ok (.arraylength, 1) := by decide +kernel
theorem dX1_isBleeding_10 : decode cX1_isBleeding 10 = .ok (.if_icmp .ge 16, 3) := by decide +kernel
theorem dX1_isBleeding_13 : decode cX1_isBleeding 13 = .ok (.aload_n 0, 1) := by decide +kernel
theorem dX1_isBleeding_14 : decode cX1_isBleeding 14 = .ok (.getfield 28, 3) := by decide +kernel
theorem dX1_isBleeding_17 : decode cX1_isBleeding 17 = .ok (.iload_n 1, 1) := by decide +kernel
theorem dX1_isBleeding_18 : decode cX1_isBleeding 18 = .ok (.baload, 1) := by decide +kernel
theorem dX1_isBleeding_19 : decode cX1_isBleeding 19 = .ok (.ifCond .eq 7, 3) := by decide +kernel
theorem dX1_isBleeding_22 : decode cX1_isBleeding 22 = .ok (.iconst 1, 1) := by decide +kernel
theorem dX1_isBleeding_23 : decode cX1_isBleeding 23 = .ok (.goto 4, 3) := by decide +kernel
theorem dX1_isBleeding_26 : decode cX1_isBleeding 26 = .ok (.iconst 0, 1) := by decide +kernel
theorem dX1_isBleeding_27 : decode cX1_isBleeding 27 = .ok (.ireturn, 1) := by decide +kernel
theorem dX1_threadsOfColour_0 : decode cX1_threadsOfColour 0 = .ok (.iconst 0, 1) := by decide +kernel
theorem dX1_threadsOfColour_1 : decode cX1_threadsOfColour 1 = .ok (.istore_n 2, 1) := by decide +kernel
theorem dX1_threadsOfColour_2 : decode cX1_threadsOfColour 2 = .ok (.iconst 0, 1) := by decide +kernel
theorem dX1_threadsOfColour_3 : decode cX1_threadsOfColour 3 = .ok (.istore_n 3, 1) := by decide +kernel
theorem dX1_threadsOfColour_4 : decode cX1_threadsOfColour 4 = .ok (.iload_n 3, 1) := by decide +kernel
theorem dX1_threadsOfColour_5 : decode cX1_threadsOfColour 5 = .ok (.aload_n 0, 1) := by decide +kernel
theorem dX1_threadsOfColour_6 : decode cX1_threadsOfColour 6 = .ok (.getfield 9, 3) := by decide +kernel
theorem dX1_threadsOfColour_9 : decode cX1_threadsOfColour 9 = .ok (.if_icmp .ge 29, 3) := by decide +kernel
theorem dX1_threadsOfColour_12 : decode cX1_threadsOfColour 12 = .ok (.aload_n 0, 1) := by decide +kernel
theorem dX1_threadsOfColour_13 : decode cX1_threadsOfColour 13 = .ok (.getfield 15, 3) := by decide +kernel
theorem dX1_threadsOfColour_16 : decode cX1_threadsOfColour 16 = .ok (.iload_n 3, 1) := by decide +kernel
theorem dX1_threadsOfColour_17 : decode cX1_threadsOfColour 17 = .ok (.invokestatic 36, 3) := by decide +kernel
theorem dX1_threadsOfColour_20 : decode cX1_threadsOfColour 20 = .ok (.iload_n 1, 1) := by decide +kernel
theorem dX1_threadsOfColour_21 : decode cX1_threadsOfColour 21 = .ok (.if_icmp .ne 11, 3) := by decide +kernel
theorem dX1_threadsOfColour_24 : decode cX1_threadsOfColour 24 = .ok (.iload_n 2, 1) := by decide +kernel
theorem dX1_threadsOfColour_25 : decode cX1_threadsOfColour 25 = .ok (.aload_n 0, 1) := by decide +kernel
theorem dX1_threadsOfColour_26 : decode cX1_threadsOfColour 26 = .ok (.iload_n 3, 1) := by decide +kernel
theorem dX1_threadsOfColour_27 : decode cX1_threadsOfColour 27 = .ok (.invokevirtual 40, 3) := by decide +kernel
theorem dX1_threadsOfColour_30 : decode cX1_threadsOfColour 30 = .ok (.iadd, 1) := by decide +kernel
theorem dX1_threadsOfColour_31 : decode cX1_threadsOfColour 31 = .ok (.istore_n 2, 1) := by decide +kernel
theorem dX1_threadsOfColour_32 : decode cX1_threadsOfColour 32 = .ok (.iinc 3 1, 3) := by decide +kernel
theorem dX1_threadsOfColour_35 : decode cX1_threadsOfColour 35 = .ok (.goto (-31), 3) := by decide +kernel
theorem dX1_threadsOfColour_38 : decode cX1_threadsOfColour 38 = .ok (.iload_n 2, 1) := by decide +kernel
theorem dX1_threadsOfColour_39 : decode cX1_threadsOfColour 39 = .ok (.ireturn, 1) := by decide +kernel
theorem dX1_takeThread_0 : decode cX1_takeThread 0 = .ok (.iconst 0, 1) := by decide +kernel
theorem dX1_takeThread_1 : decode cX1_takeThread 1 = .ok (.istore_n 2, 1) := by decide +kernel
theorem dX1_takeThread_2 : decode cX1_takeThread 2 = .ok (.iload_n 2, 1) := by decide +kernel
theorem dX1_takeThread_3 : decode cX1_takeThread 3 = .ok (.aload_n 0, 1) := by decide +kernel
theorem dX1_takeThread_4 : decode cX1_takeThread 4 = .ok (.getfield 9, 3) := by decide +kernel
theorem dX1_takeThread_7 : decode cX1_takeThread 7 = .ok (.if_icmp .ge 44, 3) := by decide +kernel
theorem dX1_takeThread_10 : decode cX1_takeThread 10 = .ok (.aload_n 0, 1) := by decide +kernel
theorem dX1_takeThread_11 : decode cX1_takeThread 11 = .ok (.iload_n 2, 1) := by decide +kernel
theorem dX1_takeThread_12 : decode cX1_takeThread 12 = .ok (.invokevirtual 40, 3) := by decide +kernel
theorem dX1_takeThread_15 : decode cX1_takeThread 15 = .ok (.istore_n 3, 1) := by decide +kernel
theorem dX1_takeThread_16 : decode cX1_takeThread 16 = .ok (.aload_n 0, 1) := by decide +kernel
theorem dX1_takeThread_17 : decode cX1_takeThread 17 = .ok (.getfield 15, 3) := by decide +kernel
theorem dX1_takeThread_20 : decode cX1_takeThread 20 = .ok (.iload_n 2, 1) := by decide +kernel
theorem dX1_takeThread_21 : decode cX1_takeThread 21 = .ok (.invokestatic 36, 3) := by decide +kernel
theorem dX1_takeThread_24 : decode cX1_takeThread 24 = .ok (.iload_n 1, 1) := by decide +kernel
theorem dX1_takeThread_25 : decode cX1_takeThread 25 = .ok (.if_icmp .ne 20, 3) := by decide +kernel
theorem dX1_takeThread_28 : decode cX1_takeThread 28 = .ok (.iload_n 3, 1) := by decide +kernel
theorem dX1_takeThread_29 : decode cX1_takeThread 29 = .ok (.ifCond .le 16, 3) := by decide +kernel
theorem dX1_takeThread_32 : decode cX1_takeThread 32 = .ok (.aload_n 0, 1) := by decide +kernel
theorem dX1_takeThread_33 : decode cX1_takeThread 33 = .ok (.getfield 22, 3) := by decide +kernel
theorem dX1_takeThread_36 : decode cX1_takeThread 36 = .ok (.iload_n 2, 1) := by decide +kernel
theorem dX1_takeThread_37 : decode cX1_takeThread 37 = .ok (.iload_n 3, 1) := by decide +kernel
theorem dX1_takeThread_38 : decode cX1_takeThread 38 = .ok (.iconst 1, 1) := by decide +kernel
theorem dX1_takeThread_39 : decode cX1_takeThread 39 = .ok (.isub, 1) := by decide +kernel
theorem dX1_takeThread_40 : decode cX1_takeThread 40 = .ok (.invokestatic 32, 3) := by decide +kernel
theorem dX1_takeThread_43 : decode cX1_takeThread 43 = .ok (.iload_n 2, 1) := by decide +kernel
theorem dX1_takeThread_44 : decode cX1_takeThread 44 = .ok (.ireturn, 1) := by decide +kernel
theorem dX1_takeThread_45 : decode cX1_takeThread 45 = .ok (.iinc 2 1, 3) := by decide +kernel
theorem dX1_takeThread_48 : decode cX1_takeThread 48 = .ok (.goto (-46), 3) := by decide +kernel
theorem dX1_takeThread_51 : decode cX1_takeThread 51 = .ok (.iconst (-1), 1) := by decide +kernel
theorem dX1_takeThread_52 : decode cX1_takeThread 52 = .ok (.ireturn, 1) := by decide +kernel
theorem dX2_init_0 : decode cX2_init 0 = .ok (.aload_n 0, 1) := by decide +kernel
theorem dX2_init_1 : decode cX2_init 1 = .ok (.invokespecial 3, 3) := by decide +kernel
theorem dX2_init_4 : decode cX2_init 4 = .ok (.aload_n 0, 1) := by decide +kernel
theorem dX2_init_5 : decode cX2_init 5 = .ok (.iconst 0, 1) := by decide +kernel
theorem dX2_init_6 : decode cX2_init 6 = .ok (.putfield 9, 3) := by decide +kernel
theorem dX2_init_9 : decode cX2_init 9 = .ok (.aload_n 0, 1) := by decide +kernel
theorem dX2_init_10 : decode cX2_init 10 = .ok (.iconst 4, 1) := by decide +kernel
theorem dX2_init_11 : decode cX2_init 11 = .ok (.newarray .int, 2) := by decide +kernel
theorem dX2_init_13 : decode cX2_init 13 = .ok (.putfield 15, 3) := by decide +kernel
theorem dX2_init_16 : decode cX2_init 16 = .ok (.aload_n 0, 1) := by decide +kernel
theorem dX2_init_17 : decode cX2_init 17 = .ok (.sipush 240, 3) := by decide +kernel
theorem dX2_init_20 : decode cX2_init 20 = .ok (.newarray .int, 2) := by decide +kernel
theorem dX2_init_22 : decode cX2_init 22 = .ok (.putfield 19, 3) := by decide +kernel
theorem dX2_init_25 : decode cX2_init 25 = .ok (.aload_n 0, 1) := by decide +kernel
theorem dX2_init_26 : decode cX2_init 26 = .ok (.sipush 240, 3) := by decide +kernel
theorem dX2_init_29 : decode cX2_init 29 = .ok (.newarray .int, 2) := by decide +kernel
theorem dX2_init_31 : decode cX2_init 31 = .ok (.putfield 22, 3) := by decide +kernel
theorem dX2_init_34 : decode cX2_init 34 = .ok (.aload_n 0, 1) := by decide +kernel
theorem dX2_init_35 : decode cX2_init 35 = .ok (.sipush 240, 3) := by decide +kernel
theorem dX2_init_38 : decode cX2_init 38 = .ok (.newarray .int, 2) := by decide +kernel
theorem dX2_init_40 : decode cX2_init 40 = .ok (.putfield 25, 3) := by decide +kernel
theorem dX2_init_43 : decode cX2_init 43 = .ok (.aload_n 0, 1) := by decide +kernel
theorem dX2_init_44 : decode cX2_init 44 = .ok (.bipush 24, 2) := by decide +kernel
theorem dX2_init_46 : decode cX2_init 46 = .ok (.newarray .int, 2) := by decide +kernel
theorem dX2_init_48 : decode cX2_init 48 = .ok (.putfield 28, 3) := by decide +kernel
theorem dX2_init_51 : decode cX2_init 51 = .ok (.aload_n 0, 1) := by decide +kernel
theorem dX2_init_52 : decode cX2_init 52 = .ok (.bipush 24, 2) := by decide +kernel
theorem dX2_init_54 : decode cX2_init 54 = .ok (.newarray .boolean, 2) := by decide +kernel
theorem dX2_init_56 : decode cX2_init 56 = .ok (.putfield 31, 3) := by decide +kernel
theorem dX2_init_59 : decode cX2_init 59 = .ok (.aload_n 0, 1) := by decide +kernel
theorem dX2_init_60 : decode cX2_init 60 = .ok (.iload_n 1, 1) := by decide +kernel
theorem dX2_init_61 : decode cX2_init 61 = .ok (.putfield 35, 3) := by decide +kernel
theorem dX2_init_64 : decode cX2_init 64 = .ok (.aload_n 0, 1) := by decide +kernel
theorem dX2_init_65 : decode cX2_init 65 = .ok (.iload_n 2, 1) := by decide +kernel
theorem dX2_init_66 : decode cX2_init 66 = .ok (.putfield 38, 3) := by decide +kernel
theorem dX2_init_69 : decode cX2_init 69 = .ok (.return_, 1) := by decide +kernel
theorem dX2_width_0 : decode cX2_width 0 = .ok (.aload_n 0, 1) := by decide +kernel
theorem dX2_width_1 : decode cX2_width 1 = .ok (.getfield 9, 3) := by decide +kernel
theorem dX2_width_4 : decode cX2_width 4 = .ok (.ireturn, 1) := by decide +kernel
theorem dX2_height_0 : decode cX2_height 0 = .ok (.aload_n 0, 1) := by decide +kernel
theorem dX2_height_1 : decode cX2_height 1 = .ok (.getfield 35, 3) := by decide +kernel
theorem dX2_height_4 : decode cX2_height 4 = .ok (.ireturn, 1) := by decide +kernel
theorem dX2_weavers_0 : decode cX2_weavers 0 = .ok (.aload_n 0, 1) := by decide +kernel
theorem dX2_weavers_1 : decode cX2_weavers 1 = .ok (.getfield 38, 3) := by decide +kernel
theorem dX2_weavers_4 : decode cX2_weavers 4 = .ok (.ireturn, 1) := by decide +kernel
theorem dX2_holds_0 : decode cX2_holds 0 = .ok (.iload_n 1, 1) := by decide +kernel
theorem dX2_holds_1 : decode cX2_holds 1 = .ok (.ifCond .lt 27, 3) := by decide +kernel
theorem dX2_holds_4 : decode cX2_holds 4 = .ok (.iload_n 1, 1) := by decide +kernel
theorem dX2_holds_5 : decode cX2_holds 5 = .ok (.aload_n 0, 1) := by decide +kernel
theorem dX2_holds_6 : decode cX2_holds 6 = .ok (.getfield 35, 3) := by decide +kernel
theorem dX2_holds_9 : decode cX2_holds 9 = .ok (.if_icmp .ge 19, 3) := by decide +kernel
theorem dX2_holds_12 : decode cX2_holds 12 = .ok (.iload_n 2, 1) := by decide +kernel
theorem dX2_holds_13 : decode cX2_holds 13 = .ok (.ifCond .lt 15, 3) := by decide +kernel
theorem dX2_holds_16 : decode cX2_holds 16 = .ok (.iload_n 2, 1) := by decide +kernel
theorem dX2_holds_17 : decode cX2_holds 17 = .ok (.aload_n 0, 1) := by decide +kernel
theorem dX2_holds_18 : decode cX2_holds 18 = .ok (.getfield 9, 3) := by decide +kernel
theorem dX2_holds_21 : decode cX2_holds 21 = .ok (.if_icmp .ge 7, 3) := by decide +kernel
theorem dX2_holds_24 : decode cX2_holds 24 = .ok (.iconst 1, 1) := by decide +kernel
theorem dX2_holds_25 : decode cX2_holds 25 = .ok (.goto 4, 3) := by decide +kernel
theorem dX2_holds_28 : decode cX2_holds 28 = .ok (.iconst 0, 1) := by decide +kernel
theorem dX2_holds_29 : decode cX2_holds 29 = .ok (.ireturn, 1) := by decide +kernel
theorem dX2_colourAt_0 : decode cX2_colourAt 0 = .ok (.aload_n 0, 1) := by decide +kernel
theorem dX2_colourAt_1 : decode cX2_colourAt 1 = .ok (.getfield 19, 3) := by decide +kernel
theorem dX2_colourAt_4 : decode cX2_colourAt 4 = .ok (.iload_n 1, 1) := by decide +kernel
theorem dX2_colourAt_5 : decode cX2_colourAt 5 = .ok (.iload_n 2, 1) := by decide +kernel
theorem dX2_colourAt_6 : decode cX2_colourAt 6 = .ok (.invokestatic 41, 3) := by decide +kernel
theorem dX2_colourAt_9 : decode cX2_colourAt 9 = .ok (.invokestatic 45, 3) := by decide +kernel
theorem dX2_colourAt_12 : decode cX2_colourAt 12 = .ok (.ireturn, 1) := by decide +kernel
theorem dX2_lotAt_0 : decode cX2_lotAt 0 = .ok (.aload_n 0, 1) := by decide +kernel
theorem dX2_lotAt_1 : decode cX2_lotAt 1 = .ok (.getfield 22, 3) := by decide +kernel
theorem dX2_lotAt_4 : decode cX2_lotAt 4 = .ok (.iload_n 1, 1) := by decide +kernel
theorem dX2_lotAt_5 : decode cX2_lotAt 5 = .ok (.iload_n 2, 1) := by decide +kernel
theorem dX2_lotAt_6 : decode cX2_lotAt 6 = .ok (.invokestatic 41, 3) := by decide +kernel
theorem dX2_lotAt_9 : decode cX2_lotAt 9 = .ok (.invokestatic 45, 3) := by decide +kernel
theorem dX2_lotAt_12 : decode cX2_lotAt 12 = .ok (.ireturn, 1) := by decide +kernel
theorem dX2_shadeAt_0 : decode cX2_shadeAt 0 = .ok (.aload_n 0, 1) := by decide +kernel
theorem dX2_shadeAt_1 : decode cX2_shadeAt 1 = .ok (.getfield 25, 3) := by decide +kernel
theorem dX2_shadeAt_4 : decode cX2_shadeAt 4 = .ok (.iload_n 1, 1) := by decide +kernel
theorem dX2_shadeAt_5 : decode cX2_shadeAt 5 = .ok (.iload_n 2, 1) := by decide +kernel
theorem dX2_shadeAt_6 : decode cX2_shadeAt 6 = .ok (.invokestatic 41, 3) := by decide +kernel
theorem dX2_shadeAt_9 : decode cX2_shadeAt 9 = .ok (.invokestatic 45, 3) := by decide +kernel
theorem dX2_shadeAt_12 : decode cX2_shadeAt 12 = .ok (.ireturn, 1) := by decide +kernel
theorem dX2_placeOf_0 : decode cX2_placeOf 0 = .ok (.iload_n 0, 1) := by decide +kernel
theorem dX2_placeOf_1 : decode cX2_placeOf 1 = .ok (.bipush 24, 2) := by decide +kernel
theorem dX2_placeOf_3 : decode cX2_placeOf 3 = .ok (.imul, 1) := by decide +kernel
theorem dX2_placeOf_4 : decode cX2_placeOf 4 = .ok (.iload_n 1, 1) := by decide +kernel
theorem dX2_placeOf_5 : decode cX2_placeOf 5 = .ok (.iadd, 1) := by decide +kernel
theorem dX2_placeOf_6 : decode cX2_placeOf 6 = .ok (.ireturn, 1) := by decide +kernel
theorem dX2_drawFrom_0 : decode cX2_drawFrom 0 = .ok (.aload_n 0, 1) := by decide +kernel
theorem dX2_drawFrom_1 : decode cX2_drawFrom 1 = .ok (.aload_n 1, 1) := by decide +kernel
theorem dX2_drawFrom_2 : decode cX2_drawFrom 2 = .ok (.invokevirtual 49, 3) := by decide +kernel
theorem dX2_drawFrom_5 : decode cX2_drawFrom 5 = .ok (.putfield 9, 3) := by decide +kernel
theorem dX2_drawFrom_8 : decode cX2_drawFrom 8 = .ok (.iconst 0, 1) := by decide +kernel
theorem dX2_drawFrom_9 : decode cX2_drawFrom 9 = .ok (.istore 4, 2) := by decide +kernel
theorem dX2_drawFrom_11 : decode cX2_drawFrom 11 = .ok (.iload 4, 2) := by decide +kernel
theorem dX2_drawFrom_13 : decode cX2_drawFrom 13 = .ok (.aload_n 0, 1) := by decide +kernel
theorem dX2_drawFrom_14 : decode cX2_drawFrom 14 = .ok (.getfield 9, 3) := by decide +kernel
theorem dX2_drawFrom_17 : decode cX2_drawFrom 17 = .ok (.if_icmp .ge 80, 3) := by decide +kernel
theorem dX2_drawFrom_20 : decode cX2_drawFrom 20 = .ok (.aload_n 0, 1) := by decide +kernel
theorem dX2_drawFrom_21 : decode cX2_drawFrom 21 = .ok (.getfield 28, 3) := by decide +kernel
theorem dX2_drawFrom_24 : decode cX2_drawFrom 24 = .ok (.iload 4, 2) := by decide +kernel
theorem dX2_drawFrom_26 : decode cX2_drawFrom 26 = .ok (.iload_n 3, 1) := by decide +kernel
theorem dX2_drawFrom_27 : decode cX2_drawFrom 27 = .ok (.iload 4, 2) := by decide +kernel
theorem dX2_drawFrom_29 : decode cX2_drawFrom 29 = .ok (.invokestatic 54, 3) := by decide +kernel
theorem dX2_drawFrom_32 : decode cX2_drawFrom 32 = .ok (.invokestatic 57, 3) := by decide +kernel
theorem dX2_drawFrom_35 : decode cX2_drawFrom 35 = .ok (.iconst 0, 1) := by decide +kernel
theorem dX2_drawFrom_36 : decode cX2_drawFrom 36 = .ok (.istore 5, 2) := by decide +kernel
theorem dX2_drawFrom_38 : decode cX2_drawFrom 38 = .ok (.iload 5, 2) := by decide +kernel
theorem dX2_drawFrom_40 : decode cX2_drawFrom 40 = .ok (.aload_n 0, 1) := by decide +kernel
theorem dX2_drawFrom_41 : decode cX2_drawFrom 41 = .ok (.getfield 35, 3) := by decide +kernel
theorem dX2_drawFrom_44 : decode cX2_drawFrom 44 = .ok (.if_icmp .ge 47, 3) := by decide +kernel
theorem dX2_drawFrom_47 : decode cX2_drawFrom 47 = .ok (.aload_n 0, 1) := by decide +kernel
theorem dX2_drawFrom_48 : decode cX2_drawFrom 48 = .ok (.getfield 19, 3) := by decide +kernel
theorem dX2_drawFrom_51 : decode cX2_drawFrom 51 = .ok (.iload 5, 2) := by decide +kernel
theorem dX2_drawFrom_53 : decode cX2_drawFrom 53 = .ok (.iload 4, 2) := by decide +kernel
theorem dX2_drawFrom_55 : decode cX2_drawFrom 55 = .ok (.invokestatic 41, 3) := by decide +kernel
theorem dX2_drawFrom_58 : decode cX2_drawFrom 58 = .ok (.aload_n 1, 1) := by decide +kernel
theorem dX2_drawFrom_59 : decode cX2_drawFrom 59 = .ok (.iload 5, 2) := by decide +kernel
theorem dX2_drawFrom_61 : decode cX2_drawFrom 61 = .ok (.iload 4, 2) := by decide +kernel
theorem dX2_drawFrom_63 : decode cX2_drawFrom 63 = .ok (.iload_n 2, 1) := by decide +kernel
theorem dX2_drawFrom_64 : decode cX2_drawFrom 64 = .ok (.invokevirtual 61, 3) := by decide +kernel
theorem dX2_drawFrom_67 : decode cX2_drawFrom 67 = .ok (.invokestatic 57, 3) := by decide +kernel
theorem dX2_drawFrom_70 : decode cX2_drawFrom 70 = .ok (.aload_n 0, 1) := by decide +kernel
theorem dX2_drawFrom_71 : decode cX2_drawFrom 71 = .ok (.getfield 22, 3) := by decide +kernel
theorem dX2_drawFrom_74 : decode cX2_drawFrom 74 = .ok (.iload 5, 2) := by decide +kernel
theorem dX2_drawFrom_76 : decode cX2_drawFrom 76 = .ok (.iload 4, 2) := by decide +kernel
theorem dX2_drawFrom_78 : decode cX2_drawFrom 78 = .ok (.invokestatic 41, 3) := by decide +kernel
theorem dX2_drawFrom_81 : decode cX2_drawFrom 81 = .ok (.iconst (-1), 1) := by decide +kernel
theorem dX2_drawFrom_82 : decode cX2_drawFrom 82 = .ok (.invokestatic 57, 3) := by decide +kernel
theorem dX2_drawFrom_85 : decode cX2_drawFrom 85 = .ok (.iinc 5 1, 3) := by decide +kernel
theorem dX2_drawFrom_88 : decode cX2_drawFrom 88 = .ok (.goto (-50), 3) := by decide +kernel
theorem dX2_drawFrom_91 : decode cX2_drawFrom 91 = .ok (.iinc 4 1, 3) := by decide +kernel
theorem dX2_drawFrom_94 : decode cX2_drawFrom 94 = .ok (.goto (-83), 3) := by decide +kernel
theorem dX2_drawFrom_97 : decode cX2_drawFrom 97 = .ok (.return_, 1) := by decide +kernel
theorem dX2_originOf_0 : decode cX2_originOf 0 = .ok (.iload_n 0, 1) := by decide +kernel
theorem dX2_originOf_1 : decode cX2_originOf 1 = .ok (.bipush 24, 2) := by decide +kernel
theorem dX2_originOf_3 : decode cX2_originOf 3 = .ok (.imul, 1) := by decide +kernel
theorem dX2_originOf_4 : decode cX2_originOf 4 = .ok (.iload_n 1, 1) := by decide +kernel
theorem dX2_originOf_5 : decode cX2_originOf 5 = .ok (.iadd, 1) := by decide +kernel
theorem dX2_originOf_6 : decode cX2_originOf 6 = .ok (.ireturn, 1) := by decide +kernel
theorem dX2_hasWovenAll_0 : decode cX2_hasWovenAll 0 = .ok (.aload_n 0, 1) := by decide +kernel
theorem dX2_hasWovenAll_1 : decode cX2_hasWovenAll 1 = .ok (.getfield 15, 3) := by decide +kernel
theorem dX2_hasWovenAll_4 : decode cX2_hasWovenAll 4 = .ok (.iload_n 1, 1) := by decide +kernel
theorem dX2_hasWovenAll_5 : decode cX2_hasWovenAll 5 = .ok (.invokestatic 45, 3) := by decide +kernel
theorem dX2_hasWovenAll_8 : decode cX2_hasWovenAll 8 = .ok (.aload_n 0, 1) := by decide +kernel
theorem dX2_hasWovenAll_9 : decode cX2_hasWovenAll 9 = .ok (.getfield 35, 3) := by decide +kernel
theorem dX2_hasWovenAll_12 : decode cX2_hasWovenAll 12 = .ok (.if_icmp .lt 7, 3) := by decide +kernel
theorem dX2_hasWovenAll_15 : decode cX2_hasWovenAll 15 = .ok (.iconst 1, 1) := by decide +kernel
theorem dX2_hasWovenAll_16 : decode cX2_hasWovenAll 16 = .ok (.goto 4, 3) := by decide +kernel
theorem dX2_hasWovenAll_19 : decode cX2_hasWovenAll 19 = .ok (.iconst 0, 1) := by decide +kernel
theorem dX2_hasWovenAll_20 : decode cX2_hasWovenAll 20 = .ok (.ireturn, 1) := by decide +kernel
theorem dX2_isAboveNeighbour_0 : decode cX2_isAboveNeighbour 0 = .ok (.aload_n 0, 1) := by decide +kernel
theorem dX2_isAboveNeighbour_1 : decode cX2_isAboveNeighbour 1 = .ok (.getfield 15, 3) := by decide +kernel
theorem dX2_isAboveNeighbour_4 : decode cX2_isAboveNeighbour 4 = .ok (.iload_n 1, 1) := by decide +kernel
theorem dX2_isAboveNeighbour_5 : decode cX2_isAboveNeighbour 5 = .ok (.invokestatic 45, 3) := by decide +kernel
theorem dX2_isAboveNeighbour_8 : decode cX2_isAboveNeighbour 8 = .ok (.istore_n 2, 1) := by decide +kernel
theorem dX2_isAboveNeighbour_9 : decode cX2_isAboveNeighbour 9 = .ok (.iload_n 1, 1) := by decide +kernel
theorem dX2_isAboveNeighbour_10 : decode cX2_isAboveNeighbour 10 = .ok (.ifCond .le 21, 3) := by decide +kernel
theorem dX2_isAboveNeighbour_13 : decode cX2_isAboveNeighbour 13 = .ok (.aload_n 0, 1) := by decide +kernel
theorem dX2_isAboveNeighbour_14 : decode cX2_isAboveNeighbour 14 = .ok (.getfield 15, 3) := by decide +kernel
theorem dX2_isAboveNeighbour_17 : decode cX2_isAboveNeighbour 17 = .ok (.iload_n 1, 1) := by decide +kernel
theorem dX2_isAboveNeighbour_18 : decode cX2_isAboveNeighbour 18 = .ok (.iconst 1, 1) := by decide +kernel
theorem dX2_isAboveNeighbour_19 : decode cX2_isAboveNeighbour 19 = .ok (.isub, 1) := by decide +kernel
theorem dX2_isAboveNeighbour_20 : decode cX2_isAboveNeighbour 20 = .ok (.invokestatic 45, 3) := by decide +kernel
theorem dX2_isAboveNeighbour_23 : decode cX2_isAboveNeighbour 23 = .ok (.iload_n 2, 1) := by decide +kernel
theorem dX2_isAboveNeighbour_24 : decode cX2_isAboveNeighbour 24 = .ok (.if_icmp .ge 7, 3) := by decide +kernel
theorem dX2_isAboveNeighbour_27 : decode cX2_isAboveNeighbour 27 = .ok (.iconst 1, 1) := by decide +kernel
theorem dX2_isAboveNeighbour_28 : decode cX2_isAboveNeighbour 28 = .ok (.goto 4, 3) := by decide +kernel
theorem dX2_isAboveNeighbour_31 : decode cX2_isAboveNeighbour 31 = .ok (.iconst 0, 1) := by decide +kernel
theorem dX2_isAboveNeighbour_32 : decode cX2_isAboveNeighbour 32 = .ok (.istore_n 3, 1) := by decide +kernel
theorem dX2_isAboveNeighbour_33 : decode cX2_isAboveNeighbour 33 = .ok (.iload_n 1, 1) := by decide +kernel
theorem dX2_isAboveNeighbour_34 : decode cX2_isAboveNeighbour 34 = .ok (.aload_n 0, 1) := by decide +kernel
theorem dX2_isAboveNeighbour_35 : decode cX2_isAboveNeighbour 35 = .ok (.getfield 38, 3) := by decide +kernel
theorem dX2_isAboveNeighbour_38 : decode cX2_isAboveNeighbour 38 = .ok (.iconst 1, 1) := by decide +kernel
theorem dX2_isAboveNeighbour_39 : decode cX2_isAboveNeighbour 39 = .ok (.isub, 1) := by decide +kernel
theorem dX2_isAboveNeighbour_40 : decode cX2_isAboveNeighbour 40 = .ok (.if_icmp .ge 21, 3) := by decide +kernel
theorem dX2_isAboveNeighbour_43 : decode cX2_isAboveNeighbour 43 = .ok (.aload_n 0, 1) := by decide +kernel
theorem dX2_isAboveNeighbour_44 : decode cX2_isAboveNeighbour 44 = .ok (.getfield 15, 3) := by decide +kernel
theorem dX2_isAboveNeighbour_47 : decode cX2_isAboveNeighbour 47 = .ok (.iload_n 1, 1) := by decide +kernel
theorem dX2_isAboveNeighbour_48 : decode cX2_isAboveNeighbour 48 = .ok (.iconst 1, 1) := by decide +kernel
theorem dX2_isAboveNeighbour_49 : decode cX2_isAboveNeighbour 49 = .ok (.iadd, 1) := by decide +kernel
theorem dX2_isAboveNeighbour_50 : decode cX2_isAboveNeighbour 50 = .ok (.invokestatic 45, 3) := by decide +kernel
theorem dX2_isAboveNeighbour_53 : decode cX2_isAboveNeighbour 53 = .ok (.iload_n 2, 1) := by decide +kernel
theorem dX2_isAboveNeighbour_54 : decode cX2_isAboveNeighbour 54 = .ok (.if_icmp .ge 7, 3) := by decide +kernel
theorem dX2_isAboveNeighbour_57 : decode cX2_isAboveNeighbour 57 = .ok (.iconst 1, 1) := by decide +kernel
theorem dX2_isAboveNeighbour_58 : decode cX2_isAboveNeighbour 58 = .ok (.goto 4, 3) := by decide +kernel
theorem dX2_isAboveNeighbour_61 : decode cX2_isAboveNeighbour 61 = .ok (.iconst 0, 1) := by decide +kernel
theorem dX2_isAboveNeighbour_62 : decode cX2_isAboveNeighbour 62 = .ok (.istore 4, 2) := by decide +kernel
theorem dX2_isAboveNeighbour_64 : decode cX2_isAboveNeighbour 64 = .ok (.iload_n 3, 1) := by decide +kernel
theorem dX2_isAboveNeighbour_65 : decode cX2_isAboveNeighbour 65 = .ok (.ifCond .ne 8, 3) := by decide +kernel
theorem dX2_isAboveNeighbour_68 : decode cX2_isAboveNeighbour 68 = .ok (.iload 4, 2) := by decide +kernel
theorem dX2_isAboveNeighbour_70 : decode cX2_isAboveNeighbour 70 = .ok (.ifCond .eq 7, 3) := by decide +kernel
theorem dX2_isAboveNeighbour_73 : decode cX2_isAboveNeighbour 73 = .ok (.iconst 1, 1) := by decide +kernel
theorem dX2_isAboveNeighbour_74 : decode cX2_isAboveNeighbour 74 = .ok (.goto 4, 3) := by decide +kernel
theorem dX2_isAboveNeighbour_77 : decode cX2_isAboveNeighbour 77 = .ok (.iconst 0, 1) := by decide +kernel
theorem dX2_isAboveNeighbour_78 : decode cX2_isAboveNeighbour 78 = .ok (.ireturn, 1) := by decide +kernel
theorem dX2_firstColumnOf_0 : decode cX2_firstColumnOf 0 = .ok (.aload_n 0, 1) := by decide +kernel
theorem dX2_firstColumnOf_1 : decode cX2_firstColumnOf 1 = .ok (.getfield 38, 3) := by decide +kernel
theorem dX2_firstColumnOf_4 : decode cX2_firstColumnOf 4 = .ok (.iconst 1, 1) := by decide +kernel
theorem dX2_firstColumnOf_5 : decode cX2_firstColumnOf 5 = .ok (.if_icmp .ge 7, 3) := by decide +kernel
theorem dX2_firstColumnOf_8 : decode cX2_firstColumnOf 8 = .ok (.iconst 0, 1) := by decide +kernel
theorem dX2_firstColumnOf_9 : decode cX2_firstColumnOf 9 = .ok (.goto 14, 3) := by decide +kernel
theorem dX2_firstColumnOf_12 : decode cX2_firstColumnOf 12 = .ok (.iload_n 1, 1) := by decide +kernel
theorem dX2_firstColumnOf_13 : decode cX2_firstColumnOf 13 = .ok (.aload_n 0, 1) := by decide +kernel
theorem dX2_firstColumnOf_14 : decode cX2_firstColumnOf 14 = .ok (.getfield 9, 3) := by decide +kernel
theorem dX2_firstColumnOf_17 : decode cX2_firstColumnOf 17 = .ok (.imul, 1) := by decide +kernel
theorem dX2_firstColumnOf_18 : decode cX2_firstColumnOf 18 = .ok (.aload_n 0, 1) := by decide +kernel
theorem dX2_firstColumnOf_19 : decode cX2_firstColumnOf 19 = .ok (.getfield 38, 3) := by decide +kernel
theorem dX2_firstColumnOf_22 : decode cX2_firstColumnOf 22 = .ok (.idiv, 1) := by decide +kernel
theorem dX2_firstColumnOf_23 : decode cX2_firstColumnOf 23 = .ok (.ireturn, 1) := by decide +kernel
theorem dX2_threadsSuffice_0 : decode cX2_threadsSuffice 0 = .ok (.iconst 0, 1) := by decide +kernel
theorem dX2_threadsSuffice_1 : decode cX2_threadsSuffice 1 = .ok (.istore_n 3, 1) := by decide +kernel
theorem dX2_threadsSuffice_2 : decode cX2_threadsSuffice 2 = .ok (.iload_n 3, 1) := by decide +kernel
theorem dX2_threadsSuffice_3 : decode cX2_threadsSuffice 3 = .ok (.bipush 6, 2) := by decide +kernel
theorem dX2_threadsSuffice_5 : decode cX2_threadsSuffice 5 = .ok (.if_icmp .ge 25, 3) := by decide +kernel
theorem dX2_threadsSuffice_8 : decode cX2_threadsSuffice 8 = .ok (.aload_n 0, 1) := by decide +kernel
theorem dX2_threadsSuffice_9 : decode cX2_threadsSuffice 9 = .ok (.iload_n 1, 1) := by decide +kernel
theorem dX2_threadsSuffice_10 : decode cX2_threadsSuffice 10 = .ok (.iload_n 3, 1) := by decide +kernel
theorem dX2_threadsSuffice_11 : decode cX2_threadsSuffice 11 = .ok (.invokevirtual 65, 3) := by decide +kernel
theorem dX2_threadsSuffice_14 : decode cX2_threadsSuffice 14 = .ok (.aload_n 2, 1) := by decide +kernel
theorem dX2_threadsSuffice_15 : decode cX2_threadsSuffice 15 = .ok (.iload_n 3, 1) := by decide +kernel
theorem dX2_threadsSuffice_16 : decode cX2_threadsSuffice 16 = .ok (.invokevirtual 68, 3) := by decide +kernel
theorem dX2_threadsSuffice_19 : decode cX2_threadsSuffice 19 = .ok (.if_icmp .le 5, 3) := by decide +kernel
theorem dX2_threadsSuffice_22 : decode cX2_threadsSuffice 22 = .ok (.iconst 0, 1) := by decide +kernel
theorem dX2_threadsSuffice_23 : decode cX2_threadsSuffice 23 = .ok (.ireturn, 1) := by decide +kernel
theorem dX2_threadsSuffice_24 : decode cX2_threadsSuffice 24 = .ok (.iinc 3 1, 3) := by decide +kernel
theorem dX2_threadsSuffice_27 : decode cX2_threadsSuffice 27 = .ok (.goto (-25), 3) := by decide +kernel
theorem dX2_threadsSuffice_30 : decode cX2_threadsSuffice 30 = .ok (.iconst 1, 1) := by decide +kernel
theorem dX2_threadsSuffice_31 : decode cX2_threadsSuffice 31 = .ok (.ireturn, 1) := by decide +kernel
theorem dX2_countInNextRow_0 : decode cX2_countInNextRow 0 = .ok (.aload_n 0, 1) := by decide +kernel
theorem dX2_countInNextRow_1 : decode cX2_countInNextRow 1 = .ok (.getfield 15, 3) := by decide +kernel
theorem dX2_countInNextRow_4 : decode cX2_countInNextRow 4 = .ok (.iload_n 1, 1) := by decide +kernel
theorem dX2_countInNextRow_5 : decode cX2_countInNextRow 5 = .ok (.invokestatic 45, 3) := by decide +kernel
theorem dX2_countInNextRow_8 : decode cX2_countInNextRow 8 = .ok (.istore_n 3, 1) := by decide +kernel
theorem dX2_countInNextRow_9 : decode cX2_countInNextRow 9 = .ok (.aload_n 0, 1) := by decide +kernel
theorem dX2_countInNextRow_10 : decode cX2_countInNextRow 10 = .ok (.iload_n 1, 1) := by decide +kernel
theorem dX2_countInNextRow_11 : decode cX2_countInNextRow 11 = .ok (.iconst 1, 1) := by decide +kernel
theorem dX2_countInNextRow_12 : decode cX2_countInNextRow 12 = .ok (.iadd, 1) := by decide +kernel
theorem dX2_countInNextRow_13 : decode cX2_countInNextRow 13 = .ok (.invokevirtual 74, 3) := by decide +kernel
theorem dX2_countInNextRow_16 : decode cX2_countInNextRow 16 = .ok (.istore 4, 2) := by decide +kernel
theorem dX2_countInNextRow_18 : decode cX2_countInNextRow 18 = .ok (.iconst 0, 1) := by decide +kernel
theorem dX2_countInNextRow_19 : decode cX2_countInNextRow 19 = .ok (.istore 5, 2) := by decide +kernel
theorem dX2_countInNextRow_21 : decode cX2_countInNextRow 21 = .ok (.aload_n 0, 1) := by decide +kernel
theorem dX2_countInNextRow_22 : decode cX2_countInNextRow 22 = .ok (.iload_n 1, 1) := by decide +kernel
theorem dX2_countInNextRow_23 : decode cX2_countInNextRow 23 = .ok (.invokevirtual 74, 3) := by decide +kernel
theorem dX2_countInNextRow_26 : decode cX2_countInNextRow 26 = .ok (.istore 6, 2) := by decide +kernel
theorem dX2_countInNextRow_28 : decode cX2_countInNextRow 28 = .ok (.iload 6, 2) := by decide +kernel
theorem dX2_countInNextRow_30 : decode cX2_countInNextRow 30 = .ok (.iload 4, 2) := by decide +kernel
theorem dX2_countInNextRow_32 : decode cX2_countInNextRow 32 = .ok (.if_icmp .ge 23, 3) := by decide +kernel
theorem dX2_countInNextRow_35 : decode cX2_countInNextRow 35 = .ok (.aload_n 0, 1) := by decide +kernel
theorem dX2_countInNextRow_36 : decode cX2_countInNextRow 36 = .ok (.iload_n 3, 1) := by decide +kernel
theorem dX2_countInNextRow_37 : decode cX2_countInNextRow 37 = .ok (.iload 6, 2) := by decide +kernel
theorem dX2_countInNextRow_39 : decode cX2_countInNextRow 39 = .ok (.invokevirtual 77, 3) := by decide +kernel
theorem dX2_countInNextRow_42 : decode cX2_countInNextRow 42 = .ok (.iload_n 2, 1) := by decide +kernel
theorem dX2_countInNextRow_43 : decode cX2_countInNextRow 43 = .ok (.if_icmp .ne 6, 3) := by decide +kernel
theorem dX2_countInNextRow_46 : decode cX2_countInNextRow 46 = .ok (.iinc 5 1, 3) := by decide +kernel
theorem dX2_countInNextRow_49 : decode cX2_countInNextRow 49 = .ok (.iinc 6 1, 3) := by decide +kernel
theorem dX2_countInNextRow_52 : decode cX2_countInNextRow 52 = .ok (.goto (-24), 3) := by decide +kernel
theorem dX2_countInNextRow_55 : decode cX2_countInNextRow 55 = .ok (.iload 5, 2) := by decide +kernel
theorem dX2_countInNextRow_57 : decode cX2_countInNextRow 57 = .ok (.ireturn, 1) := by decide +kernel
theorem dX2_weaveRow_0 : decode cX2_weaveRow 0 = .ok (.aload_n 0, 1) := by decide +kernel
theorem dX2_weaveRow_1 : decode cX2_weaveRow 1 = .ok (.getfield 15, 3) := by decide +kernel
theorem dX2_weaveRow_4 : decode cX2_weaveRow 4 = .ok (.iload_n 1, 1) := by decide +kernel
theorem dX2_weaveRow_5 : decode cX2_weaveRow 5 = .ok (.invokestatic 45, 3) := by decide +kernel
theorem dX2_weaveRow_8 : decode cX2_weaveRow 8 = .ok (.istore_n 3, 1) := by decide +kernel
theorem dX2_weaveRow_9 : decode cX2_weaveRow 9 = .ok (.aload_n 0, 1) := by decide +kernel
theorem dX2_weaveRow_10 : decode cX2_weaveRow 10 = .ok (.iload_n 1, 1) := by decide +kernel
theorem dX2_weaveRow_11 : decode cX2_weaveRow 11 = .ok (.iconst 1, 1) := by decide +kernel
theorem dX2_weaveRow_12 : decode cX2_weaveRow 12 = .ok (.iadd, 1) := by decide +kernel
theorem dX2_weaveRow_13 : decode cX2_weaveRow 13 = .ok (.invokevirtual 74, 3) := by decide +kernel
theorem dX2_weaveRow_16 : decode cX2_weaveRow 16 = .ok (.istore 4, 2) := by decide +kernel
theorem dX2_weaveRow_18 : decode cX2_weaveRow 18 = .ok (.aload_n 0, 1) := by decide +kernel
theorem dX2_weaveRow_19 : decode cX2_weaveRow 19 = .ok (.iload_n 1, 1) := by decide +kernel
theorem dX2_weaveRow_20 : decode cX2_weaveRow 20 = .ok (.invokevirtual 74, 3) := by decide +kernel
theorem dX2_weaveRow_23 : decode cX2_weaveRow 23 = .ok (.istore 5, 2) := by decide +kernel
theorem dX2_weaveRow_25 : decode cX2_weaveRow 25 = .ok (.iload 5, 2) := by decide +kernel
theorem dX2_weaveRow_27 : decode cX2_weaveRow 27 = .ok (.iload 4, 2) := by decide +kernel
theorem dX2_weaveRow_29 : decode cX2_weaveRow 29 = .ok (.if_icmp .ge 48, 3) := by decide +kernel
theorem dX2_weaveRow_32 : decode cX2_weaveRow 32 = .ok (.aload_n 0, 1) := by decide +kernel
theorem dX2_weaveRow_33 : decode cX2_weaveRow 33 = .ok (.getfield 22, 3) := by decide +kernel
theorem dX2_weaveRow_36 : decode cX2_weaveRow 36 = .ok (.iload_n 3, 1) := by decide +kernel
theorem dX2_weaveRow_37 : decode cX2_weaveRow 37 = .ok (.iload 5, 2) := by decide +kernel
theorem dX2_weaveRow_39 : decode cX2_weaveRow 39 = .ok (.invokestatic 41, 3) := by decide +kernel
theorem dX2_weaveRow_42 : decode cX2_weaveRow 42 = .ok (.aload_n 2, 1) := by decide +kernel
theorem dX2_weaveRow_43 : decode cX2_weaveRow 43 = .ok (.aload_n 0, 1) := by decide +kernel
theorem dX2_weaveRow_44 : decode cX2_weaveRow 44 = .ok (.iload_n 3, 1) := by decide +kernel
theorem dX2_weaveRow_45 : decode cX2_weaveRow 45 = .ok (.iload 5, 2) := by decide +kernel
theorem dX2_weaveRow_47 : decode cX2_weaveRow 47 = .ok (.invokevirtual 77, 3) := by decide +kernel
theorem dX2_weaveRow_50 : decode cX2_weaveRow 50 = .ok (.invokevirtual 79, 3) := by decide +kernel
theorem dX2_weaveRow_53 : decode cX2_weaveRow 53 = .ok (.invokestatic 57, 3) := by decide +kernel
theorem dX2_weaveRow_56 : decode cX2_weaveRow 56 = .ok (.aload_n 0, 1) := by decide +kernel
theorem dX2_weaveRow_57 : decode cX2_weaveRow 57 = .ok (.getfield 25, 3) := by decide +kernel
theorem dX2_weaveRow_60 : decode cX2_weaveRow 60 = .ok (.iload_n 3, 1) := by decide +kernel
theorem dX2_weaveRow_61 : decode cX2_weaveRow 61 = .ok (.iload 5, 2) := by decide +kernel
theorem dX2_weaveRow_63 : decode cX2_weaveRow 63 = .ok (.invokestatic 41, 3) := by decide +kernel
theorem dX2_weaveRow_66 : decode cX2_weaveRow 66 = .ok (.bipush 100, 2) := by decide +kernel
theorem dX2_weaveRow_68 : decode cX2_weaveRow 68 = .ok (.invokestatic 57, 3) := by decide +kernel
theorem dX2_weaveRow_71 : decode cX2_weaveRow 71 = .ok (.iinc 5 1, 3) := by decide +kernel
theorem dX2_weaveRow_74 : decode cX2_weaveRow 74 = .ok (.goto (-49), 3) := by decide +kernel
theorem dX2_weaveRow_77 : decode cX2_weaveRow 77 = .ok (.aload_n 0, 1) := by decide +kernel
theorem dX2_weaveRow_78 : decode cX2_weaveRow 78 = .ok (.getfield 15, 3) := by decide +kernel
theorem dX2_weaveRow_81 : decode cX2_weaveRow 81 = .ok (.iload_n 1, 1) := by decide +kernel
theorem dX2_weaveRow_82 : decode cX2_weaveRow 82 = .ok (.iload_n 3, 1) := by decide +kernel
theorem dX2_weaveRow_83 : decode cX2_weaveRow 83 = .ok (.iconst 1, 1) := by decide +kernel
theorem dX2_weaveRow_84 : decode cX2_weaveRow 84 = .ok (.iadd, 1) := by decide +kernel
theorem dX2_weaveRow_85 : decode cX2_weaveRow 85 = .ok (.invokestatic 57, 3) := by decide +kernel
theorem dX2_weaveRow_88 : decode cX2_weaveRow 88 = .ok (.iload_n 3, 1) := by decide +kernel
theorem dX2_weaveRow_89 : decode cX2_weaveRow 89 = .ok (.ireturn, 1) := by decide +kernel
theorem dX2_countWoven_0 : decode cX2_countWoven 0 = .ok (.iconst 0, 1) := by decide +kernel
theorem dX2_countWoven_1 : decode cX2_countWoven 1 = .ok (.istore_n 1, 1) := by decide +kernel
theorem dX2_countWoven_2 : decode cX2_countWoven 2 = .ok (.iconst 0, 1) := by decide +kernel
theorem dX2_countWoven_3 : decode cX2_countWoven 3 = .ok (.istore_n 2, 1) := by decide +kernel
theorem dX2_countWoven_4 : decode cX2_countWoven 4 = .ok (.iload_n 2, 1) := by decide +kernel
theorem dX2_countWoven_5 : decode cX2_countWoven 5 = .ok (.aload_n 0, 1) := by decide +kernel
theorem dX2_countWoven_6 : decode cX2_countWoven 6 = .ok (.getfield 35, 3) := by decide +kernel
theorem dX2_countWoven_9 : decode cX2_countWoven 9 = .ok (.if_icmp .ge 38, 3) := by decide +kernel
theorem dX2_countWoven_12 : decode cX2_countWoven 12 = .ok (.iconst 0, 1) := by decide +kernel
theorem dX2_countWoven_13 : decode cX2_countWoven 13 = .ok (.istore_n 3, 1) := by decide +kernel
theorem dX2_countWoven_14 : decode cX2_countWoven 14 = .ok (.iload_n 3, 1) := by decide +kernel
theorem dX2_countWoven_15 : decode cX2_countWoven 15 = .ok (.aload_n 0, 1) := by decide +kernel
theorem dX2_countWoven_16 : decode cX2_countWoven 16 = .ok (.getfield 9, 3) := by decide +kernel
theorem dX2_countWoven_19 : decode cX2_countWoven 19 = .ok (.if_icmp .ge 22, 3) := by decide +kernel
theorem dX2_countWoven_22 : decode cX2_countWoven 22 = .ok (.aload_n 0, 1) := by decide +kernel
theorem dX2_countWoven_23 : decode cX2_countWoven 23 = .ok (.iload_n 2, 1) := by decide +kernel
theorem dX2_countWoven_24 : decode cX2_countWoven 24 = .ok (.iload_n 3, 1) := by decide +kernel
theorem dX2_countWoven_25 : decode cX2_countWoven 25 = .ok (.invokevirtual 82, 3) := by decide +kernel
theorem dX2_countWoven_28 : decode cX2_countWoven 28 = .ok (.iconst (-1), 1) := by decide +kernel
theorem dX2_countWoven_29 : decode cX2_countWoven 29 = .ok (.if_icmp .eq 6, 3) := by decide +kernel
theorem dX2_countWoven_32 : decode cX2_countWoven 32 = .ok (.iinc 1 1, 3) := by decide +kernel
theorem dX2_countWoven_35 : decode cX2_countWoven 35 = .ok (.iinc 3 1, 3) := by decide +kernel
theorem dX2_countWoven_38 : decode cX2_countWoven 38 = .ok (.goto (-24), 3) := by decide +kernel
theorem dX2_countWoven_41 : decode cX2_countWoven 41 = .ok (.iinc 2 1, 3) := by decide +kernel
theorem dX2_countWoven_44 : decode cX2_countWoven 44 = .ok (.goto (-40), 3) := by decide +kernel
theorem dX2_countWoven_47 : decode cX2_countWoven 47 = .ok (.iload_n 1, 1) := by decide +kernel
theorem dX2_countWoven_48 : decode cX2_countWoven 48 = .ok (.ireturn, 1) := by decide +kernel
theorem dX2_isDone_0 : decode cX2_isDone 0 = .ok (.aload_n 0, 1) := by decide +kernel
theorem dX2_isDone_1 : decode cX2_isDone 1 = .ok (.invokevirtual 85, 3) := by decide +kernel
theorem dX2_isDone_4 : decode cX2_isDone 4 = .ok (.aload_n 0, 1) := by decide +kernel
theorem dX2_isDone_5 : decode cX2_isDone 5 = .ok (.getfield 9, 3) := by decide +kernel
theorem dX2_isDone_8 : decode cX2_isDone 8 = .ok (.aload_n 0, 1) := by decide +kernel
theorem dX2_isDone_9 : decode cX2_isDone 9 = .ok (.getfield 35, 3) := by decide +kernel
theorem dX2_isDone_12 : decode cX2_isDone 12 = .ok (.imul, 1) := by decide +kernel
theorem dX2_isDone_13 : decode cX2_isDone 13 = .ok (.if_icmp .ne 7, 3) := by decide +kernel
theorem dX2_isDone_16 : decode cX2_isDone 16 = .ok (.iconst 1, 1) := by decide +kernel
theorem dX2_isDone_17 : decode cX2_isDone 17 = .ok (.goto 4, 3) := by decide +kernel
theorem dX2_isDone_20 : decode cX2_isDone 20 = .ok (.iconst 0, 1) := by decide +kernel
theorem dX2_isDone_21 : decode cX2_isDone 21 = .ok (.ireturn, 1) := by decide +kernel
theorem dX2_countWovenOf_0 : decode cX2_countWovenOf 0 = .ok (.iconst 0, 1) := by decide +kernel
theorem dX2_countWovenOf_1 : decode cX2_countWovenOf 1 = .ok (.istore_n 2, 1) := by decide +kernel
theorem dX2_countWovenOf_2 : decode cX2_countWovenOf 2 = .ok (.iconst 0, 1) := by decide +kernel
theorem dX2_countWovenOf_3 : decode cX2_countWovenOf 3 = .ok (.istore_n 3, 1) := by decide +kernel
theorem dX2_countWovenOf_4 : decode cX2_countWovenOf 4 = .ok (.iload_n 3, 1) := by decide +kernel
theorem dX2_countWovenOf_5 : decode cX2_countWovenOf 5 = .ok (.aload_n 0, 1) := by decide +kernel
theorem dX2_countWovenOf_6 : decode cX2_countWovenOf 6 = .ok (.getfield 35, 3) := by decide +kernel
theorem dX2_countWovenOf_9 : decode cX2_countWovenOf 9 = .ok (.if_icmp .ge 52, 3) := by decide +kernel
theorem dX2_countWovenOf_12 : decode cX2_countWovenOf 12 = .ok (.iconst 0, 1) := by decide +kernel
theorem dX2_countWovenOf_13 : decode cX2_countWovenOf 13 = .ok (.istore 4, 2) := by decide +kernel
theorem dX2_countWovenOf_15 : decode cX2_countWovenOf 15 = .ok (.iload 4, 2) := by decide +kernel
theorem dX2_countWovenOf_17 : decode cX2_countWovenOf 17 = .ok (.aload_n 0, 1) := by decide +kernel
theorem dX2_countWovenOf_18 : decode cX2_countWovenOf 18 = .ok (.getfield 9, 3) := by decide +kernel
theorem dX2_countWovenOf_21 : decode cX2_countWovenOf 21 = .ok (.if_icmp .ge 34, 3) := by decide +kernel
theorem dX2_countWovenOf_24 : decode cX2_countWovenOf 24 = .ok (.aload_n 0, 1) := by decide +kernel
theorem dX2_countWovenOf_25 : decode cX2_countWovenOf 25 = .ok (.iload_n 3, 1) := by decide +kernel
theorem dX2_countWovenOf_26 : decode cX2_countWovenOf 26 = .ok (.iload 4, 2) := by decide +kernel
theorem dX2_countWovenOf_28 : decode cX2_countWovenOf 28 = .ok (.invokevirtual 82, 3) := by decide +kernel
theorem dX2_countWovenOf_31 : decode cX2_countWovenOf 31 = .ok (.iconst (-1), 1) := by decide +kernel
theorem dX2_countWovenOf_32 : decode cX2_countWovenOf 32 = .ok (.if_icmp .eq 17, 3) := by decide +kernel
theorem dX2_countWovenOf_35 : decode cX2_countWovenOf 35 = .ok (.aload_n 0, 1) := by decide +kernel
theorem dX2_countWovenOf_36 : decode cX2_countWovenOf 36 = .ok (.iload_n 3, 1) := by decide +kernel
theorem dX2_countWovenOf_37 : decode cX2_countWovenOf 37 = .ok (.iload 4, 2) := by decide +kernel
theorem dX2_countWovenOf_39 : decode cX2_countWovenOf 39 = .ok (.invokevirtual 77, 3) := by decide +kernel
theorem dX2_countWovenOf_42 : decode cX2_countWovenOf 42 = .ok (.iload_n 1, 1) := by decide +kernel
theorem dX2_countWovenOf_43 : decode cX2_countWovenOf 43 = .ok (.if_icmp .ne 6, 3) := by decide +kernel
theorem dX2_countWovenOf_46 : decode cX2_countWovenOf 46 = .ok (.iinc 2 1, 3) := by decide +kernel
theorem dX2_countWovenOf_49 : decode cX2_countWovenOf 49 = .ok (.iinc 4 1, 3) := by decide +kernel
theorem dX2_countWovenOf_52 : decode cX2_countWovenOf 52 = .ok (.goto (-37), 3) := by decide +kernel
theorem dX2_countWovenOf_55 : decode cX2_countWovenOf 55 = .ok (.iinc 3 1, 3) := by decide +kernel
theorem dX2_countWovenOf_58 : decode cX2_countWovenOf 58 = .ok (.goto (-54), 3) := by decide +kernel
theorem dX2_countWovenOf_61 : decode cX2_countWovenOf 61 = .ok (.iload_n 2, 1) := by decide +kernel
theorem dX2_countWovenOf_62 : decode cX2_countWovenOf 62 = .ok (.ireturn, 1) := by decide +kernel
theorem dX2_addThreadsTo_0 : decode cX2_addThreadsTo 0 = .ok (.iconst 0, 1) := by decide +kernel
theorem dX2_addThreadsTo_1 : decode cX2_addThreadsTo 1 = .ok (.istore_n 2, 1) := by decide +kernel
theorem dX2_addThreadsTo_2 : decode cX2_addThreadsTo 2 = .ok (.iload_n 2, 1) := by decide +kernel
theorem dX2_addThreadsTo_3 : decode cX2_addThreadsTo 3 = .ok (.aload_n 0, 1) := by decide +kernel
theorem dX2_addThreadsTo_4 : decode cX2_addThreadsTo 4 = .ok (.getfield 35, 3) := by decide +kernel
theorem dX2_addThreadsTo_7 : decode cX2_addThreadsTo 7 = .ok (.if_icmp .ge 47, 3) := by decide +kernel
theorem dX2_addThreadsTo_10 : decode cX2_addThreadsTo 10 = .ok (.iconst 0, 1) := by decide +kernel
theorem dX2_addThreadsTo_11 : decode cX2_addThreadsTo 11 = .ok (.istore_n 3, 1) := by decide +kernel
theorem dX2_addThreadsTo_12 : decode cX2_addThreadsTo 12 = .ok (.iload_n 3, 1) := by decide +kernel
theorem dX2_addThreadsTo_13 : decode cX2_addThreadsTo 13 = .ok (.aload_n 0, 1) := by decide +kernel
theorem dX2_addThreadsTo_14 : decode cX2_addThreadsTo 14 = .ok (.getfield 9, 3) := by decide +kernel
theorem dX2_addThreadsTo_17 : decode cX2_addThreadsTo 17 = .ok (.if_icmp .ge 31, 3) := by decide +kernel
theorem dX2_addThreadsTo_20 : decode cX2_addThreadsTo 20 = .ok (.aload_n 0, 1) := by decide +kernel
theorem dX2_addThreadsTo_21 : decode cX2_addThreadsTo 21 = .ok (.iload_n 2, 1) := by decide +kernel
theorem dX2_addThreadsTo_22 : decode cX2_addThreadsTo 22 = .ok (.iload_n 3, 1) := by decide +kernel
theorem dX2_addThreadsTo_23 : decode cX2_addThreadsTo 23 = .ok (.invokevirtual 82, 3) := by decide +kernel
theorem dX2_addThreadsTo_26 : decode cX2_addThreadsTo 26 = .ok (.istore 4, 2) := by decide +kernel
theorem dX2_addThreadsTo_28 : decode cX2_addThreadsTo 28 = .ok (.aload_n 1, 1) := by decide +kernel
theorem dX2_addThreadsTo_29 : decode cX2_addThreadsTo 29 = .ok (.iload 4, 2) := by decide +kernel
theorem dX2_addThreadsTo_31 : decode cX2_addThreadsTo 31 = .ok (.aload_n 1, 1) := by decide +kernel
theorem dX2_addThreadsTo_32 : decode cX2_addThreadsTo 32 = .ok (.iload 4, 2) := by decide +kernel
theorem dX2_addThreadsTo_34 : decode cX2_addThreadsTo 34 = .ok (.invokestatic 45, 3) := by decide +kernel
theorem dX2_addThreadsTo_37 : decode cX2_addThreadsTo 37 = .ok (.iconst 1, 1) := by decide +kernel
theorem dX2_addThreadsTo_38 : decode cX2_addThreadsTo 38 = .ok (.iadd, 1) := by decide +kernel
theorem dX2_addThreadsTo_39 : decode cX2_addThreadsTo 39 = .ok (.invokestatic 57, 3) := by decide +kernel
theorem dX2_addThreadsTo_42 : decode cX2_addThreadsTo 42 = .ok (.iinc 3 1, 3) := by decide +kernel
theorem dX2_addThreadsTo_45 : decode cX2_addThreadsTo 45 = .ok (.goto (-33), 3) := by decide +kernel
theorem dX2_addThreadsTo_48 : decode cX2_addThreadsTo 48 = .ok (.iinc 2 1, 3) := by decide +kernel
theorem dX2_addThreadsTo_51 : decode cX2_addThreadsTo 51 = .ok (.goto (-49), 3) := by decide +kernel
theorem dX2_addThreadsTo_54 : decode cX2_addThreadsTo 54 = .ok (.return_, 1) := by decide +kernel
theorem dX2_sumOfShades_0 : decode cX2_sumOfShades 0 = .ok (.iconst 0, 1) := by decide +kernel
theorem dX2_sumOfShades_1 : decode cX2_sumOfShades 1 = .ok (.istore_n 1, 1) := by decide +kernel
theorem dX2_sumOfShades_2 : decode cX2_sumOfShades 2 = .ok (.iconst 0, 1) := by decide +kernel
theorem dX2_sumOfShades_3 : decode cX2_sumOfShades 3 = .ok (.istore_n 2, 1) := by decide +kernel
theorem dX2_sumOfShades_4 : decode cX2_sumOfShades 4 = .ok (.iload_n 2, 1) := by decide +kernel
theorem dX2_sumOfShades_5 : decode cX2_sumOfShades 5 = .ok (.aload_n 0, 1) := by decide +kernel
theorem dX2_sumOfShades_6 : decode cX2_sumOfShades 6 = .ok (.getfield 35, 3) := by decide +kernel
theorem dX2_sumOfShades_9 : decode cX2_sumOfShades 9 = .ok (.if_icmp .ge 34, 3) := by decide +kernel
theorem dX2_sumOfShades_12 : decode cX2_sumOfShades 12 = .ok (.iconst 0, 1) := by decide +kernel
theorem dX2_sumOfShades_13 : decode cX2_sumOfShades 13 = .ok (.istore_n 3, 1) := by decide +kernel
theorem dX2_sumOfShades_14 : decode cX2_sumOfShades 14 = .ok (.iload_n 3, 1) := by decide +kernel
theorem dX2_sumOfShades_15 : decode cX2_sumOfShades 15 = .ok (.aload_n 0, 1) := by decide +kernel
theorem dX2_sumOfShades_16 : decode cX2_sumOfShades 16 = .ok (.getfield 9, 3) := by decide +kernel
theorem dX2_sumOfShades_19 : decode cX2_sumOfShades 19 = .ok (.if_icmp .ge 18, 3) := by decide +kernel
theorem dX2_sumOfShades_22 : decode cX2_sumOfShades 22 = .ok (.iload_n 1, 1) := by decide +kernel
theorem dX2_sumOfShades_23 : decode cX2_sumOfShades 23 = .ok (.aload_n 0, 1) := by decide +kernel
theorem dX2_sumOfShades_24 : decode cX2_sumOfShades 24 = .ok (.iload_n 2, 1) := by decide +kernel
theorem dX2_sumOfShades_25 : decode cX2_sumOfShades 25 = .ok (.iload_n 3, 1) := by decide +kernel
theorem dX2_sumOfShades_26 : decode cX2_sumOfShades 26 = .ok (.invokevirtual 88, 3) := by decide +kernel
theorem dX2_sumOfShades_29 : decode cX2_sumOfShades 29 = .ok (.iadd, 1) := by decide +kernel
theorem dX2_sumOfShades_30 : decode cX2_sumOfShades 30 = .ok (.istore_n 1, 1) := by decide +kernel
theorem dX2_sumOfShades_31 : decode cX2_sumOfShades 31 = .ok (.iinc 3 1, 3) := by decide +kernel
theorem dX2_sumOfShades_34 : decode cX2_sumOfShades 34 = .ok (.goto (-20), 3) := by decide +kernel
theorem dX2_sumOfShades_37 : decode cX2_sumOfShades 37 = .ok (.iinc 2 1, 3) := by decide +kernel
theorem dX2_sumOfShades_40 : decode cX2_sumOfShades 40 = .ok (.goto (-36), 3) := by decide +kernel
theorem dX2_sumOfShades_43 : decode cX2_sumOfShades 43 = .ok (.iload_n 1, 1) := by decide +kernel
theorem dX2_sumOfShades_44 : decode cX2_sumOfShades 44 = .ok (.ireturn, 1) := by decide +kernel
theorem dX2_countLike_0 : decode cX2_countLike 0 = .ok (.iconst 0, 1) := by decide +kernel
theorem dX2_countLike_1 : decode cX2_countLike 1 = .ok (.istore_n 3, 1) := by decide +kernel
theorem dX2_countLike_2 : decode cX2_countLike 2 = .ok (.iconst 0, 1) := by decide +kernel
theorem dX2_countLike_3 : decode cX2_countLike 3 = .ok (.istore 4, 2) := by decide +kernel
theorem dX2_countLike_5 : decode cX2_countLike 5 = .ok (.iload 4, 2) := by decide +kernel
theorem dX2_countLike_7 : decode cX2_countLike 7 = .ok (.aload_n 0, 1) := by decide +kernel
theorem dX2_countLike_8 : decode cX2_countLike 8 = .ok (.getfield 35, 3) := by decide +kernel
theorem dX2_countLike_11 : decode cX2_countLike 11 = .ok (.if_icmp .ge 50, 3) := by decide +kernel
theorem dX2_countLike_14 : decode cX2_countLike 14 = .ok (.iconst 0, 1) := by decide +kernel
theorem dX2_countLike_15 : decode cX2_countLike 15 = .ok (.istore 5, 2) := by decide +kernel
theorem dX2_countLike_17 : decode cX2_countLike 17 = .ok (.iload 5, 2) := by decide +kernel
theorem dX2_countLike_19 : decode cX2_countLike 19 = .ok (.aload_n 0, 1) := by decide +kernel
theorem dX2_countLike_20 : decode cX2_countLike 20 = .ok (.getfield 9, 3) := by decide +kernel
theorem dX2_countLike_23 : decode cX2_countLike 23 = .ok (.if_icmp .ge 32, 3) := by decide +kernel
theorem dX2_countLike_26 : decode cX2_countLike 26 = .ok (.aload_n 0, 1) := by decide +kernel
theorem dX2_countLike_27 : decode cX2_countLike 27 = .ok (.iload 4, 2) := by decide +kernel
theorem dX2_countLike_29 : decode cX2_countLike 29 = .ok (.iload 5, 2) := by decide +kernel
theorem dX2_countLike_31 : decode cX2_countLike 31 = .ok (.invokevirtual 77, 3) := by decide +kernel
theorem dX2_countLike_34 : decode cX2_countLike 34 = .ok (.aload_n 1, 1) := by decide +kernel
theorem dX2_countLike_35 : decode cX2_countLike 35 = .ok (.iload 4, 2) := by decide +kernel
theorem dX2_countLike_37 : decode cX2_countLike 37 = .ok (.iload 5, 2) := by decide +kernel
theorem dX2_countLike_39 : decode cX2_countLike 39 = .ok (.iload_n 2, 1) := by decide +kernel
theorem dX2_countLike_40 : decode cX2_countLike 40 = .ok (.invokevirtual 61, 3) := by decide +kernel
theorem dX2_countLike_43 : decode cX2_countLike 43 = .ok (.if_icmp .ne 6, 3) := by decide +kernel
theorem dX2_countLike_46 : decode cX2_countLike 46 = .ok (.iinc 3 1, 3) := by decide +kernel
theorem dX2_countLike_49 : decode cX2_countLike 49 = .ok (.iinc 5 1, 3) := by decide +kernel
theorem dX2_countLike_52 : decode cX2_countLike 52 = .ok (.goto (-35), 3) := by decide +kernel
theorem dX2_countLike_55 : decode cX2_countLike 55 = .ok (.iinc 4 1, 3) := by decide +kernel
theorem dX2_countLike_58 : decode cX2_countLike 58 = .ok (.goto (-53), 3) := by decide +kernel
theorem dX2_countLike_61 : decode cX2_countLike 61 = .ok (.iload_n 3, 1) := by decide +kernel
theorem dX2_countLike_62 : decode cX2_countLike 62 = .ok (.ireturn, 1) := by decide +kernel
theorem dX2_countSlits_0 : decode cX2_countSlits 0 = .ok (.iconst 0, 1) := by decide +kernel
theorem dX2_countSlits_1 : decode cX2_countSlits 1 = .ok (.istore_n 1, 1) := by decide +kernel
theorem dX2_countSlits_2 : decode cX2_countSlits 2 = .ok (.iconst 1, 1) := by decide +kernel
theorem dX2_countSlits_3 : decode cX2_countSlits 3 = .ok (.istore_n 2, 1) := by decide +kernel
theorem dX2_countSlits_4 : decode cX2_countSlits 4 = .ok (.iload_n 2, 1) := by decide +kernel
theorem dX2_countSlits_5 : decode cX2_countSlits 5 = .ok (.aload_n 0, 1) := by decide +kernel
theorem dX2_countSlits_6 : decode cX2_countSlits 6 = .ok (.getfield 9, 3) := by decide +kernel
theorem dX2_countSlits_9 : decode cX2_countSlits 9 = .ok (.if_icmp .ge 20, 3) := by decide +kernel
theorem dX2_countSlits_12 : decode cX2_countSlits 12 = .ok (.aload_n 0, 1) := by decide +kernel
theorem dX2_countSlits_13 : decode cX2_countSlits 13 = .ok (.iload_n 2, 1) := by decide +kernel
theorem dX2_countSlits_14 : decode cX2_countSlits 14 = .ok (.invokevirtual 91, 3) := by decide +kernel
theorem dX2_countSlits_17 : decode cX2_countSlits 17 = .ok (.ifCond .eq 6, 3) := by decide +kernel
theorem dX2_countSlits_20 : decode cX2_countSlits 20 = .ok (.iinc 1 1, 3) := by decide +kernel
theorem dX2_countSlits_23 : decode cX2_countSlits 23 = .ok (.iinc 2 1, 3) := by decide +kernel
theorem dX2_countSlits_26 : decode cX2_countSlits 26 = .ok (.goto (-22), 3) := by decide +kernel
theorem dX2_countSlits_29 : decode cX2_countSlits 29 = .ok (.iload_n 1, 1) := by decide +kernel
theorem dX2_countSlits_30 : decode cX2_countSlits 30 = .ok (.ireturn, 1) := by decide +kernel
theorem dX2_hasSlitAhead_0 : decode cX2_hasSlitAhead 0 = .ok (.aload_n 0, 1) := by decide +kernel
theorem dX2_hasSlitAhead_1 : decode cX2_hasSlitAhead 1 = .ok (.iload_n 1, 1) := by decide +kernel
theorem dX2_hasSlitAhead_2 : decode cX2_hasSlitAhead 2 = .ok (.invokevirtual 95, 3) := by decide +kernel
theorem dX2_hasSlitAhead_5 : decode cX2_hasSlitAhead 5 = .ok (.ifCond .ne 16, 3) := by decide +kernel
theorem dX2_hasSlitAhead_8 : decode cX2_hasSlitAhead 8 = .ok (.aload_n 0, 1) := by decide +kernel
theorem dX2_hasSlitAhead_9 : decode cX2_hasSlitAhead 9 = .ok (.iload_n 1, 1) := by decide +kernel
theorem dX2_hasSlitAhead_10 : decode cX2_hasSlitAhead 10 = .ok (.invokevirtual 98, 3) := by decide +kernel
theorem dX2_hasSlitAhead_13 : decode cX2_hasSlitAhead 13 = .ok (.iconst 3, 1) := by decide +kernel
theorem dX2_hasSlitAhead_14 : decode cX2_hasSlitAhead 14 = .ok (.if_icmp .lt 7, 3) := by decide +kernel
theorem dX2_hasSlitAhead_17 : decode cX2_hasSlitAhead 17 = .ok (.iconst 1, 1) := by decide +kernel
theorem dX2_hasSlitAhead_18 : decode cX2_hasSlitAhead 18 = .ok (.goto 4, 3) := by decide +kernel
theorem dX2_hasSlitAhead_21 : decode cX2_hasSlitAhead 21 = .ok (.iconst 0, 1) := by decide +kernel
theorem dX2_hasSlitAhead_22 : decode cX2_hasSlitAhead 22 = .ok (.ireturn, 1) := by decide +kernel
theorem dX2_longestUnlikeAhead_0 : decode cX2_longestUnlikeAhead 0 = .ok (.iconst 0, 1) := by decide +kernel
theorem dX2_longestUnlikeAhead_1 : decode cX2_longestUnlikeAhead 1 = .ok (.istore_n 2, 1) := by decide +kernel
theorem dX2_longestUnlikeAhead_2 : decode cX2_longestUnlikeAhead 2 = .ok (.iconst 0, 1) := by decide +kernel
theorem dX2_longestUnlikeAhead_3 : decode cX2_longestUnlikeAhead 3 = .ok (.istore_n 3, 1) := by decide +kernel
theorem dX2_longestUnlikeAhead_4 : decode cX2_longestUnlikeAhead 4 = .ok (.iconst 0, 1) := by decide +kernel
theorem dX2_longestUnlikeAhead_5 : decode cX2_longestUnlikeAhead 5 = .ok (.istore 4, 2) := by decide +kernel
theorem dX2_longestUnlikeAhead_7 : decode cX2_longestUnlikeAhead 7 = .ok (.iload 4, 2) := by decide +kernel
theorem dX2_longestUnlikeAhead_9 : decode cX2_longestUnlikeAhead 9 = .ok (.aload_n 0, 1) := by decide +kernel
theorem dX2_longestUnlikeAhead_10 : decode cX2_longestUnlikeAhead 10 = .ok (.getfield 35, 3) := by decide +kernel
theorem dX2_longestUnlikeAhead_13 : decode cX2_longestUnlikeAhead 13 = .ok (.if_icmp .ge 54, 3) := by decide +kernel
theorem dX2_longestUnlikeAhead_16 : decode cX2_longestUnlikeAhead 16 = .ok (.aload_n 0, 1) := by decide +kernel
theorem dX2_longestUnlikeAhead_17 : decode cX2_longestUnlikeAhead 17 = .ok (.iload 4, 2) := by decide +kernel
theorem dX2_longestUnlikeAhead_19 : decode cX2_longestUnlikeAhead 19 = .ok (.iload_n 1, 1) := by decide +kernel
theorem dX2_longestUnlikeAhead_20 : decode cX2_longestUnlikeAhead 20 = .ok (.iconst 1, 1) := by decide +kernel
theorem dX2_longestUnlikeAhead_21 : decode cX2_longestUnlikeAhead 21 = .ok (.isub, 1) := by decide +kernel
theorem dX2_longestUnlikeAhead_22 : decode cX2_longestUnlikeAhead 22 = .ok (.invokevirtual 77, 3) := by decide +kernel
theorem dX2_longestUnlikeAhead_25 : decode cX2_longestUnlikeAhead 25 = .ok (.aload_n 0, 1) := by decide +kernel
theorem dX2_longestUnlikeAhead_26 : decode cX2_longestUnlikeAhead 26 = .ok (.iload 4, 2) := by decide +kernel
theorem dX2_longestUnlikeAhead_28 : decode cX2_longestUnlikeAhead 28 = .ok (.iload_n 1, 1) := by decide +kernel
theorem dX2_longestUnlikeAhead_29 : decode cX2_longestUnlikeAhead 29 = .ok (.invokevirtual 77, 3) := by decide +kernel
theorem dX2_longestUnlikeAhead_32 : decode cX2_longestUnlikeAhead 32 = .ok (.if_icmp .eq 7, 3) := by decide +kernel
theorem dX2_longestUnlikeAhead_35 : decode cX2_longestUnlikeAhead 35 = .ok (.iconst 1, 1) := by decide +kernel
theorem dX2_longestUnlikeAhead_36 : decode cX2_longestUnlikeAhead 36 = .ok (.goto 4, 3) := by decide +kernel
theorem dX2_longestUnlikeAhead_39 : decode cX2_longestUnlikeAhead 39 = .ok (.iconst 0, 1) := by decide +kernel
theorem dX2_longestUnlikeAhead_40 : decode cX2_longestUnlikeAhead 40 = .ok (.istore 5, 2) := by decide +kernel
theorem dX2_longestUnlikeAhead_42 : decode cX2_longestUnlikeAhead 42 = .ok (.iload 5, 2) := by decide +kernel
theorem dX2_longestUnlikeAhead_44 : decode cX2_longestUnlikeAhead 44 = .ok (.ifCond .eq 9, 3) := by decide +kernel
theorem dX2_longestUnlikeAhead_47 : decode cX2_longestUnlikeAhead 47 = .ok (.iload_n 3, 1) := by decide +kernel
theorem dX2_longestUnlikeAhead_48 : decode cX2_longestUnlikeAhead 48 = .ok (.iconst 1, 1) := by decide +kernel
theorem dX2_longestUnlikeAhead_49 : decode cX2_longestUnlikeAhead 49 = .ok (.iadd, 1) := by decide +kernel
theorem dX2_longestUnlikeAhead_50 : decode cX2_longestUnlikeAhead 50 = .ok (.goto 4, 3) := by decide +kernel
theorem dX2_longestUnlikeAhead_53 : decode cX2_longestUnlikeAhead 53 = .ok (.iconst 0, 1) := by decide +kernel
theorem dX2_longestUnlikeAhead_54 : decode cX2_longestUnlikeAhead 54 = .ok (.istore_n 3, 1) := by decide +kernel
theorem dX2_longestUnlikeAhead_55 : decode cX2_longestUnlikeAhead 55 = .ok (.iload_n 2, 1) := by decide +kernel
theorem dX2_longestUnlikeAhead_56 : decode cX2_longestUnlikeAhead 56 = .ok (.iload_n 3, 1) := by decide +kernel
theorem dX2_longestUnlikeAhead_57 : decode cX2_longestUnlikeAhead 57 = .ok (.invokestatic 101, 3) := by decide +kernel
theorem dX2_longestUnlikeAhead_60 : decode cX2_longestUnlikeAhead 60 = .ok (.istore_n 2, 1) := by decide +kernel
theorem dX2_longestUnlikeAhead_61 : decode cX2_longestUnlikeAhead 61 = .ok (.iinc 4 1, 3) := by decide +kernel
theorem dX2_longestUnlikeAhead_64 : decode cX2_longestUnlikeAhead 64 = .ok (.goto (-57), 3) := by decide +kernel
theorem dX2_longestUnlikeAhead_67 : decode cX2_longestUnlikeAhead 67 = .ok (.iload_n 2, 1) := by decide +kernel
theorem dX2_longestUnlikeAhead_68 : decode cX2_longestUnlikeAhead 68 = .ok (.ireturn, 1) := by decide +kernel
theorem dX2_isSewnAhead_0 : decode cX2_isSewnAhead 0 = .ok (.iload_n 1, 1) := by decide +kernel
theorem dX2_isSewnAhead_1 : decode cX2_isSewnAhead 1 = .ok (.ifCond .lt 25, 3) := by decide +kernel
theorem dX2_isSewnAhead_4 : decode cX2_isSewnAhead 4 = .ok (.iload_n 1, 1) := by decide +kernel
theorem dX2_isSewnAhead_5 : decode cX2_isSewnAhead 5 = .ok (.aload_n 0, 1) := by decide +kernel
theorem dX2_isSewnAhead_6 : decode cX2_isSewnAhead 6 = .ok (.getfield 31, 3) := by decide +kernel
theorem dX2_isSewnAhead_9 : decode cX2_isSewnAhead 9 = .ok (.arraylength, 1) := by decide +kernel
theorem dX2_isSewnAhead_10 : decode cX2_isSewnAhead 10 = .ok (.if_icmp .ge 16, 3) := by decide +kernel
theorem dX2_isSewnAhead_13 : decode cX2_isSewnAhead 13 = .ok (.aload_n 0, 1) := by decide +kernel
theorem dX2_isSewnAhead_14 : decode cX2_isSewnAhead 14 = .ok (.getfield 31, 3) := by decide +kernel
theorem dX2_isSewnAhead_17 : decode cX2_isSewnAhead 17 = .ok (.iload_n 1, 1) := by decide +kernel
theorem dX2_isSewnAhead_18 : decode cX2_isSewnAhead 18 = .ok (.baload, 1) := by decide +kernel
theorem dX2_isSewnAhead_19 : decode cX2_isSewnAhead 19 = .ok (.ifCond .eq 7, 3) := by decide +kernel
theorem dX2_isSewnAhead_22 : decode cX2_isSewnAhead 22 = .ok (.iconst 1, 1) := by decide +kernel
theorem dX2_isSewnAhead_23 : decode cX2_isSewnAhead 23 = .ok (.goto 4, 3) := by decide +kernel
theorem dX2_isSewnAhead_26 : decode cX2_isSewnAhead 26 = .ok (.iconst 0, 1) := by decide +kernel
theorem dX2_isSewnAhead_27 : decode cX2_isSewnAhead 27 = .ok (.ireturn, 1) := by decide +kernel
theorem dX2_sewAhead_0 : decode cX2_sewAhead 0 = .ok (.aload_n 0, 1) := by decide +kernel
theorem dX2_sewAhead_1 : decode cX2_sewAhead 1 = .ok (.iload_n 1, 1) := by decide +kernel
theorem dX2_sewAhead_2 : decode cX2_sewAhead 2 = .ok (.iconst 1, 1) := by decide +kernel
theorem dX2_sewAhead_3 : decode cX2_sewAhead 3 = .ok (.invokevirtual 106, 3) := by decide +kernel
theorem dX2_sewAhead_6 : decode cX2_sewAhead 6 = .ok (.return_, 1) := by decide +kernel
theorem dX2_setSewnAhead_0 : decode cX2_setSewnAhead 0 = .ok (.iload_n 1, 1) := by decide +kernel
theorem dX2_setSewnAhead_1 : decode cX2_setSewnAhead 1 = .ok (.ifCond .lt 19, 3) := by decide +kernel
theorem dX2_setSewnAhead_4 : decode cX2_setSewnAhead 4 = .ok (.iload_n 1, 1) := by decide +kernel
theorem dX2_setSewnAhead_5 : decode cX2_setSewnAhead 5 = .ok (.aload_n 0, 1) := by decide +kernel
theorem dX2_setSewnAhead_6 : decode cX2_setSewnAhead 6 = .ok (.getfield 31, 3) := by decide +kernel
theorem dX2_setSewnAhead_9 : decode cX2_setSewnAhead 9 = .ok (.arraylength, 1) := by decide +kernel
theorem dX2_setSewnAhead_10 : decode cX2_setSewnAhead 10 = .ok (.if_icmp .ge 10, 3) := by decide +kernel
theorem dX2_setSewnAhead_13 : decode cX2_setSewnAhead 13 = .ok (.aload_n 0, 1) := by decide +kernel
theorem dX2_setSewnAhead_14 : decode cX2_setSewnAhead 14 = .ok (.getfield 31, 3) := by decide +kernel
theorem dX2_setSewnAhead_17 : decode cX2_setSewnAhead 17 = .ok (.iload_n 1, 1) := by decide +kernel
theorem dX2_setSewnAhead_18 : decode cX2_setSewnAhead 18 = .ok (.iload_n 2, 1) := by decide +kernel
theorem dX2_setSewnAhead_19 : decode cX2_setSewnAhead 19 = .ok (.bastore, 1) := by decide +kernel
theorem dX2_setSewnAhead_20 : decode cX2_setSewnAhead 20 = .ok (.return_, 1) := by decide +kernel
theorem dX2_fade_0 : decode cX2_fade 0 = .ok (.iconst 0, 1) := by decide +kernel
theorem dX2_fade_1 : decode cX2_fade 1 = .ok (.istore_n 3, 1) := by decide +kernel
theorem dX2_fade_2 : decode cX2_fade 2 = .ok (.iload_n 3, 1) := by decide +kernel
theorem dX2_fade_3 : decode cX2_fade 3 = .ok (.aload_n 0, 1) := by decide +kernel
theorem dX2_fade_4 : decode cX2_fade 4 = .ok (.getfield 35, 3) := by decide +kernel
theorem dX2_fade_7 : decode cX2_fade 7 = .ok (.if_icmp .ge 50, 3) := by decide +kernel
theorem dX2_fade_10 : decode cX2_fade 10 = .ok (.iconst 0, 1) := by decide +kernel
theorem dX2_fade_11 : decode cX2_fade 11 = .ok (.istore 4, 2) := by decide +kernel
theorem dX2_fade_13 : decode cX2_fade 13 = .ok (.iload 4, 2) := by decide +kernel
theorem dX2_fade_15 : decode cX2_fade 15 = .ok (.aload_n 0, 1) := by decide +kernel
theorem dX2_fade_16 : decode cX2_fade 16 = .ok (.getfield 9, 3) := by decide +kernel
theorem dX2_fade_19 : decode cX2_fade 19 = .ok (.if_icmp .ge 32, 3) := by decide +kernel
theorem dX2_fade_22 : decode cX2_fade 22 = .ok (.aload_n 0, 1) := by decide +kernel
theorem dX2_fade_23 : decode cX2_fade 23 = .ok (.iload_n 3, 1) := by decide +kernel
theorem dX2_fade_24 : decode cX2_fade 24 = .ok (.iload 4, 2) := by decide +kernel
theorem dX2_fade_26 : decode cX2_fade 26 = .ok (.iload_n 1, 1) := by decide +kernel
theorem dX2_fade_27 : decode cX2_fade 27 = .ok (.aload_n 2, 1) := by decide +kernel
theorem dX2_fade_28 : decode cX2_fade 28 = .ok (.aload_n 0, 1) := by decide +kernel
theorem dX2_fade_29 : decode cX2_fade 29 = .ok (.iload_n 3, 1) := by decide +kernel
theorem dX2_fade_30 : decode cX2_fade 30 = .ok (.iload 4, 2) := by decide +kernel
theorem dX2_fade_32 : decode cX2_fade 32 = .ok (.invokevirtual 82, 3) := by decide +kernel
theorem dX2_fade_35 : decode cX2_fade 35 = .ok (.invokevirtual 110, 3) := by decide +kernel
theorem dX2_fade_38 : decode cX2_fade 38 = .ok (.imul, 1) := by decide +kernel
theorem dX2_fade_39 : decode cX2_fade 39 = .ok (.bipush 100, 2) := by decide +kernel
theorem dX2_fade_41 : decode cX2_fade 41 = .ok (.idiv, 1) := by decide +kernel
theorem dX2_fade_42 : decode cX2_fade 42 = .ok (.invokevirtual 113, 3) := by decide +kernel
theorem dX2_fade_45 : decode cX2_fade 45 = .ok (.iinc 4 1, 3) := by decide +kernel
theorem dX2_fade_48 : decode cX2_fade 48 = .ok (.goto (-35), 3) := by decide +kernel
theorem dX2_fade_51 : decode cX2_fade 51 = .ok (.iinc 3 1, 3) := by decide +kernel
theorem dX2_fade_54 : decode cX2_fade 54 = .ok (.goto (-52), 3) := by decide +kernel
theorem dX2_fade_57 : decode cX2_fade 57 = .ok (.return_, 1) := by decide +kernel
theorem dX2_bleed_0 : decode cX2_bleed 0 = .ok (.iconst 0, 1) := by decide +kernel
theorem dX2_bleed_1 : decode cX2_bleed 1 = .ok (.istore_n 2, 1) := by decide +kernel
theorem dX2_bleed_2 : decode cX2_bleed 2 = .ok (.iload_n 2, 1) := by decide +kernel
theorem dX2_bleed_3 : decode cX2_bleed 3 = .ok (.aload_n 0, 1) := by decide +kernel
theorem dX2_bleed_4 : decode cX2_bleed 4 = .ok (.getfield 35, 3) := by decide +kernel
theorem dX2_bleed_7 : decode cX2_bleed 7 = .ok (.if_icmp .ge 82, 3) := by decide +kernel
theorem dX2_bleed_10 : decode cX2_bleed 10 = .ok (.iconst 0, 1) := by decide +kernel
theorem dX2_bleed_11 : decode cX2_bleed 11 = .ok (.istore_n 3, 1) := by decide +kernel
theorem dX2_bleed_12 : decode cX2_bleed 12 = .ok (.iload_n 3, 1) := by decide +kernel
theorem dX2_bleed_13 : decode cX2_bleed 13 = .ok (.aload_n 0, 1) := by decide +kernel
theorem dX2_bleed_14 : decode cX2_bleed 14 = .ok (.getfield 9, 3) := by decide +kernel
theorem dX2_bleed_17 : decode cX2_bleed 17 = .ok (.if_icmp .ge 66, 3) := by decide +kernel
theorem dX2_bleed_20 : decode cX2_bleed 20 = .ok (.aload_n 0, 1) := by decide +kernel
theorem dX2_bleed_21 : decode cX2_bleed 21 = .ok (.iload_n 2, 1) := by decide +kernel
theorem dX2_bleed_22 : decode cX2_bleed 22 = .ok (.iload_n 3, 1) := by decide +kernel
theorem dX2_bleed_23 : decode cX2_bleed 23 = .ok (.invokevirtual 82, 3) := by decide +kernel
theorem dX2_bleed_26 : decode cX2_bleed 26 = .ok (.istore 4, 2) := by decide +kernel
theorem dX2_bleed_28 : decode cX2_bleed 28 = .ok (.aload_n 1, 1) := by decide +kernel
theorem dX2_bleed_29 : decode cX2_bleed 29 = .ok (.iload 4, 2) := by decide +kernel
theorem dX2_bleed_31 : decode cX2_bleed 31 = .ok (.invokevirtual 117, 3) := by decide +kernel
theorem dX2_bleed_34 : decode cX2_bleed 34 = .ok (.ifCond .eq 43, 3) := by decide +kernel
theorem dX2_bleed_37 : decode cX2_bleed 37 = .ok (.aload_n 0, 1) := by decide +kernel
theorem dX2_bleed_38 : decode cX2_bleed 38 = .ok (.iload_n 2, 1) := by decide +kernel
theorem dX2_bleed_39 : decode cX2_bleed 39 = .ok (.iload_n 3, 1) := by decide +kernel
theorem dX2_bleed_40 : decode cX2_bleed 40 = .ok (.iconst 1, 1) := by decide +kernel
theorem dX2_bleed_41 : decode cX2_bleed 41 = .ok (.isub, 1) := by decide +kernel
theorem dX2_bleed_42 : decode cX2_bleed 42 = .ok (.iload 4, 2) := by decide +kernel
theorem dX2_bleed_44 : decode cX2_bleed 44 = .ok (.invokevirtual 120, 3) := by decide +kernel
theorem dX2_bleed_47 : decode cX2_bleed 47 = .ok (.aload_n 0, 1) := by decide +kernel
theorem dX2_bleed_48 : decode cX2_bleed 48 = .ok (.iload_n 2, 1) := by decide +kernel
theorem dX2_bleed_49 : decode cX2_bleed 49 = .ok (.iload_n 3, 1) := by decide +kernel
theorem dX2_bleed_50 : decode cX2_bleed 50 = .ok (.iconst 1, 1) := by decide +kernel
theorem dX2_bleed_51 : decode cX2_bleed 51 = .ok (.iadd, 1) := by decide +kernel
theorem dX2_bleed_52 : decode cX2_bleed 52 = .ok (.iload 4, 2) := by decide +kernel
theorem dX2_bleed_54 : decode cX2_bleed 54 = .ok (.invokevirtual 120, 3) := by decide +kernel
theorem dX2_bleed_57 : decode cX2_bleed 57 = .ok (.aload_n 0, 1) := by decide +kernel
theorem dX2_bleed_58 : decode cX2_bleed 58 = .ok (.iload_n 2, 1) := by decide +kernel
theorem dX2_bleed_59 : decode cX2_bleed 59 = .ok (.iconst 1, 1) := by decide +kernel
theorem dX2_bleed_60 : decode cX2_bleed 60 = .ok (.isub, 1) := by decide +kernel
theorem dX2_bleed_61 : decode cX2_bleed 61 = .ok (.iload_n 3, 1) := by decide +kernel
theorem dX2_bleed_62 : decode cX2_bleed 62 = .ok (.iload 4, 2) := by decide +kernel
theorem dX2_bleed_64 : decode cX2_bleed 64 = .ok (.invokevirtual 120, 3) := by decide +kernel
theorem dX2_bleed_67 : decode cX2_bleed 67 = .ok (.aload_n 0, 1) := by decide +kernel
theorem dX2_bleed_68 : decode cX2_bleed 68 = .ok (.iload_n 2, 1) := by decide +kernel
theorem dX2_bleed_69 : decode cX2_bleed 69 = .ok (.iconst 1, 1) := by decide +kernel
theorem dX2_bleed_70 : decode cX2_bleed 70 = .ok (.iadd, 1) := by decide +kernel
theorem dX2_bleed_71 : decode cX2_bleed 71 = .ok (.iload_n 3, 1) := by decide +kernel
theorem dX2_bleed_72 : decode cX2_bleed 72 = .ok (.iload 4, 2) := by decide +kernel
theorem dX2_bleed_74 : decode cX2_bleed 74 = .ok (.invokevirtual 120, 3) := by decide +kernel
theorem dX2_bleed_77 : decode cX2_bleed 77 = .ok (.iinc 3 1, 3) := by decide +kernel
theorem dX2_bleed_80 : decode cX2_bleed 80 = .ok (.goto (-68), 3) := by decide +kernel
theorem dX2_bleed_83 : decode cX2_bleed 83 = .ok (.iinc 2 1, 3) := by decide +kernel
theorem dX2_bleed_86 : decode cX2_bleed 86 = .ok (.goto (-84), 3) := by decide +kernel
theorem dX2_bleed_89 : decode cX2_bleed 89 = .ok (.return_, 1) := by decide +kernel
theorem dX2_stain_0 : decode cX2_stain 0 = .ok (.aload_n 0, 1) := by decide +kernel
theorem dX2_stain_1 : decode cX2_stain 1 = .ok (.iload_n 1, 1) := by decide +kernel
theorem dX2_stain_2 : decode cX2_stain 2 = .ok (.iload_n 2, 1) := by decide +kernel
theorem dX2_stain_3 : decode cX2_stain 3 = .ok (.invokevirtual 123, 3) := by decide +kernel
theorem dX2_stain_6 : decode cX2_stain 6 = .ok (.ifCond .eq 20, 3) := by decide +kernel
theorem dX2_stain_9 : decode cX2_stain 9 = .ok (.aload_n 0, 1) := by decide +kernel
theorem dX2_stain_10 : decode cX2_stain 10 = .ok (.iload_n 1, 1) := by decide +kernel
theorem dX2_stain_11 : decode cX2_stain 11 = .ok (.iload_n 2, 1) := by decide +kernel
theorem dX2_stain_12 : decode cX2_stain 12 = .ok (.invokevirtual 82, 3) := by decide +kernel
theorem dX2_stain_15 : decode cX2_stain 15 = .ok (.iload_n 3, 1) := by decide +kernel
theorem dX2_stain_16 : decode cX2_stain 16 = .ok (.if_icmp .eq 10, 3) := by decide +kernel
theorem dX2_stain_19 : decode cX2_stain 19 = .ok (.aload_n 0, 1) := by decide +kernel
theorem dX2_stain_20 : decode cX2_stain 20 = .ok (.iload_n 1, 1) := by decide +kernel
theorem dX2_stain_21 : decode cX2_stain 21 = .ok (.iload_n 2, 1) := by decide +kernel
theorem dX2_stain_22 : decode cX2_stain 22 = .ok (.iconst 5, 1) := by decide +kernel
theorem dX2_stain_23 : decode cX2_stain 23 = .ok (.invokevirtual 113, 3) := by decide +kernel
theorem dX2_stain_26 : decode cX2_stain 26 = .ok (.return_, 1) := by decide +kernel
theorem dX2_dim_0 : decode cX2_dim 0 = .ok (.aload_n 0, 1) := by decide +kernel
theorem dX2_dim_1 : decode cX2_dim 1 = .ok (.getfield 25, 3) := by decide +kernel
theorem dX2_dim_4 : decode cX2_dim 4 = .ok (.iload_n 1, 1) := by decide +kernel
theorem dX2_dim_5 : decode cX2_dim 5 = .ok (.iload_n 2, 1) := by decide +kernel
theorem dX2_dim_6 : decode cX2_dim 6 = .ok (.invokestatic 41, 3) := by decide +kernel
theorem dX2_dim_9 : decode cX2_dim 9 = .ok (.iconst 0, 1) := by decide +kernel
theorem dX2_dim_10 : decode cX2_dim 10 = .ok (.aload_n 0, 1) := by decide +kernel
theorem dX2_dim_11 : decode cX2_dim 11 = .ok (.iload_n 1, 1) := by decide +kernel
theorem dX2_dim_12 : decode cX2_dim 12 = .ok (.iload_n 2, 1) := by decide +kernel
theorem dX2_dim_13 : decode cX2_dim 13 = .ok (.invokevirtual 88, 3) := by decide +kernel
theorem dX2_dim_16 : decode cX2_dim 16 = .ok (.iload_n 3, 1) := by decide +kernel
theorem dX2_dim_17 : decode cX2_dim 17 = .ok (.isub, 1) := by decide +kernel
theorem dX2_dim_18 : decode cX2_dim 18 = .ok (.invokestatic 101, 3) := by decide +kernel
theorem dX2_dim_21 : decode cX2_dim 21 = .ok (.invokestatic 57, 3) := by decide +kernel
theorem dX2_dim_24 : decode cX2_dim 24 = .ok (.return_, 1) := by decide +kernel
theorem dX2_append_0 : decode cX2_append 0 = .ok (.iload_n 2, 1) := by decide +kernel
theorem dX2_append_1 : decode cX2_append 1 = .ok (.istore_n 3, 1) := by decide +kernel
theorem dX2_append_2 : decode cX2_append 2 = .ok (.iload_n 3, 1) := by decide +kernel
theorem dX2_append_3 : decode cX2_append 3 = .ok (.aload_n 1, 1) := by decide +kernel
theorem dX2_append_4 : decode cX2_append 4 = .ok (.getfield 9, 3) := by decide +kernel
theorem dX2_append_7 : decode cX2_append 7 = .ok (.if_icmp .ge 64, 3) := by decide +kernel
theorem dX2_append_10 : decode cX2_append 10 = .ok (.aload_n 0, 1) := by decide +kernel
theorem dX2_append_11 : decode cX2_append 11 = .ok (.getfield 9, 3) := by decide +kernel
theorem dX2_append_14 : decode cX2_append 14 = .ok (.bipush 24, 2) := by decide +kernel
theorem dX2_append_16 : decode cX2_append 16 = .ok (.if_icmp .ge 55, 3) := by decide +kernel
theorem dX2_append_19 : decode cX2_append 19 = .ok (.aload_n 0, 1) := by decide +kernel
theorem dX2_append_20 : decode cX2_append 20 = .ok (.aload_n 1, 1) := by decide +kernel
theorem dX2_append_21 : decode cX2_append 21 = .ok (.iload_n 3, 1) := by decide +kernel
theorem dX2_append_22 : decode cX2_append 22 = .ok (.aload_n 0, 1) := by decide +kernel
theorem dX2_append_23 : decode cX2_append 23 = .ok (.getfield 9, 3) := by decide +kernel
theorem dX2_append_26 : decode cX2_append 26 = .ok (.invokevirtual 127, 3) := by decide +kernel
theorem dX2_append_29 : decode cX2_append 29 = .ok (.aload_n 0, 1) := by decide +kernel
theorem dX2_append_30 : decode cX2_append 30 = .ok (.aload_n 0, 1) := by decide +kernel
theorem dX2_append_31 : decode cX2_append 31 = .ok (.getfield 9, 3) := by decide +kernel
theorem dX2_append_34 : decode cX2_append 34 = .ok (.iload_n 3, 1) := by decide +kernel
theorem dX2_append_35 : decode cX2_append 35 = .ok (.iload_n 2, 1) := by decide +kernel
theorem dX2_append_36 : decode cX2_append 36 = .ok (.if_icmp .le 15, 3) := by decide +kernel
theorem dX2_append_39 : decode cX2_append 39 = .ok (.aload_n 1, 1) := by decide +kernel
theorem dX2_append_40 : decode cX2_append 40 = .ok (.iload_n 3, 1) := by decide +kernel
theorem dX2_append_41 : decode cX2_append 41 = .ok (.invokevirtual 95, 3) := by decide +kernel
theorem dX2_append_44 : decode cX2_append 44 = .ok (.ifCond .eq 7, 3) := by decide +kernel
theorem dX2_append_47 : decode cX2_append 47 = .ok (.iconst 1, 1) := by decide +kernel
theorem dX2_append_48 : decode cX2_append 48 = .ok (.goto 4, 3) := by decide +kernel
theorem dX2_append_51 : decode cX2_append 51 = .ok (.iconst 0, 1) := by decide +kernel
theorem dX2_append_52 : decode cX2_append 52 = .ok (.invokevirtual 106, 3) := by decide +kernel
theorem dX2_append_55 : decode cX2_append 55 = .ok (.aload_n 0, 1) := by decide +kernel
theorem dX2_append_56 : decode cX2_append 56 = .ok (.dup, 1) := by decide +kernel
theorem dX2_append_57 : decode cX2_append 57 = .ok (.getfield 9, 3) := by decide +kernel
theorem dX2_append_60 : decode cX2_append 60 = .ok (.iconst 1, 1) := by decide +kernel
theorem dX2_append_61 : decode cX2_append 61 = .ok (.iadd, 1) := by decide +kernel
theorem dX2_append_62 : decode cX2_append 62 = .ok (.putfield 9, 3) := by decide +kernel
theorem dX2_append_65 : decode cX2_append 65 = .ok (.iinc 3 1, 3) := by decide +kernel
theorem dX2_append_68 : decode cX2_append 68 = .ok (.goto (-66), 3) := by decide +kernel
theorem dX2_append_71 : decode cX2_append 71 = .ok (.return_, 1) := by decide +kernel
theorem dX2_copyColumn_0 : decode cX2_copyColumn 0 = .ok (.aload_n 0, 1) := by decide +kernel
theorem dX2_copyColumn_1 : decode cX2_copyColumn 1 = .ok (.getfield 28, 3) := by decide +kernel
theorem dX2_copyColumn_4 : decode cX2_copyColumn 4 = .ok (.iload_n 3, 1) := by decide +kernel
theorem dX2_copyColumn_5 : decode cX2_copyColumn 5 = .ok (.aload_n 1, 1) := by decide +kernel
theorem dX2_copyColumn_6 : decode cX2_copyColumn 6 = .ok (.getfield 28, 3) := by decide +kernel
theorem dX2_copyColumn_9 : decode cX2_copyColumn 9 = .ok (.iload_n 2, 1) := by decide +kernel
theorem dX2_copyColumn_10 : decode cX2_copyColumn 10 = .ok (.invokestatic 45, 3) := by decide +kernel
theorem dX2_copyColumn_13 : decode cX2_copyColumn 13 = .ok (.invokestatic 57, 3) := by decide +kernel
theorem dX2_copyColumn_16 : decode cX2_copyColumn 16 = .ok (.iconst 0, 1) := by decide +kernel
theorem dX2_copyColumn_17 : decode cX2_copyColumn 17 = .ok (.istore 4, 2) := by decide +kernel
theorem dX2_copyColumn_19 : decode cX2_copyColumn 19 = .ok (.iload 4, 2) := by decide +kernel
theorem dX2_copyColumn_21 : decode cX2_copyColumn 21 = .ok (.aload_n 0, 1) := by decide +kernel
theorem dX2_copyColumn_22 : decode cX2_copyColumn 22 = .ok (.getfield 35, 3) := by decide +kernel
theorem dX2_copyColumn_25 : decode cX2_copyColumn 25 = .ok (.if_icmp .ge 69, 3) := by decide +kernel
theorem dX2_copyColumn_28 : decode cX2_copyColumn 28 = .ok (.aload_n 0, 1) := by decide +kernel
theorem dX2_copyColumn_29 : decode cX2_copyColumn 29 = .ok (.getfield 19, 3) := by decide +kernel
theorem dX2_copyColumn_32 : decode cX2_copyColumn 32 = .ok (.iload 4, 2) := by decide +kernel
theorem dX2_copyColumn_34 : decode cX2_copyColumn 34 = .ok (.iload_n 3, 1) := by decide +kernel
theorem dX2_copyColumn_35 : decode cX2_copyColumn 35 = .ok (.invokestatic 41, 3) := by decide +kernel
theorem dX2_copyColumn_38 : decode cX2_copyColumn 38 = .ok (.aload_n 1, 1) := by decide +kernel
theorem dX2_copyColumn_39 : decode cX2_copyColumn 39 = .ok (.iload 4, 2) := by decide +kernel
theorem dX2_copyColumn_41 : decode cX2_copyColumn 41 = .ok (.iload_n 2, 1) := by decide +kernel
theorem dX2_copyColumn_42 : decode cX2_copyColumn 42 = .ok (.invokevirtual 77, 3) := by decide +kernel
theorem dX2_copyColumn_45 : decode cX2_copyColumn 45 = .ok (.invokestatic 57, 3) := by decide +kernel
theorem dX2_copyColumn_48 : decode cX2_copyColumn 48 = .ok (.aload_n 0, 1) := by decide +kernel
theorem dX2_copyColumn_49 : decode cX2_copyColumn 49 = .ok (.getfield 22, 3) := by decide +kernel
theorem dX2_copyColumn_52 : decode cX2_copyColumn 52 = .ok (.iload 4, 2) := by decide +kernel
theorem dX2_copyColumn_54 : decode cX2_copyColumn 54 = .ok (.iload_n 3, 1) := by decide +kernel
theorem dX2_copyColumn_55 : decode cX2_copyColumn 55 = .ok (.invokestatic 41, 3) := by decide +kernel
theorem dX2_copyColumn_58 : decode cX2_copyColumn 58 = .ok (.aload_n 1, 1) := by decide +kernel
theorem dX2_copyColumn_59 : decode cX2_copyColumn 59 = .ok (.iload 4, 2) := by decide +kernel
theorem dX2_copyColumn_61 : decode cX2_copyColumn 61 = .ok (.iload_n 2, 1) := by decide +kernel
theorem dX2_copyColumn_62 : decode cX2_copyColumn 62 = .ok (.invokevirtual 82, 3) := by decide +kernel
theorem dX2_copyColumn_65 : decode cX2_copyColumn 65 = .ok (.invokestatic 57, 3) := by decide +kernel
theorem dX2_copyColumn_68 : decode cX2_copyColumn 68 = .ok (.aload_n 0, 1) := by decide +kernel
theorem dX2_copyColumn_69 : decode cX2_copyColumn 69 = .ok (.getfield 25, 3) := by decide +kernel
theorem dX2_copyColumn_72 : decode cX2_copyColumn 72 = .ok (.iload 4, 2) := by decide +kernel
theorem dX2_copyColumn_74 : decode cX2_copyColumn 74 = .ok (.iload_n 3, 1) := by decide +kernel
theorem dX2_copyColumn_75 : decode cX2_copyColumn 75 = .ok (.invokestatic 41, 3) := by decide +kernel
theorem dX2_copyColumn_78 : decode cX2_copyColumn 78 = .ok (.aload_n 1, 1) := by decide +kernel
theorem dX2_copyColumn_79 : decode cX2_copyColumn 79 = .ok (.iload 4, 2) := by decide +kernel
theorem dX2_copyColumn_81 : decode cX2_copyColumn 81 = .ok (.iload_n 2, 1) := by decide +kernel
theorem dX2_copyColumn_82 : decode cX2_copyColumn 82 = .ok (.invokevirtual 88, 3) := by decide +kernel
theorem dX2_copyColumn_85 : decode cX2_copyColumn 85 = .ok (.invokestatic 57, 3) := by decide +kernel
theorem dX2_copyColumn_88 : decode cX2_copyColumn 88 = .ok (.iinc 4 1, 3) := by decide +kernel
theorem dX2_copyColumn_91 : decode cX2_copyColumn 91 = .ok (.goto (-72), 3) := by decide +kernel
theorem dX2_copyColumn_94 : decode cX2_copyColumn 94 = .ok (.return_, 1) := by decide +kernel
theorem dX2_keepAhead_0 : decode cX2_keepAhead 0 = .ok (.aload_n 0, 1) := by decide +kernel
theorem dX2_keepAhead_1 : decode cX2_keepAhead 1 = .ok (.iload_n 1, 1) := by decide +kernel
theorem dX2_keepAhead_2 : decode cX2_keepAhead 2 = .ok (.putfield 9, 3) := by decide +kernel
theorem dX2_keepAhead_5 : decode cX2_keepAhead 5 = .ok (.return_, 1) := by decide +kernel
theorem dX2_countMatching_0 : decode cX2_countMatching 0 = .ok (.iconst 0, 1) := by decide +kernel
theorem dX2_countMatching_1 : decode cX2_countMatching 1 = .ok (.istore_n 2, 1) := by decide +kernel
theorem dX2_countMatching_2 : decode cX2_countMatching 2 = .ok (.iconst 0, 1) := by decide +kernel
theorem dX2_countMatching_3 : decode cX2_countMatching 3 = .ok (.istore_n 3, 1) := by decide +kernel
theorem dX2_countMatching_4 : decode cX2_countMatching 4 = .ok (.iload_n 3, 1) := by decide +kernel
theorem dX2_countMatching_5 : decode cX2_countMatching 5 = .ok (.aload_n 0, 1) := by decide +kernel
theorem dX2_countMatching_6 : decode cX2_countMatching 6 = .ok (.getfield 35, 3) := by decide +kernel
theorem dX2_countMatching_9 : decode cX2_countMatching 9 = .ok (.if_icmp .ge 32, 3) := by decide +kernel
theorem dX2_countMatching_12 : decode cX2_countMatching 12 = .ok (.aload_n 0, 1) := by decide +kernel
theorem dX2_countMatching_13 : decode cX2_countMatching 13 = .ok (.iload_n 3, 1) := by decide +kernel
theorem dX2_countMatching_14 : decode cX2_countMatching 14 = .ok (.aload_n 0, 1) := by decide +kernel
theorem dX2_countMatching_15 : decode cX2_countMatching 15 = .ok (.getfield 9, 3) := by decide +kernel
theorem dX2_countMatching_18 : decode cX2_countMatching 18 = .ok (.iconst 1, 1) := by decide +kernel
theorem dX2_countMatching_19 : decode cX2_countMatching 19 = .ok (.isub, 1) := by decide +kernel
theorem dX2_countMatching_20 : decode cX2_countMatching 20 = .ok (.invokevirtual 82, 3) := by decide +kernel
theorem dX2_countMatching_23 : decode cX2_countMatching 23 = .ok (.aload_n 1, 1) := by decide +kernel
theorem dX2_countMatching_24 : decode cX2_countMatching 24 = .ok (.iload_n 3, 1) := by decide +kernel
theorem dX2_countMatching_25 : decode cX2_countMatching 25 = .ok (.iconst 0, 1) := by decide +kernel
theorem dX2_countMatching_26 : decode cX2_countMatching 26 = .ok (.invokevirtual 82, 3) := by decide +kernel
theorem dX2_countMatching_29 : decode cX2_countMatching 29 = .ok (.if_icmp .ne 6, 3) := by decide +kernel
theorem dX2_countMatching_32 : decode cX2_countMatching 32 = .ok (.iinc 2 1, 3) := by decide +kernel
theorem dX2_countMatching_35 : decode cX2_countMatching 35 = .ok (.iinc 3 1, 3) := by decide +kernel
theorem dX2_countMatching_38 : decode cX2_countMatching 38 = .ok (.goto (-34), 3) := by decide +kernel
theorem dX2_countMatching_41 : decode cX2_countMatching 41 = .ok (.iload_n 2, 1) := by decide +kernel
theorem dX2_countMatching_42 : decode cX2_countMatching 42 = .ok (.ireturn, 1) := by decide +kernel
theorem dX2_isTrueAhead_0 : decode cX2_isTrueAhead 0 = .ok (.aload_n 0, 1) := by decide +kernel
theorem dX2_isTrueAhead_1 : decode cX2_isTrueAhead 1 = .ok (.getfield 28, 3) := by decide +kernel
theorem dX2_isTrueAhead_4 : decode cX2_isTrueAhead 4 = .ok (.iload_n 1, 1) := by decide +kernel
theorem dX2_isTrueAhead_5 : decode cX2_isTrueAhead 5 = .ok (.iconst 1, 1) := by decide +kernel
theorem dX2_isTrueAhead_6 : decode cX2_isTrueAhead 6 = .ok (.isub, 1) := by decide +kernel
theorem dX2_isTrueAhead_7 : decode cX2_isTrueAhead 7 = .ok (.invokestatic 45, 3) := by decide +kernel
theorem dX2_isTrueAhead_10 : decode cX2_isTrueAhead 10 = .ok (.iconst 1, 1) := by decide +kernel
theorem dX2_isTrueAhead_11 : decode cX2_isTrueAhead 11 = .ok (.iadd, 1) := by decide +kernel
theorem dX2_isTrueAhead_12 : decode cX2_isTrueAhead 12 = .ok (.aload_n 0, 1) := by decide +kernel
theorem dX2_isTrueAhead_13 : decode cX2_isTrueAhead 13 = .ok (.getfield 28, 3) := by decide +kernel
theorem dX2_isTrueAhead_16 : decode cX2_isTrueAhead 16 = .ok (.iload_n 1, 1) := by decide +kernel
theorem dX2_isTrueAhead_17 : decode cX2_isTrueAhead 17 = .ok (.invokestatic 45, 3) := by decide +kernel
theorem dX2_isTrueAhead_20 : decode cX2_isTrueAhead 20 = .ok (.if_icmp .ne 7, 3) := by decide +kernel
theorem dX2_isTrueAhead_23 : decode cX2_isTrueAhead 23 = .ok (.iconst 1, 1) := by decide +kernel
theorem dX2_isTrueAhead_24 : decode cX2_isTrueAhead 24 = .ok (.goto 4, 3) := by decide +kernel
theorem dX2_isTrueAhead_27 : decode cX2_isTrueAhead 27 = .ok (.iconst 0, 1) := by decide +kernel
theorem dX2_isTrueAhead_28 : decode cX2_isTrueAhead 28 = .ok (.ireturn, 1) := by decide +kernel
theorem dX2_isAllTrue_0 : decode cX2_isAllTrue 0 = .ok (.iconst 1, 1) := by decide +kernel
theorem dX2_isAllTrue_1 : decode cX2_isAllTrue 1 = .ok (.istore_n 1, 1) := by decide +kernel
theorem dX2_isAllTrue_2 : decode cX2_isAllTrue 2 = .ok (.iload_n 1, 1) := by decide +kernel
theorem dX2_isAllTrue_3 : decode cX2_isAllTrue 3 = .ok (.aload_n 0, 1) := by decide +kernel
theorem dX2_isAllTrue_4 : decode cX2_isAllTrue 4 = .ok (.getfield 9, 3) := by decide +kernel
theorem dX2_isAllTrue_7 : decode cX2_isAllTrue 7 = .ok (.if_icmp .ge 19, 3) := by decide +kernel
theorem dX2_isAllTrue_10 : decode cX2_isAllTrue 10 = .ok (.aload_n 0, 1) := by decide +kernel
theorem dX2_isAllTrue_11 : decode cX2_isAllTrue 11 = .ok (.iload_n 1, 1) := by decide +kernel
theorem dX2_isAllTrue_12 : decode cX2_isAllTrue 12 = .ok (.invokevirtual 131, 3) := by decide +kernel
theorem dX2_isAllTrue_15 : decode cX2_isAllTrue 15 = .ok (.ifCond .ne 5, 3) := by decide +kernel
theorem dX2_isAllTrue_18 : decode cX2_isAllTrue 18 = .ok (.iconst 0, 1) := by decide +kernel
theorem dX2_isAllTrue_19 : decode cX2_isAllTrue 19 = .ok (.ireturn, 1) := by decide +kernel
theorem dX2_isAllTrue_20 : decode cX2_isAllTrue 20 = .ok (.iinc 1 1, 3) := by decide +kernel
theorem dX2_isAllTrue_23 : decode cX2_isAllTrue 23 = .ok (.goto (-21), 3) := by decide +kernel
theorem dX2_isAllTrue_26 : decode cX2_isAllTrue 26 = .ok (.iconst 1, 1) := by decide +kernel
theorem dX2_isAllTrue_27 : decode cX2_isAllTrue 27 = .ok (.ireturn, 1) := by decide +kernel
theorem dX3_init_0 : decode cX3_init 0 = .ok (.aload_n 0, 1) := by decide +kernel
theorem dX3_init_1 : decode cX3_init 1 = .ok (.invokespecial 1, 3) := by decide +kernel
theorem dX3_init_4 : decode cX3_init 4 = .ok (.aload_n 0, 1) := by decide +kernel
theorem dX3_init_5 : decode cX3_init 5 = .ok (.bipush 12, 2) := by decide +kernel
theorem dX3_init_7 : decode cX3_init 7 = .ok (.newarray .int, 2) := by decide +kernel
theorem dX3_init_9 : decode cX3_init 9 = .ok (.putfield 9, 3) := by decide +kernel
theorem dX3_init_12 : decode cX3_init 12 = .ok (.aload_n 0, 1) := by decide +kernel
theorem dX3_init_13 : decode cX3_init 13 = .ok (.iconst 0, 1) := by decide +kernel
theorem dX3_init_14 : decode cX3_init 14 = .ok (.putfield 13, 3) := by decide +kernel
theorem dX3_init_17 : decode cX3_init 17 = .ok (.aload_n 0, 1) := by decide +kernel
theorem dX3_init_18 : decode cX3_init 18 = .ok (.iconst 5, 1) := by decide +kernel
theorem dX3_init_19 : decode cX3_init 19 = .ok (.anewarray 17, 3) := by decide +kernel
theorem dX3_init_22 : decode cX3_init 22 = .ok (.putfield 19, 3) := by decide +kernel
theorem dX3_init_25 : decode cX3_init 25 = .ok (.aload_n 0, 1) := by decide +kernel
theorem dX3_init_26 : decode cX3_init 26 = .ok (.iconst 0, 1) := by decide +kernel
theorem dX3_init_27 : decode cX3_init 27 = .ok (.putfield 23, 3) := by decide +kernel
theorem dX3_init_30 : decode cX3_init 30 = .ok (.aload_n 0, 1) := by decide +kernel
theorem dX3_init_31 : decode cX3_init 31 = .ok (.new 26, 3) := by decide +kernel
theorem dX3_init_34 : decode cX3_init 34 = .ok (.dup, 1) := by decide +kernel
theorem dX3_init_35 : decode cX3_init 35 = .ok (.invokespecial 28, 3) := by decide +kernel
theorem dX3_init_38 : decode cX3_init 38 = .ok (.putfield 29, 3) := by decide +kernel
theorem dX3_init_41 : decode cX3_init 41 = .ok (.aload_n 0, 1) := by decide +kernel
theorem dX3_init_42 : decode cX3_init 42 = .ok (.bipush 20, 2) := by decide +kernel
theorem dX3_init_44 : decode cX3_init 44 = .ok (.anewarray 33, 3) := by decide +kernel
theorem dX3_init_47 : decode cX3_init 47 = .ok (.putfield 35, 3) := by decide +kernel
theorem dX3_init_50 : decode cX3_init 50 = .ok (.aload_n 0, 1) := by decide +kernel
theorem dX3_init_51 : decode cX3_init 51 = .ok (.iconst 0, 1) := by decide +kernel
theorem dX3_init_52 : decode cX3_init 52 = .ok (.putfield 39, 3) := by decide +kernel
theorem dX3_init_55 : decode cX3_init 55 = .ok (.aload_n 0, 1) := by decide +kernel
theorem dX3_init_56 : decode cX3_init 56 = .ok (.bipush 20, 2) := by decide +kernel
theorem dX3_init_58 : decode cX3_init 58 = .ok (.newarray .int, 2) := by decide +kernel
theorem dX3_init_60 : decode cX3_init 60 = .ok (.putfield 42, 3) := by decide +kernel
theorem dX3_init_63 : decode cX3_init 63 = .ok (.return_, 1) := by decide +kernel
theorem dX3_type_0 : decode cX3_type 0 = .ok (.iload_n 1, 1) := by decide +kernel
theorem dX3_type_1 : decode cX3_type 1 = .ok (.invokestatic 45, 3) := by decide +kernel
theorem dX3_type_4 : decode cX3_type 4 = .ok (.istore_n 2, 1) := by decide +kernel
theorem dX3_type_5 : decode cX3_type 5 = .ok (.iload_n 2, 1) := by decide +kernel
theorem dX3_type_6 : decode cX3_type 6 = .ok (.iconst (-1), 1) := by decide +kernel
theorem dX3_type_7 : decode cX3_type 7 = .ok (.if_icmp .ne 13, 3) := by decide +kernel
theorem dX3_type_10 : decode cX3_type 10 = .ok (.new 49, 3) := by decide +kernel
theorem dX3_type_13 : decode cX3_type 13 = .ok (.dup, 1) := by decide +kernel
theorem dX3_type_14 : decode cX3_type 14 = .ok (.ldc 51, 2) := by decide +kernel
theorem dX3_type_16 : decode cX3_type 16 = .ok (.invokespecial 53, 3) := by decide +kernel
theorem dX3_type_19 : decode cX3_type 19 = .ok (.athrow, 1) := by decide +kernel
theorem dX3_type_20 : decode cX3_type 20 = .ok (.aload_n 0, 1) := by decide +kernel
theorem dX3_type_21 : decode cX3_type 21 = .ok (.getfield 13, 3) := by decide +kernel
theorem dX3_type_24 : decode cX3_type 24 = .ok (.bipush 12, 2) := by decide +kernel
theorem dX3_type_26 : decode cX3_type 26 = .ok (.if_icmp .lt 13, 3) := by decide +kernel
theorem dX3_type_29 : decode cX3_type 29 = .ok (.new 56, 3) := by decide +kernel
theorem dX3_type_32 : decode cX3_type 32 = .ok (.dup, 1) := by decide +kernel
theorem dX3_type_33 : decode cX3_type 33 = .ok (.ldc 58, 2) := by decide +kernel
theorem dX3_type_35 : decode cX3_type 35 = .ok (.invokespecial 60, 3) := by decide +kernel
theorem dX3_type_38 : decode cX3_type 38 = .ok (.athrow, 1) := by decide +kernel
theorem dX3_type_39 : decode cX3_type 39 = .ok (.aload_n 0, 1) := by decide +kernel
theorem dX3_type_40 : decode cX3_type 40 = .ok (.getfield 9, 3) := by decide +kernel
theorem dX3_type_43 : decode cX3_type 43 = .ok (.aload_n 0, 1) := by decide +kernel
theorem dX3_type_44 : decode cX3_type 44 = .ok (.getfield 13, 3) := by decide +kernel
theorem dX3_type_47 : decode cX3_type 47 = .ok (.iload_n 2, 1) := by decide +kernel
theorem dX3_type_48 : decode cX3_type 48 = .ok (.invokestatic 61, 3) := by decide +kernel
theorem dX3_type_51 : decode cX3_type 51 = .ok (.aload_n 0, 1) := by decide +kernel
theorem dX3_type_52 : decode cX3_type 52 = .ok (.dup, 1) := by decide +kernel
theorem dX3_type_53 : decode cX3_type 53 = .ok (.getfield 13, 3) := by decide +kernel
theorem dX3_type_56 : decode cX3_type 56 = .ok (.iconst 1, 1) := by decide +kernel
theorem dX3_type_57 : decode cX3_type 57 = .ok (.iadd, 1) := by decide +kernel
theorem dX3_type_58 : decode cX3_type 58 = .ok (.putfield 13, 3) := by decide +kernel
theorem dX3_type_61 : decode cX3_type 61 = .ok (.aload_n 0, 1) := by decide +kernel
theorem dX3_type_62 : decode cX3_type 62 = .ok (.getfield 13, 3) := by decide +kernel
theorem dX3_type_65 : decode cX3_type 65 = .ok (.ireturn, 1) := by decide +kernel
theorem dX3_empty_0 : decode cX3_empty 0 = .ok (.aload_n 0, 1) := by decide +kernel
theorem dX3_empty_1 : decode cX3_empty 1 = .ok (.getfield 13, 3) := by decide +kernel
theorem dX3_empty_4 : decode cX3_empty 4 = .ok (.istore_n 1, 1) := by decide +kernel
theorem dX3_empty_5 : decode cX3_empty 5 = .ok (.aload_n 0, 1) := by decide +kernel
theorem dX3_empty_6 : decode cX3_empty 6 = .ok (.iconst 0, 1) := by decide +kernel
theorem dX3_empty_7 : decode cX3_empty 7 = .ok (.putfield 13, 3) := by decide +kernel
theorem dX3_empty_10 : decode cX3_empty 10 = .ok (.iload_n 1, 1) := by decide +kernel
theorem dX3_empty_11 : decode cX3_empty 11 = .ok (.ireturn, 1) := by decide +kernel
theorem dX3_cartoon_0 : decode cX3_cartoon 0 = .ok (.iload_n 1, 1) := by decide +kernel
theorem dX3_cartoon_1 : decode cX3_cartoon 1 = .ok (.iconst 2, 1) := by decide +kernel
theorem dX3_cartoon_2 : decode cX3_cartoon 2 = .ok (.if_icmp .lt 9, 3) := by decide +kernel
theorem dX3_cartoon_5 : decode cX3_cartoon 5 = .ok (.iload_n 1, 1) := by decide +kernel
theorem dX3_cartoon_6 : decode cX3_cartoon 6 = .ok (.bipush 12, 2) := by decide +kernel
theorem dX3_cartoon_8 : decode cX3_cartoon 8 = .ok (.if_icmp .le 13, 3) := by decide +kernel
theorem dX3_cartoon_11 : decode cX3_cartoon 11 = .ok (.new 49, 3) := by decide +kernel
theorem dX3_cartoon_14 : decode cX3_cartoon 14 = .ok (.dup, 1) := by decide +kernel
theorem dX3_cartoon_15 : decode cX3_cartoon 15 = .ok (.ldc 65, 2) := by decide +kernel
theorem dX3_cartoon_17 : decode cX3_cartoon 17 = .ok (.invokespecial 53, 3) := by decide +kernel
theorem dX3_cartoon_20 : decode cX3_cartoon 20 = .ok (.athrow, 1) := by decide +kernel
theorem dX3_cartoon_21 : decode cX3_cartoon 21 = .ok (.aload_n 0, 1) := by decide +kernel
theorem dX3_cartoon_22 : decode cX3_cartoon 22 = .ok (.getfield 23, 3) := by decide +kernel
theorem dX3_cartoon_25 : decode cX3_cartoon 25 = .ok (.ifCond .lt 15, 3) := by decide +kernel
theorem dX3_cartoon_28 : decode cX3_cartoon 28 = .ok (.aload_n 0, 1) := by decide +kernel
theorem dX3_cartoon_29 : decode cX3_cartoon 29 = .ok (.getfield 23, 3) := by decide +kernel
theorem dX3_cartoon_32 : decode cX3_cartoon 32 = .ok (.aload_n 0, 1) := by decide +kernel
theorem dX3_cartoon_33 : decode cX3_cartoon 33 = .ok (.getfield 19, 3) := by decide +kernel
theorem dX3_cartoon_36 : decode cX3_cartoon 36 = .ok (.arraylength, 1) := by decide +kernel
theorem dX3_cartoon_37 : decode cX3_cartoon 37 = .ok (.if_icmp .lt 13, 3) := by decide +kernel
theorem dX3_cartoon_40 : decode cX3_cartoon 40 = .ok (.new 56, 3) := by decide +kernel
theorem dX3_cartoon_43 : decode cX3_cartoon 43 = .ok (.dup, 1) := by decide +kernel
theorem dX3_cartoon_44 : decode cX3_cartoon 44 = .ok (.ldc 67, 2) := by decide +kernel
theorem dX3_cartoon_46 : decode cX3_cartoon 46 = .ok (.invokespecial 60, 3) := by decide +kernel
theorem dX3_cartoon_49 : decode cX3_cartoon 49 = .ok (.athrow, 1) := by decide +kernel
theorem dX3_cartoon_50 : decode cX3_cartoon 50 = .ok (.aload_n 0, 1) := by decide +kernel
theorem dX3_cartoon_51 : decode cX3_cartoon 51 = .ok (.getfield 23, 3) := by decide +kernel
theorem dX3_cartoon_54 : decode cX3_cartoon 54 = .ok (.istore_n 2, 1) := by decide +kernel
theorem dX3_cartoon_55 : decode cX3_cartoon 55 = .ok (.aload_n 0, 1) := by decide +kernel
theorem dX3_cartoon_56 : decode cX3_cartoon 56 = .ok (.getfield 19, 3) := by decide +kernel
theorem dX3_cartoon_59 : decode cX3_cartoon 59 = .ok (.iload_n 2, 1) := by decide +kernel
theorem dX3_cartoon_60 : decode cX3_cartoon 60 = .ok (.new 17, 3) := by decide +kernel
theorem dX3_cartoon_63 : decode cX3_cartoon 63 = .ok (.dup, 1) := by decide +kernel
theorem dX3_cartoon_64 : decode cX3_cartoon 64 = .ok (.iload_n 1, 1) := by decide +kernel
theorem dX3_cartoon_65 : decode cX3_cartoon 65 = .ok (.invokespecial 69, 3) := by decide +kernel
theorem dX3_cartoon_68 : decode cX3_cartoon 68 = .ok (.aastore, 1) := by decide +kernel
theorem dX3_cartoon_69 : decode cX3_cartoon 69 = .ok (.aload_n 0, 1) := by decide +kernel
theorem dX3_cartoon_70 : decode cX3_cartoon 70 = .ok (.dup, 1) := by decide +kernel
theorem dX3_cartoon_71 : decode cX3_cartoon 71 = .ok (.getfield 23, 3) := by decide +kernel
theorem dX3_cartoon_74 : decode cX3_cartoon 74 = .ok (.iconst 1, 1) := by decide +kernel
theorem dX3_cartoon_75 : decode cX3_cartoon 75 = .ok (.iadd, 1) := by decide +kernel
theorem dX3_cartoon_76 : decode cX3_cartoon 76 = .ok (.putfield 23, 3) := by decide +kernel
theorem dX3_cartoon_79 : decode cX3_cartoon 79 = .ok (.iload_n 2, 1) := by decide +kernel
theorem dX3_cartoon_80 : decode cX3_cartoon 80 = .ok (.ireturn, 1) := by decide +kernel
theorem dX3_row_0 : decode cX3_row 0 = .ok (.aload_n 0, 1) := by decide +kernel
theorem dX3_row_1 : decode cX3_row 1 = .ok (.iload_n 1, 1) := by decide +kernel
theorem dX3_row_2 : decode cX3_row 2 = .ok (.invokevirtual 72, 3) := by decide +kernel
theorem dX3_row_5 : decode cX3_row 5 = .ok (.astore_n 2, 1) := by decide +kernel
theorem dX3_row_6 : decode cX3_row 6 = .ok (.aload_n 0, 1) := by decide +kernel
theorem dX3_row_7 : decode cX3_row 7 = .ok (.getfield 13, 3) := by decide +kernel
theorem dX3_row_10 : decode cX3_row 10 = .ok (.aload_n 2, 1) := by decide +kernel
theorem dX3_row_11 : decode cX3_row 11 = .ok (.invokevirtual 76, 3) := by decide +kernel
theorem dX3_row_14 : decode cX3_row 14 = .ok (.if_icmp .eq 13, 3) := by decide +kernel
theorem dX3_row_17 : decode cX3_row 17 = .ok (.new 56, 3) := by decide +kernel
theorem dX3_row_20 : decode cX3_row 20 = .ok (.dup, 1) := by decide +kernel
theorem dX3_row_21 : decode cX3_row 21 = .ok (.ldc 80, 2) := by decide +kernel
theorem dX3_row_23 : decode cX3_row 23 = .ok (.invokespecial 60, 3) := by decide +kernel
theorem dX3_row_26 : decode cX3_row 26 = .ok (.athrow, 1) := by decide +kernel
theorem dX3_row_27 : decode cX3_row 27 = .ok (.aload_n 2, 1) := by decide +kernel
theorem dX3_row_28 : decode cX3_row 28 = .ok (.invokevirtual 82, 3) := by decide +kernel
theorem dX3_row_31 : decode cX3_row 31 = .ok (.bipush 10, 2) := by decide +kernel
theorem dX3_row_33 : decode cX3_row 33 = .ok (.if_icmp .lt 13, 3) := by decide +kernel
theorem dX3_row_36 : decode cX3_row 36 = .ok (.new 56, 3) := by decide +kernel
theorem dX3_row_39 : decode cX3_row 39 = .ok (.dup, 1) := by decide +kernel
theorem dX3_row_40 : decode cX3_row 40 = .ok (.ldc 85, 2) := by decide +kernel
theorem dX3_row_42 : decode cX3_row 42 = .ok (.invokespecial 60, 3) := by decide +kernel
theorem dX3_row_45 : decode cX3_row 45 = .ok (.athrow, 1) := by decide +kernel
theorem dX3_row_46 : decode cX3_row 46 = .ok (.aload_n 2, 1) := by decide +kernel
theorem dX3_row_47 : decode cX3_row 47 = .ok (.aload_n 0, 1) := by decide +kernel
theorem dX3_row_48 : decode cX3_row 48 = .ok (.getfield 9, 3) := by decide +kernel
theorem dX3_row_51 : decode cX3_row 51 = .ok (.invokevirtual 87, 3) := by decide +kernel
theorem dX3_row_54 : decode cX3_row 54 = .ok (.aload_n 0, 1) := by decide +kernel
theorem dX3_row_55 : decode cX3_row 55 = .ok (.iconst 0, 1) := by decide +kernel
theorem dX3_row_56 : decode cX3_row 56 = .ok (.putfield 13, 3) := by decide +kernel
theorem dX3_row_59 : decode cX3_row 59 = .ok (.aload_n 2, 1) := by decide +kernel
theorem dX3_row_60 : decode cX3_row 60 = .ok (.invokevirtual 82, 3) := by decide +kernel
theorem dX3_row_63 : decode cX3_row 63 = .ok (.ireturn, 1) := by decide +kernel
theorem dX3_hatch_0 : decode cX3_hatch 0 = .ok (.aload_n 0, 1) := by decide +kernel
theorem dX3_hatch_1 : decode cX3_hatch 1 = .ok (.iload_n 1, 1) := by decide +kernel
theorem dX3_hatch_2 : decode cX3_hatch 2 = .ok (.invokevirtual 72, 3) := by decide +kernel
theorem dX3_hatch_5 : decode cX3_hatch 5 = .ok (.astore 4, 2) := by decide +kernel
theorem dX3_hatch_7 : decode cX3_hatch 7 = .ok (.iload_n 2, 1) := by decide +kernel
theorem dX3_hatch_8 : decode cX3_hatch 8 = .ok (.invokestatic 91, 3) := by decide +kernel
theorem dX3_hatch_11 : decode cX3_hatch 11 = .ok (.iload_n 3, 1) := by decide +kernel
theorem dX3_hatch_12 : decode cX3_hatch 12 = .ok (.invokestatic 91, 3) := by decide +kernel
theorem dX3_hatch_15 : decode cX3_hatch 15 = .ok (.aload 4, 2) := by decide +kernel
theorem dX3_hatch_17 : decode cX3_hatch 17 = .ok (.iload_n 2, 1) := by decide +kernel
theorem dX3_hatch_18 : decode cX3_hatch 18 = .ok (.iload_n 3, 1) := by decide +kernel
theorem dX3_hatch_19 : decode cX3_hatch 19 = .ok (.invokevirtual 94, 3) := by decide +kernel
theorem dX3_hatch_22 : decode cX3_hatch 22 = .ok (.return_, 1) := by decide +kernel
theorem dX3_dye_0 : decode cX3_dye 0 = .ok (.iload_n 1, 1) := by decide +kernel
theorem dX3_dye_1 : decode cX3_dye 1 = .ok (.invokestatic 91, 3) := by decide +kernel
theorem dX3_dye_4 : decode cX3_dye 4 = .ok (.iload_n 2, 1) := by decide +kernel
theorem dX3_dye_5 : decode cX3_dye 5 = .ok (.iconst 1, 1) := by decide +kernel
theorem dX3_dye_6 : decode cX3_dye 6 = .ok (.if_icmp .lt 10, 3) := by decide +kernel
theorem dX3_dye_9 : decode cX3_dye 9 = .ok (.iload_n 2, 1) := by decide +kernel
theorem dX3_dye_10 : decode cX3_dye 10 = .ok (.sipush 999, 3) := by decide +kernel
theorem dX3_dye_13 : decode cX3_dye 13 = .ok (.if_icmp .le 13, 3) := by decide +kernel
theorem dX3_dye_16 : decode cX3_dye 16 = .ok (.new 49, 3) := by decide +kernel
theorem dX3_dye_19 : decode cX3_dye 19 = .ok (.dup, 1) := by decide +kernel
theorem dX3_dye_20 : decode cX3_dye 20 = .ok (.ldc 98, 2) := by decide +kernel
theorem dX3_dye_22 : decode cX3_dye 22 = .ok (.invokespecial 53, 3) := by decide +kernel
theorem dX3_dye_25 : decode cX3_dye 25 = .ok (.athrow, 1) := by decide +kernel
theorem dX3_dye_26 : decode cX3_dye 26 = .ok (.iload_n 3, 1) := by decide +kernel
theorem dX3_dye_27 : decode cX3_dye 27 = .ok (.ifCond .lt 9, 3) := by decide +kernel
theorem dX3_dye_30 : decode cX3_dye 30 = .ok (.iload_n 3, 1) := by decide +kernel
theorem dX3_dye_31 : decode cX3_dye 31 = .ok (.bipush 9, 2) := by decide +kernel
theorem dX3_dye_33 : decode cX3_dye 33 = .ok (.if_icmp .le 13, 3) := by decide +kernel
theorem dX3_dye_36 : decode cX3_dye 36 = .ok (.new 49, 3) := by decide +kernel
theorem dX3_dye_39 : decode cX3_dye 39 = .ok (.dup, 1) := by decide +kernel
theorem dX3_dye_40 : decode cX3_dye 40 = .ok (.ldc 100, 2) := by decide +kernel
theorem dX3_dye_42 : decode cX3_dye 42 = .ok (.invokespecial 53, 3) := by decide +kernel
theorem dX3_dye_45 : decode cX3_dye 45 = .ok (.athrow, 1) := by decide +kernel
theorem dX3_dye_46 : decode cX3_dye 46 = .ok (.aload_n 0, 1) := by decide +kernel
theorem dX3_dye_47 : decode cX3_dye 47 = .ok (.getfield 29, 3) := by decide +kernel
theorem dX3_dye_50 : decode cX3_dye 50 = .ok (.invokevirtual 102, 3) := by decide +kernel
theorem dX3_dye_53 : decode cX3_dye 53 = .ok (.bipush 20, 2) := by decide +kernel
theorem dX3_dye_55 : decode cX3_dye 55 = .ok (.if_icmp .lt 13, 3) := by decide +kernel
theorem dX3_dye_58 : decode cX3_dye 58 = .ok (.new 56, 3) := by decide +kernel
theorem dX3_dye_61 : decode cX3_dye 61 = .ok (.dup, 1) := by decide +kernel
theorem dX3_dye_62 : decode cX3_dye 62 = .ok (.ldc 105, 2) := by decide +kernel
theorem dX3_dye_64 : decode cX3_dye 64 = .ok (.invokespecial 60, 3) := by decide +kernel
theorem dX3_dye_67 : decode cX3_dye 67 = .ok (.athrow, 1) := by decide +kernel
theorem dX3_dye_68 : decode cX3_dye 68 = .ok (.aload_n 0, 1) := by decide +kernel
theorem dX3_dye_69 : decode cX3_dye 69 = .ok (.getfield 29, 3) := by decide +kernel
theorem dX3_dye_72 : decode cX3_dye 72 = .ok (.iload_n 1, 1) := by decide +kernel
theorem dX3_dye_73 : decode cX3_dye 73 = .ok (.iload_n 2, 1) := by decide +kernel
theorem dX3_dye_74 : decode cX3_dye 74 = .ok (.iload_n 3, 1) := by decide +kernel
theorem dX3_dye_75 : decode cX3_dye 75 = .ok (.iload 4, 2) := by decide +kernel
theorem dX3_dye_77 : decode cX3_dye 77 = .ok (.invokevirtual 107, 3) := by decide +kernel
theorem dX3_dye_80 : decode cX3_dye 80 = .ok (.ireturn, 1) := by decide +kernel
theorem dX3_left_0 : decode cX3_left 0 = .ok (.iload_n 1, 1) := by decide +kernel
theorem dX3_left_1 : decode cX3_left 1 = .ok (.ifCond .lt 14, 3) := by decide +kernel
theorem dX3_left_4 : decode cX3_left 4 = .ok (.iload_n 1, 1) := by decide +kernel
theorem dX3_left_5 : decode cX3_left 5 = .ok (.aload_n 0, 1) := by decide +kernel
theorem dX3_left_6 : decode cX3_left 6 = .ok (.getfield 29, 3) := by decide +kernel
theorem dX3_left_9 : decode cX3_left 9 = .ok (.invokevirtual 102, 3) := by decide +kernel
theorem dX3_left_12 : decode cX3_left 12 = .ok (.if_icmp .lt 13, 3) := by decide +kernel
theorem dX3_left_15 : decode cX3_left 15 = .ok (.new 111, 3) := by decide +kernel
theorem dX3_left_18 : decode cX3_left 18 = .ok (.dup, 1) := by decide +kernel
theorem dX3_left_19 : decode cX3_left 19 = .ok (.ldc 113, 2) := by decide +kernel
theorem dX3_left_21 : decode cX3_left 21 = .ok (.invokespecial 115, 3) := by decide +kernel
theorem dX3_left_24 : decode cX3_left 24 = .ok (.athrow, 1) := by decide +kernel
theorem dX3_left_25 : decode cX3_left 25 = .ok (.aload_n 0, 1) := by decide +kernel
theorem dX3_left_26 : decode cX3_left 26 = .ok (.getfield 29, 3) := by decide +kernel
theorem dX3_left_29 : decode cX3_left 29 = .ok (.iload_n 1, 1) := by decide +kernel
theorem dX3_left_30 : decode cX3_left 30 = .ok (.invokevirtual 116, 3) := by decide +kernel
theorem dX3_left_33 : decode cX3_left 33 = .ok (.ireturn, 1) := by decide +kernel
theorem dX3_gold_0 : decode cX3_gold 0 = .ok (.iconst 0, 1) := by decide +kernel
theorem dX3_gold_1 : decode cX3_gold 1 = .ok (.istore_n 1, 1) := by decide +kernel
theorem dX3_gold_2 : decode cX3_gold 2 = .ok (.iconst 0, 1) := by decide +kernel
theorem dX3_gold_3 : decode cX3_gold 3 = .ok (.istore_n 2, 1) := by decide +kernel
theorem dX3_gold_4 : decode cX3_gold 4 = .ok (.iload_n 2, 1) := by decide +kernel
theorem dX3_gold_5 : decode cX3_gold 5 = .ok (.aload_n 0, 1) := by decide +kernel
theorem dX3_gold_6 : decode cX3_gold 6 = .ok (.getfield 35, 3) := by decide +kernel
theorem dX3_gold_9 : decode cX3_gold 9 = .ok (.arraylength, 1) := by decide +kernel
theorem dX3_gold_10 : decode cX3_gold 10 = .ok (.if_icmp .ge 28, 3) := by decide +kernel
theorem dX3_gold_13 : decode cX3_gold 13 = .ok (.aload_n 0, 1) := by decide +kernel
theorem dX3_gold_14 : decode cX3_gold 14 = .ok (.getfield 35, 3) := by decide +kernel
theorem dX3_gold_17 : decode cX3_gold 17 = .ok (.iload_n 2, 1) := by decide +kernel
theorem dX3_gold_18 : decode cX3_gold 18 = .ok (.aaload, 1) := by decide +kernel
theorem dX3_gold_19 : decode cX3_gold 19 = .ok (.astore_n 3, 1) := by decide +kernel
theorem dX3_gold_20 : decode cX3_gold 20 = .ok (.aload_n 3, 1) := by decide +kernel
theorem dX3_gold_21 : decode cX3_gold 21 = .ok (.ifnull 11, 3) := by decide +kernel
theorem dX3_gold_24 : decode cX3_gold 24 = .ok (.iload_n 1, 1) := by decide +kernel
theorem dX3_gold_25 : decode cX3_gold 25 = .ok (.aload_n 3, 1) := by decide +kernel
theorem dX3_gold_26 : decode cX3_gold 26 = .ok (.iconst 5, 1) := by decide +kernel
theorem dX3_gold_27 : decode cX3_gold 27 = .ok (.invokevirtual 120, 3) := by decide +kernel
theorem dX3_gold_30 : decode cX3_gold 30 = .ok (.iadd, 1) := by decide +kernel
theorem dX3_gold_31 : decode cX3_gold 31 = .ok (.istore_n 1, 1) := by decide +kernel
theorem dX3_gold_32 : decode cX3_gold 32 = .ok (.iinc 2 1, 3) := by decide +kernel
theorem dX3_gold_35 : decode cX3_gold 35 = .ok (.goto (-31), 3) := by decide +kernel
theorem dX3_gold_38 : decode cX3_gold 38 = .ok (.iload_n 1, 1) := by decide +kernel
theorem dX3_gold_39 : decode cX3_gold 39 = .ok (.ireturn, 1) := by decide +kernel
theorem dX3_loom_0 : decode cX3_loom 0 = .ok (.aload_n 0, 1) := by decide +kernel
theorem dX3_loom_1 : decode cX3_loom 1 = .ok (.iload_n 1, 1) := by decide +kernel
theorem dX3_loom_2 : decode cX3_loom 2 = .ok (.invokevirtual 72, 3) := by decide +kernel
theorem dX3_loom_5 : decode cX3_loom 5 = .ok (.astore 4, 2) := by decide +kernel
theorem dX3_loom_7 : decode cX3_loom 7 = .ok (.iload_n 2, 1) := by decide +kernel
theorem dX3_loom_8 : decode cX3_loom 8 = .ok (.iconst 1, 1) := by decide +kernel
theorem dX3_loom_9 : decode cX3_loom 9 = .ok (.if_icmp .lt 17, 3) := by decide +kernel
theorem dX3_loom_12 : decode cX3_loom 12 = .ok (.iload_n 2, 1) := by decide +kernel
theorem dX3_loom_13 : decode cX3_loom 13 = .ok (.iconst 4, 1) := by decide +kernel
theorem dX3_loom_14 : decode cX3_loom 14 = .ok (.if_icmp .gt 12, 3) := by decide +kernel
theorem dX3_loom_17 : decode cX3_loom 17 = .ok (.iload_n 2, 1) := by decide +kernel
theorem dX3_loom_18 : decode cX3_loom 18 = .ok (.aload 4, 2) := by decide +kernel
theorem dX3_loom_20 : decode cX3_loom 20 = .ok (.invokevirtual 76, 3) := by decide +kernel
theorem dX3_loom_23 : decode cX3_loom 23 = .ok (.if_icmp .le 13, 3) := by decide +kernel
theorem dX3_loom_26 : decode cX3_loom 26 = .ok (.new 49, 3) := by decide +kernel
theorem dX3_loom_29 : decode cX3_loom 29 = .ok (.dup, 1) := by decide +kernel
theorem dX3_loom_30 : decode cX3_loom 30 = .ok (.ldc 123, 2) := by decide +kernel
theorem dX3_loom_32 : decode cX3_loom 32 = .ok (.invokespecial 53, 3) := by decide +kernel
theorem dX3_loom_35 : decode cX3_loom 35 = .ok (.athrow, 1) := by decide +kernel
theorem dX3_loom_36 : decode cX3_loom 36 = .ok (.aload 4, 2) := by decide +kernel
theorem dX3_loom_38 : decode cX3_loom 38 = .ok (.invokevirtual 82, 3) := by decide +kernel
theorem dX3_loom_41 : decode cX3_loom 41 = .ok (.iconst 1, 1) := by decide +kernel
theorem dX3_loom_42 : decode cX3_loom 42 = .ok (.if_icmp .ge 13, 3) := by decide +kernel
theorem dX3_loom_45 : decode cX3_loom 45 = .ok (.new 56, 3) := by decide +kernel
theorem dX3_loom_48 : decode cX3_loom 48 = .ok (.dup, 1) := by decide +kernel
theorem dX3_loom_49 : decode cX3_loom 49 = .ok (.ldc 125, 2) := by decide +kernel
theorem dX3_loom_51 : decode cX3_loom 51 = .ok (.invokespecial 60, 3) := by decide +kernel
theorem dX3_loom_54 : decode cX3_loom 54 = .ok (.athrow, 1) := by decide +kernel
theorem dX3_loom_55 : decode cX3_loom 55 = .ok (.aload_n 0, 1) := by decide +kernel
theorem dX3_loom_56 : decode cX3_loom 56 = .ok (.invokevirtual 127, 3) := by decide +kernel
theorem dX3_loom_59 : decode cX3_loom 59 = .ok (.new 33, 3) := by decide +kernel
theorem dX3_loom_62 : decode cX3_loom 62 = .ok (.dup, 1) := by decide +kernel
theorem dX3_loom_63 : decode cX3_loom 63 = .ok (.aload 4, 2) := by decide +kernel
theorem dX3_loom_65 : decode cX3_loom 65 = .ok (.invokevirtual 82, 3) := by decide +kernel
theorem dX3_loom_68 : decode cX3_loom 68 = .ok (.iload_n 2, 1) := by decide +kernel
theorem dX3_loom_69 : decode cX3_loom 69 = .ok (.invokespecial 130, 3) := by decide +kernel
theorem dX3_loom_72 : decode cX3_loom 72 = .ok (.astore 5, 2) := by decide +kernel
theorem dX3_loom_74 : decode cX3_loom 74 = .ok (.aload 5, 2) := by decide +kernel
theorem dX3_loom_76 : decode cX3_loom 76 = .ok (.aload 4, 2) := by decide +kernel
theorem dX3_loom_78 : decode cX3_loom 78 = .ok (.iload_n 3, 1) := by decide +kernel
theorem dX3_loom_79 : decode cX3_loom 79 = .ok (.aload_n 0, 1) := by decide +kernel
theorem dX3_loom_80 : decode cX3_loom 80 = .ok (.getfield 39, 3) := by decide +kernel
theorem dX3_loom_83 : decode cX3_loom 83 = .ok (.invokevirtual 132, 3) := by decide +kernel
theorem dX3_loom_86 : decode cX3_loom 86 = .ok (.aload_n 0, 1) := by decide +kernel
theorem dX3_loom_87 : decode cX3_loom 87 = .ok (.aload 5, 2) := by decide +kernel
theorem dX3_loom_89 : decode cX3_loom 89 = .ok (.invokevirtual 136, 3) := by decide +kernel
theorem dX3_loom_92 : decode cX3_loom 92 = .ok (.ireturn, 1) := by decide +kernel
theorem dX3_weave_0 : decode cX3_weave 0 = .ok (.aload_n 0, 1) := by decide +kernel
theorem dX3_weave_1 : decode cX3_weave 1 = .ok (.iload_n 1, 1) := by decide +kernel
theorem dX3_weave_2 : decode cX3_weave 2 = .ok (.invokevirtual 140, 3) := by decide +kernel
theorem dX3_weave_5 : decode cX3_weave 5 = .ok (.astore_n 3, 1) := by decide +kernel
theorem dX3_weave_6 : decode cX3_weave 6 = .ok (.iload_n 2, 1) := by decide +kernel
theorem dX3_weave_7 : decode cX3_weave 7 = .ok (.ifCond .lt 11, 3) := by decide +kernel
theorem dX3_weave_10 : decode cX3_weave 10 = .ok (.iload_n 2, 1) := by decide +kernel
theorem dX3_weave_11 : decode cX3_weave 11 = .ok (.aload_n 3, 1) := by decide +kernel
theorem dX3_weave_12 : decode cX3_weave 12 = .ok (.invokevirtual 144, 3) := by decide +kernel
theorem dX3_weave_15 : decode cX3_weave 15 = .ok (.if_icmp .lt 13, 3) := by decide +kernel
theorem dX3_weave_18 : decode cX3_weave 18 = .ok (.new 111, 3) := by decide +kernel
theorem dX3_weave_21 : decode cX3_weave 21 = .ok (.dup, 1) := by decide +kernel
theorem dX3_weave_22 : decode cX3_weave 22 = .ok (.ldc 147, 2) := by decide +kernel
theorem dX3_weave_24 : decode cX3_weave 24 = .ok (.invokespecial 115, 3) := by decide +kernel
theorem dX3_weave_27 : decode cX3_weave 27 = .ok (.athrow, 1) := by decide +kernel
theorem dX3_weave_28 : decode cX3_weave 28 = .ok (.aload_n 3, 1) := by decide +kernel
theorem dX3_weave_29 : decode cX3_weave 29 = .ok (.iload_n 2, 1) := by decide +kernel
theorem dX3_weave_30 : decode cX3_weave 30 = .ok (.invokevirtual 149, 3) := by decide +kernel
theorem dX3_weave_33 : decode cX3_weave 33 = .ok (.ifCond .eq 13, 3) := by decide +kernel
theorem dX3_weave_36 : decode cX3_weave 36 = .ok (.new 56, 3) := by decide +kernel
theorem dX3_weave_39 : decode cX3_weave 39 = .ok (.dup, 1) := by decide +kernel
theorem dX3_weave_40 : decode cX3_weave 40 = .ok (.ldc 153, 2) := by decide +kernel
theorem dX3_weave_42 : decode cX3_weave 42 = .ok (.invokespecial 60, 3) := by decide +kernel
theorem dX3_weave_45 : decode cX3_weave 45 = .ok (.athrow, 1) := by decide +kernel
theorem dX3_weave_46 : decode cX3_weave 46 = .ok (.aload_n 3, 1) := by decide +kernel
theorem dX3_weave_47 : decode cX3_weave 47 = .ok (.iload_n 2, 1) := by decide +kernel
theorem dX3_weave_48 : decode cX3_weave 48 = .ok (.invokevirtual 155, 3) := by decide +kernel
theorem dX3_weave_51 : decode cX3_weave 51 = .ok (.ifCond .eq 13, 3) := by decide +kernel
theorem dX3_weave_54 : decode cX3_weave 54 = .ok (.new 56, 3) := by decide +kernel
theorem dX3_weave_57 : decode cX3_weave 57 = .ok (.dup, 1) := by decide +kernel
theorem dX3_weave_58 : decode cX3_weave 58 = .ok (.ldc 158, 2) := by decide +kernel
theorem dX3_weave_60 : decode cX3_weave 60 = .ok (.invokespecial 60, 3) := by decide +kernel
theorem dX3_weave_63 : decode cX3_weave 63 = .ok (.athrow, 1) := by decide +kernel
theorem dX3_weave_64 : decode cX3_weave 64 = .ok (.aload_n 3, 1) := by decide +kernel
theorem dX3_weave_65 : decode cX3_weave 65 = .ok (.iload_n 2, 1) := by decide +kernel
theorem dX3_weave_66 : decode cX3_weave 66 = .ok (.aload_n 0, 1) := by decide +kernel
theorem dX3_weave_67 : decode cX3_weave 67 = .ok (.getfield 29, 3) := by decide +kernel
theorem dX3_weave_70 : decode cX3_weave 70 = .ok (.invokevirtual 160, 3) := by decide +kernel
theorem dX3_weave_73 : decode cX3_weave 73 = .ok (.ifCond .ne 13, 3) := by decide +kernel
theorem dX3_weave_76 : decode cX3_weave 76 = .ok (.new 56, 3) := by decide +kernel
theorem dX3_weave_79 : decode cX3_weave 79 = .ok (.dup, 1) := by decide +kernel
theorem dX3_weave_80 : decode cX3_weave 80 = .ok (.ldc 164, 2) := by decide +kernel
theorem dX3_weave_82 : decode cX3_weave 82 = .ok (.invokespecial 60, 3) := by decide +kernel
theorem dX3_weave_85 : decode cX3_weave 85 = .ok (.athrow, 1) := by decide +kernel
theorem dX3_weave_86 : decode cX3_weave 86 = .ok (.aload_n 3, 1) := by decide +kernel
theorem dX3_weave_87 : decode cX3_weave 87 = .ok (.iload_n 2, 1) := by decide +kernel
theorem dX3_weave_88 : decode cX3_weave 88 = .ok (.aload_n 0, 1) := by decide +kernel
theorem dX3_weave_89 : decode cX3_weave 89 = .ok (.getfield 29, 3) := by decide +kernel
theorem dX3_weave_92 : decode cX3_weave 92 = .ok (.invokevirtual 166, 3) := by decide +kernel
theorem dX3_weave_95 : decode cX3_weave 95 = .ok (.ireturn, 1) := by decide +kernel
theorem dX3_pieceIs_0 : decode cX3_pieceIs 0 = .ok (.aload_n 0, 1) := by decide +kernel
theorem dX3_pieceIs_1 : decode cX3_pieceIs 1 = .ok (.iload_n 1, 1) := by decide +kernel
theorem dX3_pieceIs_2 : decode cX3_pieceIs 2 = .ok (.invokevirtual 140, 3) := by decide +kernel
theorem dX3_pieceIs_5 : decode cX3_pieceIs 5 = .ok (.astore_n 3, 1) := by decide +kernel
theorem dX3_pieceIs_6 : decode cX3_pieceIs 6 = .ok (.iload_n 2, 1) := by decide +kernel
theorem dX3_pieceIs_7 : decode cX3_pieceIs 7 = .ok (.tableswitch 86 0 5 #[37, 42, 47, 52, 65, 81], 37) := by decide +kernel
theorem dX3_pieceIs_44 : decode cX3_pieceIs 44 = .ok (.aload_n 3, 1) := by decide +kernel
theorem dX3_pieceIs_45 : decode cX3_pieceIs 45 = .ok (.invokevirtual 170, 3) := by decide +kernel
theorem dX3_pieceIs_48 : decode cX3_pieceIs 48 = .ok (.ireturn, 1) := by decide +kernel
theorem dX3_pieceIs_49 : decode cX3_pieceIs 49 = .ok (.aload_n 3, 1) := by decide +kernel
theorem dX3_pieceIs_50 : decode cX3_pieceIs 50 = .ok (.invokevirtual 171, 3) := by decide +kernel
theorem dX3_pieceIs_53 : decode cX3_pieceIs 53 = .ok (.ireturn, 1) := by decide +kernel
theorem dX3_pieceIs_54 : decode cX3_pieceIs 54 = .ok (.aload_n 3, 1) := by decide +kernel
theorem dX3_pieceIs_55 : decode cX3_pieceIs 55 = .ok (.invokevirtual 172, 3) := by decide +kernel
theorem dX3_pieceIs_58 : decode cX3_pieceIs 58 = .ok (.ireturn, 1) := by decide +kernel
theorem dX3_pieceIs_59 : decode cX3_pieceIs 59 = .ok (.aload_n 3, 1) := by decide +kernel
theorem dX3_pieceIs_60 : decode cX3_pieceIs 60 = .ok (.invokevirtual 175, 3) := by decide +kernel
theorem dX3_pieceIs_63 : decode cX3_pieceIs 63 = .ok (.ifCond .eq 7, 3) := by decide +kernel
theorem dX3_pieceIs_66 : decode cX3_pieceIs 66 = .ok (.iconst 1, 1) := by decide +kernel
theorem dX3_pieceIs_67 : decode cX3_pieceIs 67 = .ok (.goto 4, 3) := by decide +kernel
theorem dX3_pieceIs_70 : decode cX3_pieceIs 70 = .ok (.iconst 0, 1) := by decide +kernel
theorem dX3_pieceIs_71 : decode cX3_pieceIs 71 = .ok (.ireturn, 1) := by decide +kernel
theorem dX3_pieceIs_72 : decode cX3_pieceIs 72 = .ok (.aload_n 3, 1) := by decide +kernel
theorem dX3_pieceIs_73 : decode cX3_pieceIs 73 = .ok (.invokevirtual 175, 3) := by decide +kernel
theorem dX3_pieceIs_76 : decode cX3_pieceIs 76 = .ok (.ifCond .eq 10, 3) := by decide +kernel
theorem dX3_pieceIs_79 : decode cX3_pieceIs 79 = .ok (.aload_n 3, 1) := by decide +kernel
theorem dX3_pieceIs_80 : decode cX3_pieceIs 80 = .ok (.invokevirtual 179, 3) := by decide +kernel
theorem dX3_pieceIs_83 : decode cX3_pieceIs 83 = .ok (.goto 4, 3) := by decide +kernel
theorem dX3_pieceIs_86 : decode cX3_pieceIs 86 = .ok (.iconst 0, 1) := by decide +kernel
theorem dX3_pieceIs_87 : decode cX3_pieceIs 87 = .ok (.ireturn, 1) := by decide +kernel
theorem dX3_pieceIs_88 : decode cX3_pieceIs 88 = .ok (.aload_n 3, 1) := by decide +kernel
theorem dX3_pieceIs_89 : decode cX3_pieceIs 89 = .ok (.invokevirtual 182, 3) := by decide +kernel
theorem dX3_pieceIs_92 : decode cX3_pieceIs 92 = .ok (.ireturn, 1) := by decide +kernel
theorem dX3_pieceIs_93 : decode cX3_pieceIs 93 = .ok (.new 49, 3) := by decide +kernel
theorem dX3_pieceIs_96 : decode cX3_pieceIs 96 = .ok (.dup, 1) := by decide +kernel
theorem dX3_pieceIs_97 : decode cX3_pieceIs 97 = .ok (.ldc 185, 2) := by decide +kernel
theorem dX3_pieceIs_99 : decode cX3_pieceIs 99 = .ok (.invokespecial 53, 3) := by decide +kernel
theorem dX3_pieceIs_102 : decode cX3_pieceIs 102 = .ok (.athrow, 1) := by decide +kernel
theorem dX3_cell_0 : decode cX3_cell 0 = .ok (.aload_n 0, 1) := by decide +kernel
theorem dX3_cell_1 : decode cX3_cell 1 = .ok (.iload_n 1, 1) := by decide +kernel
theorem dX3_cell_2 : decode cX3_cell 2 = .ok (.invokevirtual 140, 3) := by decide +kernel
theorem dX3_cell_5 : decode cX3_cell 5 = .ok (.astore 5, 2) := by decide +kernel
theorem dX3_cell_7 : decode cX3_cell 7 = .ok (.aload 5, 2) := by decide +kernel
theorem dX3_cell_9 : decode cX3_cell 9 = .ok (.iload_n 2, 1) := by decide +kernel
theorem dX3_cell_10 : decode cX3_cell 10 = .ok (.iload_n 3, 1) := by decide +kernel
theorem dX3_cell_11 : decode cX3_cell 11 = .ok (.invokevirtual 187, 3) := by decide +kernel
theorem dX3_cell_14 : decode cX3_cell 14 = .ok (.ifCond .ne 13, 3) := by decide +kernel
theorem dX3_cell_17 : decode cX3_cell 17 = .ok (.new 111, 3) := by decide +kernel
theorem dX3_cell_20 : decode cX3_cell 20 = .ok (.dup, 1) := by decide +kernel
theorem dX3_cell_21 : decode cX3_cell 21 = .ok (.ldc 191, 2) := by decide +kernel
theorem dX3_cell_23 : decode cX3_cell 23 = .ok (.invokespecial 115, 3) := by decide +kernel
theorem dX3_cell_26 : decode cX3_cell 26 = .ok (.athrow, 1) := by decide +kernel
theorem dX3_cell_27 : decode cX3_cell 27 = .ok (.iload 4, 2) := by decide +kernel
theorem dX3_cell_29 : decode cX3_cell 29 = .ok (.tableswitch 51 0 2 #[27, 35, 43], 27) := by decide +kernel
theorem dX3_cell_56 : decode cX3_cell 56 = .ok (.aload 5, 2) := by decide +kernel
theorem dX3_cell_58 : decode cX3_cell 58 = .ok (.iload_n 2, 1) := by decide +kernel
theorem dX3_cell_59 : decode cX3_cell 59 = .ok (.iload_n 3, 1) := by decide +kernel
theorem dX3_cell_60 : decode cX3_cell 60 = .ok (.invokevirtual 193, 3) := by decide +kernel
theorem dX3_cell_63 : decode cX3_cell 63 = .ok (.ireturn, 1) := by decide +kernel
theorem dX3_cell_64 : decode cX3_cell 64 = .ok (.aload 5, 2) := by decide +kernel
theorem dX3_cell_66 : decode cX3_cell 66 = .ok (.iload_n 2, 1) := by decide +kernel
theorem dX3_cell_67 : decode cX3_cell 67 = .ok (.iload_n 3, 1) := by decide +kernel
theorem dX3_cell_68 : decode cX3_cell 68 = .ok (.invokevirtual 197, 3) := by decide +kernel
theorem dX3_cell_71 : decode cX3_cell 71 = .ok (.ireturn, 1) := by decide +kernel
theorem dX3_cell_72 : decode cX3_cell 72 = .ok (.aload 5, 2) := by decide +kernel
theorem dX3_cell_74 : decode cX3_cell 74 = .ok (.iload_n 2, 1) := by decide +kernel
theorem dX3_cell_75 : decode cX3_cell 75 = .ok (.iload_n 3, 1) := by decide +kernel
theorem dX3_cell_76 : decode cX3_cell 76 = .ok (.invokevirtual 200, 3) := by decide +kernel
theorem dX3_cell_79 : decode cX3_cell 79 = .ok (.ireturn, 1) := by decide +kernel
theorem dX3_cell_80 : decode cX3_cell 80 = .ok (.new 49, 3) := by decide +kernel
theorem dX3_cell_83 : decode cX3_cell 83 = .ok (.dup, 1) := by decide +kernel
theorem dX3_cell_84 : decode cX3_cell 84 = .ok (.ldc 203, 2) := by decide +kernel
theorem dX3_cell_86 : decode cX3_cell 86 = .ok (.invokespecial 53, 3) := by decide +kernel
theorem dX3_cell_89 : decode cX3_cell 89 = .ok (.athrow, 1) := by decide +kernel
theorem dX3_sew_0 : decode cX3_sew 0 = .ok (.aload_n 0, 1) := by decide +kernel
theorem dX3_sew_1 : decode cX3_sew 1 = .ok (.iload_n 1, 1) := by decide +kernel
theorem dX3_sew_2 : decode cX3_sew 2 = .ok (.invokevirtual 140, 3) := by decide +kernel
theorem dX3_sew_5 : decode cX3_sew 5 = .ok (.astore_n 3, 1) := by decide +kernel
theorem dX3_sew_6 : decode cX3_sew 6 = .ok (.aload_n 3, 1) := by decide +kernel
theorem dX3_sew_7 : decode cX3_sew 7 = .ok (.iload_n 2, 1) := by decide +kernel
theorem dX3_sew_8 : decode cX3_sew 8 = .ok (.invokestatic 205, 3) := by decide +kernel
theorem dX3_sew_11 : decode cX3_sew 11 = .ok (.aload_n 3, 1) := by decide +kernel
theorem dX3_sew_12 : decode cX3_sew 12 = .ok (.invokestatic 209, 3) := by decide +kernel
theorem dX3_sew_15 : decode cX3_sew 15 = .ok (.aload_n 3, 1) := by decide +kernel
theorem dX3_sew_16 : decode cX3_sew 16 = .ok (.iload_n 2, 1) := by decide +kernel
theorem dX3_sew_17 : decode cX3_sew 17 = .ok (.invokevirtual 213, 3) := by decide +kernel
theorem dX3_sew_20 : decode cX3_sew 20 = .ok (.istore 4, 2) := by decide +kernel
theorem dX3_sew_22 : decode cX3_sew 22 = .ok (.aload_n 3, 1) := by decide +kernel
theorem dX3_sew_23 : decode cX3_sew 23 = .ok (.iload_n 2, 1) := by decide +kernel
theorem dX3_sew_24 : decode cX3_sew 24 = .ok (.invokevirtual 216, 3) := by decide +kernel
theorem dX3_sew_27 : decode cX3_sew 27 = .ok (.iload 4, 2) := by decide +kernel
theorem dX3_sew_29 : decode cX3_sew 29 = .ok (.ireturn, 1) := by decide +kernel
theorem dX3_light_0 : decode cX3_light 0 = .ok (.aload_n 0, 1) := by decide +kernel
theorem dX3_light_1 : decode cX3_light 1 = .ok (.iload_n 1, 1) := by decide +kernel
theorem dX3_light_2 : decode cX3_light 2 = .ok (.invokevirtual 140, 3) := by decide +kernel
theorem dX3_light_5 : decode cX3_light 5 = .ok (.astore_n 3, 1) := by decide +kernel
theorem dX3_light_6 : decode cX3_light 6 = .ok (.iload_n 2, 1) := by decide +kernel
theorem dX3_light_7 : decode cX3_light 7 = .ok (.iconst 1, 1) := by decide +kernel
theorem dX3_light_8 : decode cX3_light 8 = .ok (.if_icmp .lt 10, 3) := by decide +kernel
theorem dX3_light_11 : decode cX3_light 11 = .ok (.iload_n 2, 1) := by decide +kernel
theorem dX3_light_12 : decode cX3_light 12 = .ok (.sipush 9999, 3) := by decide +kernel
theorem dX3_light_15 : decode cX3_light 15 = .ok (.if_icmp .le 13, 3) := by decide +kernel
theorem dX3_light_18 : decode cX3_light 18 = .ok (.new 49, 3) := by decide +kernel
theorem dX3_light_21 : decode cX3_light 21 = .ok (.dup, 1) := by decide +kernel
theorem dX3_light_22 : decode cX3_light 22 = .ok (.ldc 219, 2) := by decide +kernel
theorem dX3_light_24 : decode cX3_light 24 = .ok (.invokespecial 53, 3) := by decide +kernel
theorem dX3_light_27 : decode cX3_light 27 = .ok (.athrow, 1) := by decide +kernel
theorem dX3_light_28 : decode cX3_light 28 = .ok (.aload_n 3, 1) := by decide +kernel
theorem dX3_light_29 : decode cX3_light 29 = .ok (.invokestatic 209, 3) := by decide +kernel
theorem dX3_light_32 : decode cX3_light 32 = .ok (.aload_n 3, 1) := by decide +kernel
theorem dX3_light_33 : decode cX3_light 33 = .ok (.iload_n 2, 1) := by decide +kernel
theorem dX3_light_34 : decode cX3_light 34 = .ok (.aload_n 0, 1) := by decide +kernel
theorem dX3_light_35 : decode cX3_light 35 = .ok (.getfield 29, 3) := by decide +kernel
theorem dX3_light_38 : decode cX3_light 38 = .ok (.invokevirtual 221, 3) := by decide +kernel
theorem dX3_light_41 : decode cX3_light 41 = .ok (.aload_n 3, 1) := by decide +kernel
theorem dX3_light_42 : decode cX3_light 42 = .ok (.invokevirtual 182, 3) := by decide +kernel
theorem dX3_light_45 : decode cX3_light 45 = .ok (.ireturn, 1) := by decide +kernel
theorem dX3_wash_0 : decode cX3_wash 0 = .ok (.aload_n 0, 1) := by decide +kernel
theorem dX3_wash_1 : decode cX3_wash 1 = .ok (.iload_n 1, 1) := by decide +kernel
theorem dX3_wash_2 : decode cX3_wash 2 = .ok (.invokevirtual 140, 3) := by decide +kernel
theorem dX3_wash_5 : decode cX3_wash 5 = .ok (.astore_n 2, 1) := by decide +kernel
theorem dX3_wash_6 : decode cX3_wash 6 = .ok (.aload_n 2, 1) := by decide +kernel
theorem dX3_wash_7 : decode cX3_wash 7 = .ok (.invokestatic 209, 3) := by decide +kernel
theorem dX3_wash_10 : decode cX3_wash 10 = .ok (.aload_n 2, 1) := by decide +kernel
theorem dX3_wash_11 : decode cX3_wash 11 = .ok (.aload_n 0, 1) := by decide +kernel
theorem dX3_wash_12 : decode cX3_wash 12 = .ok (.getfield 29, 3) := by decide +kernel
theorem dX3_wash_15 : decode cX3_wash 15 = .ok (.invokevirtual 225, 3) := by decide +kernel
theorem dX3_wash_18 : decode cX3_wash 18 = .ok (.aload_n 2, 1) := by decide +kernel
theorem dX3_wash_19 : decode cX3_wash 19 = .ok (.invokevirtual 182, 3) := by decide +kernel
theorem dX3_wash_22 : decode cX3_wash 22 = .ok (.ireturn, 1) := by decide +kernel
theorem dX3_cut_0 : decode cX3_cut 0 = .ok (.aload_n 0, 1) := by decide +kernel
theorem dX3_cut_1 : decode cX3_cut 1 = .ok (.iload_n 1, 1) := by decide +kernel
theorem dX3_cut_2 : decode cX3_cut 2 = .ok (.invokevirtual 140, 3) := by decide +kernel
theorem dX3_cut_5 : decode cX3_cut 5 = .ok (.astore_n 3, 1) := by decide +kernel
theorem dX3_cut_6 : decode cX3_cut 6 = .ok (.aload_n 3, 1) := by decide +kernel
theorem dX3_cut_7 : decode cX3_cut 7 = .ok (.iload_n 2, 1) := by decide +kernel
theorem dX3_cut_8 : decode cX3_cut 8 = .ok (.invokestatic 205, 3) := by decide +kernel
theorem dX3_cut_11 : decode cX3_cut 11 = .ok (.aload_n 3, 1) := by decide +kernel
theorem dX3_cut_12 : decode cX3_cut 12 = .ok (.invokestatic 209, 3) := by decide +kernel
theorem dX3_cut_15 : decode cX3_cut 15 = .ok (.aload_n 0, 1) := by decide +kernel
theorem dX3_cut_16 : decode cX3_cut 16 = .ok (.invokevirtual 127, 3) := by decide +kernel
theorem dX3_cut_19 : decode cX3_cut 19 = .ok (.new 33, 3) := by decide +kernel
theorem dX3_cut_22 : decode cX3_cut 22 = .ok (.dup, 1) := by decide +kernel
theorem dX3_cut_23 : decode cX3_cut 23 = .ok (.aload_n 3, 1) := by decide +kernel
theorem dX3_cut_24 : decode cX3_cut 24 = .ok (.invokevirtual 171, 3) := by decide +kernel
theorem dX3_cut_27 : decode cX3_cut 27 = .ok (.iconst 0, 1) := by decide +kernel
theorem dX3_cut_28 : decode cX3_cut 28 = .ok (.invokespecial 130, 3) := by decide +kernel
theorem dX3_cut_31 : decode cX3_cut 31 = .ok (.astore 4, 2) := by decide +kernel
theorem dX3_cut_33 : decode cX3_cut 33 = .ok (.aload 4, 2) := by decide +kernel
theorem dX3_cut_35 : decode cX3_cut 35 = .ok (.aload_n 3, 1) := by decide +kernel
theorem dX3_cut_36 : decode cX3_cut 36 = .ok (.iload_n 2, 1) := by decide +kernel
theorem dX3_cut_37 : decode cX3_cut 37 = .ok (.invokevirtual 229, 3) := by decide +kernel
theorem dX3_cut_40 : decode cX3_cut 40 = .ok (.aload_n 3, 1) := by decide +kernel
theorem dX3_cut_41 : decode cX3_cut 41 = .ok (.iload_n 2, 1) := by decide +kernel
theorem dX3_cut_42 : decode cX3_cut 42 = .ok (.invokevirtual 232, 3) := by decide +kernel
theorem dX3_cut_45 : decode cX3_cut 45 = .ok (.aload_n 0, 1) := by decide +kernel
theorem dX3_cut_46 : decode cX3_cut 46 = .ok (.aload 4, 2) := by decide +kernel
theorem dX3_cut_48 : decode cX3_cut 48 = .ok (.invokevirtual 136, 3) := by decide +kernel
theorem dX3_cut_51 : decode cX3_cut 51 = .ok (.ireturn, 1) := by decide +kernel
theorem dX3_match_0 : decode cX3_match 0 = .ok (.aload_n 0, 1) := by decide +kernel
theorem dX3_match_1 : decode cX3_match 1 = .ok (.iload_n 1, 1) := by decide +kernel
theorem dX3_match_2 : decode cX3_match 2 = .ok (.invokevirtual 140, 3) := by decide +kernel
theorem dX3_match_5 : decode cX3_match 5 = .ok (.astore_n 3, 1) := by decide +kernel
theorem dX3_match_6 : decode cX3_match 6 = .ok (.aload_n 0, 1) := by decide +kernel
theorem dX3_match_7 : decode cX3_match 7 = .ok (.iload_n 2, 1) := by decide +kernel
theorem dX3_match_8 : decode cX3_match 8 = .ok (.invokevirtual 140, 3) := by decide +kernel
theorem dX3_match_11 : decode cX3_match 11 = .ok (.astore 4, 2) := by decide +kernel
theorem dX3_match_13 : decode cX3_match 13 = .ok (.iload_n 1, 1) := by decide +kernel
theorem dX3_match_14 : decode cX3_match 14 = .ok (.iload_n 2, 1) := by decide +kernel
theorem dX3_match_15 : decode cX3_match 15 = .ok (.aload_n 3, 1) := by decide +kernel
theorem dX3_match_16 : decode cX3_match 16 = .ok (.aload 4, 2) := by decide +kernel
theorem dX3_match_18 : decode cX3_match 18 = .ok (.invokestatic 235, 3) := by decide +kernel
theorem dX3_match_21 : decode cX3_match 21 = .ok (.aload_n 3, 1) := by decide +kernel
theorem dX3_match_22 : decode cX3_match 22 = .ok (.invokevirtual 171, 3) := by decide +kernel
theorem dX3_match_25 : decode cX3_match 25 = .ok (.aload 4, 2) := by decide +kernel
theorem dX3_match_27 : decode cX3_match 27 = .ok (.invokevirtual 171, 3) := by decide +kernel
theorem dX3_match_30 : decode cX3_match 30 = .ok (.if_icmp .eq 5, 3) := by decide +kernel
theorem dX3_match_33 : decode cX3_match 33 = .ok (.iconst (-1), 1) := by decide +kernel
theorem dX3_match_34 : decode cX3_match 34 = .ok (.ireturn, 1) := by decide +kernel
theorem dX3_match_35 : decode cX3_match 35 = .ok (.aload_n 3, 1) := by decide +kernel
theorem dX3_match_36 : decode cX3_match 36 = .ok (.aload 4, 2) := by decide +kernel
theorem dX3_match_38 : decode cX3_match 38 = .ok (.invokevirtual 239, 3) := by decide +kernel
theorem dX3_match_41 : decode cX3_match 41 = .ok (.ireturn, 1) := by decide +kernel
theorem dX3_join_0 : decode cX3_join 0 = .ok (.aload_n 0, 1) := by decide +kernel
theorem dX3_join_1 : decode cX3_join 1 = .ok (.iload_n 1, 1) := by decide +kernel
theorem dX3_join_2 : decode cX3_join 2 = .ok (.invokevirtual 140, 3) := by decide +kernel
theorem dX3_join_5 : decode cX3_join 5 = .ok (.astore_n 3, 1) := by decide +kernel
theorem dX3_join_6 : decode cX3_join 6 = .ok (.aload_n 0, 1) := by decide +kernel
theorem dX3_join_7 : decode cX3_join 7 = .ok (.iload_n 2, 1) := by decide +kernel
theorem dX3_join_8 : decode cX3_join 8 = .ok (.invokevirtual 140, 3) := by decide +kernel
theorem dX3_join_11 : decode cX3_join 11 = .ok (.astore 4, 2) := by decide +kernel
theorem dX3_join_13 : decode cX3_join 13 = .ok (.iload_n 1, 1) := by decide +kernel
theorem dX3_join_14 : decode cX3_join 14 = .ok (.iload_n 2, 1) := by decide +kernel
theorem dX3_join_15 : decode cX3_join 15 = .ok (.aload_n 3, 1) := by decide +kernel
theorem dX3_join_16 : decode cX3_join 16 = .ok (.aload 4, 2) := by decide +kernel
theorem dX3_join_18 : decode cX3_join 18 = .ok (.invokestatic 235, 3) := by decide +kernel
theorem dX3_join_21 : decode cX3_join 21 = .ok (.aload_n 3, 1) := by decide +kernel
theorem dX3_join_22 : decode cX3_join 22 = .ok (.invokevirtual 171, 3) := by decide +kernel
theorem dX3_join_25 : decode cX3_join 25 = .ok (.aload 4, 2) := by decide +kernel
theorem dX3_join_27 : decode cX3_join 27 = .ok (.invokevirtual 171, 3) := by decide +kernel
theorem dX3_join_30 : decode cX3_join 30 = .ok (.if_icmp .eq 13, 3) := by decide +kernel
theorem dX3_join_33 : decode cX3_join 33 = .ok (.new 56, 3) := by decide +kernel
theorem dX3_join_36 : decode cX3_join 36 = .ok (.dup, 1) := by decide +kernel
theorem dX3_join_37 : decode cX3_join 37 = .ok (.ldc 242, 2) := by decide +kernel
theorem dX3_join_39 : decode cX3_join 39 = .ok (.invokespecial 60, 3) := by decide +kernel
theorem dX3_join_42 : decode cX3_join 42 = .ok (.athrow, 1) := by decide +kernel
theorem dX3_join_43 : decode cX3_join 43 = .ok (.aload_n 3, 1) := by decide +kernel
theorem dX3_join_44 : decode cX3_join 44 = .ok (.invokevirtual 170, 3) := by decide +kernel
theorem dX3_join_47 : decode cX3_join 47 = .ok (.aload 4, 2) := by decide +kernel
theorem dX3_join_49 : decode cX3_join 49 = .ok (.invokevirtual 170, 3) := by decide +kernel
theorem dX3_join_52 : decode cX3_join 52 = .ok (.iadd, 1) := by decide +kernel
theorem dX3_join_53 : decode cX3_join 53 = .ok (.bipush 24, 2) := by decide +kernel
theorem dX3_join_55 : decode cX3_join 55 = .ok (.if_icmp .le 13, 3) := by decide +kernel
theorem dX3_join_58 : decode cX3_join 58 = .ok (.new 56, 3) := by decide +kernel
theorem dX3_join_61 : decode cX3_join 61 = .ok (.dup, 1) := by decide +kernel
theorem dX3_join_62 : decode cX3_join 62 = .ok (.ldc 244, 2) := by decide +kernel
theorem dX3_join_64 : decode cX3_join 64 = .ok (.invokespecial 60, 3) := by decide +kernel
theorem dX3_join_67 : decode cX3_join 67 = .ok (.athrow, 1) := by decide +kernel
theorem dX3_join_68 : decode cX3_join 68 = .ok (.aload_n 3, 1) := by decide +kernel
theorem dX3_join_69 : decode cX3_join 69 = .ok (.invokevirtual 170, 3) := by decide +kernel
theorem dX3_join_72 : decode cX3_join 72 = .ok (.istore 5, 2) := by decide +kernel
theorem dX3_join_74 : decode cX3_join 74 = .ok (.aload_n 3, 1) := by decide +kernel
theorem dX3_join_75 : decode cX3_join 75 = .ok (.aload 4, 2) := by decide +kernel
theorem dX3_join_77 : decode cX3_join 77 = .ok (.iconst 0, 1) := by decide +kernel
theorem dX3_join_78 : decode cX3_join 78 = .ok (.invokevirtual 229, 3) := by decide +kernel
theorem dX3_join_81 : decode cX3_join 81 = .ok (.aload_n 0, 1) := by decide +kernel
theorem dX3_join_82 : decode cX3_join 82 = .ok (.iload_n 2, 1) := by decide +kernel
theorem dX3_join_83 : decode cX3_join 83 = .ok (.invokevirtual 246, 3) := by decide +kernel
theorem dX3_join_86 : decode cX3_join 86 = .ok (.aload_n 3, 1) := by decide +kernel
theorem dX3_join_87 : decode cX3_join 87 = .ok (.iload 5, 2) := by decide +kernel
theorem dX3_join_89 : decode cX3_join 89 = .ok (.invokevirtual 249, 3) := by decide +kernel
theorem dX3_join_92 : decode cX3_join 92 = .ok (.ireturn, 1) := by decide +kernel
theorem dX3_isTrue_0 : decode cX3_isTrue 0 = .ok (.aload_n 0, 1) := by decide +kernel
theorem dX3_isTrue_1 : decode cX3_isTrue 1 = .ok (.iload_n 1, 1) := by decide +kernel
theorem dX3_isTrue_2 : decode cX3_isTrue 2 = .ok (.invokevirtual 140, 3) := by decide +kernel
theorem dX3_isTrue_5 : decode cX3_isTrue 5 = .ok (.invokevirtual 252, 3) := by decide +kernel
theorem dX3_isTrue_8 : decode cX3_isTrue 8 = .ok (.ireturn, 1) := by decide +kernel
theorem dX3_likeness_0 : decode cX3_likeness 0 = .ok (.aload_n 0, 1) := by decide +kernel
theorem dX3_likeness_1 : decode cX3_likeness 1 = .ok (.iload_n 1, 1) := by decide +kernel
theorem dX3_likeness_2 : decode cX3_likeness 2 = .ok (.invokevirtual 140, 3) := by decide +kernel
theorem dX3_likeness_5 : decode cX3_likeness 5 = .ok (.astore_n 3, 1) := by decide +kernel
theorem dX3_likeness_6 : decode cX3_likeness 6 = .ok (.aload_n 0, 1) := by decide +kernel
theorem dX3_likeness_7 : decode cX3_likeness 7 = .ok (.iload_n 2, 1) := by decide +kernel
theorem dX3_likeness_8 : decode cX3_likeness 8 = .ok (.invokevirtual 72, 3) := by decide +kernel
theorem dX3_likeness_11 : decode cX3_likeness 11 = .ok (.astore 4, 2) := by decide +kernel
theorem dX3_likeness_13 : decode cX3_likeness 13 = .ok (.aload_n 3, 1) := by decide +kernel
theorem dX3_likeness_14 : decode cX3_likeness 14 = .ok (.invokevirtual 171, 3) := by decide +kernel
theorem dX3_likeness_17 : decode cX3_likeness 17 = .ok (.aload 4, 2) := by decide +kernel
theorem dX3_likeness_19 : decode cX3_likeness 19 = .ok (.invokevirtual 82, 3) := by decide +kernel
theorem dX3_likeness_22 : decode cX3_likeness 22 = .ok (.if_icmp .ne 15, 3) := by decide +kernel
theorem dX3_likeness_25 : decode cX3_likeness 25 = .ok (.aload_n 3, 1) := by decide +kernel
theorem dX3_likeness_26 : decode cX3_likeness 26 = .ok (.invokevirtual 170, 3) := by decide +kernel
theorem dX3_likeness_29 : decode cX3_likeness 29 = .ok (.aload 4, 2) := by decide +kernel
theorem dX3_likeness_31 : decode cX3_likeness 31 = .ok (.invokevirtual 76, 3) := by decide +kernel
theorem dX3_likeness_34 : decode cX3_likeness 34 = .ok (.if_icmp .eq 5, 3) := by decide +kernel
theorem dX3_likeness_37 : decode cX3_likeness 37 = .ok (.iconst (-1), 1) := by decide +kernel
theorem dX3_likeness_38 : decode cX3_likeness 38 = .ok (.ireturn, 1) := by decide +kernel
theorem dX3_likeness_39 : decode cX3_likeness 39 = .ok (.aload_n 3, 1) := by decide +kernel
theorem dX3_likeness_40 : decode cX3_likeness 40 = .ok (.aload 4, 2) := by decide +kernel
theorem dX3_likeness_42 : decode cX3_likeness 42 = .ok (.iconst 0, 1) := by decide +kernel
theorem dX3_likeness_43 : decode cX3_likeness 43 = .ok (.invokevirtual 255, 3) := by decide +kernel
theorem dX3_likeness_46 : decode cX3_likeness 46 = .ok (.aload_n 3, 1) := by decide +kernel
theorem dX3_likeness_47 : decode cX3_likeness 47 = .ok (.aload 4, 2) := by decide +kernel
theorem dX3_likeness_49 : decode cX3_likeness 49 = .ok (.iconst 1, 1) := by decide +kernel
theorem dX3_likeness_50 : decode cX3_likeness 50 = .ok (.invokevirtual 255, 3) := by decide +kernel
theorem dX3_likeness_53 : decode cX3_likeness 53 = .ok (.invokestatic 259, 3) := by decide +kernel
theorem dX3_likeness_56 : decode cX3_likeness 56 = .ok (.ireturn, 1) := by decide +kernel
theorem dX3_balances_0 : decode cX3_balances 0 = .ok (.iconst 0, 1) := by decide +kernel
theorem dX3_balances_1 : decode cX3_balances 1 = .ok (.istore_n 1, 1) := by decide +kernel
theorem dX3_balances_2 : decode cX3_balances 2 = .ok (.iload_n 1, 1) := by decide +kernel
theorem dX3_balances_3 : decode cX3_balances 3 = .ok (.aload_n 0, 1) := by decide +kernel
theorem dX3_balances_4 : decode cX3_balances 4 = .ok (.getfield 42, 3) := by decide +kernel
theorem dX3_balances_7 : decode cX3_balances 7 = .ok (.arraylength, 1) := by decide +kernel
theorem dX3_balances_8 : decode cX3_balances 8 = .ok (.if_icmp .ge 16, 3) := by decide +kernel
theorem dX3_balances_11 : decode cX3_balances 11 = .ok (.aload_n 0, 1) := by decide +kernel
theorem dX3_balances_12 : decode cX3_balances 12 = .ok (.getfield 42, 3) := by decide +kernel
theorem dX3_balances_15 : decode cX3_balances 15 = .ok (.iload_n 1, 1) := by decide +kernel
theorem dX3_balances_16 : decode cX3_balances 16 = .ok (.iconst 0, 1) := by decide +kernel
theorem dX3_balances_17 : decode cX3_balances 17 = .ok (.iastore, 1) := by decide +kernel
theorem dX3_balances_18 : decode cX3_balances 18 = .ok (.iinc 1 1, 3) := by decide +kernel
theorem dX3_balances_21 : decode cX3_balances 21 = .ok (.goto (-19), 3) := by decide +kernel
theorem dX3_balances_24 : decode cX3_balances 24 = .ok (.iconst 0, 1) := by decide +kernel
theorem dX3_balances_25 : decode cX3_balances 25 = .ok (.istore_n 1, 1) := by decide +kernel
theorem dX3_balances_26 : decode cX3_balances 26 = .ok (.iload_n 1, 1) := by decide +kernel
theorem dX3_balances_27 : decode cX3_balances 27 = .ok (.aload_n 0, 1) := by decide +kernel
theorem dX3_balances_28 : decode cX3_balances 28 = .ok (.getfield 35, 3) := by decide +kernel
theorem dX3_balances_31 : decode cX3_balances 31 = .ok (.arraylength, 1) := by decide +kernel
theorem dX3_balances_32 : decode cX3_balances 32 = .ok (.if_icmp .ge 28, 3) := by decide +kernel
theorem dX3_balances_35 : decode cX3_balances 35 = .ok (.aload_n 0, 1) := by decide +kernel
theorem dX3_balances_36 : decode cX3_balances 36 = .ok (.getfield 35, 3) := by decide +kernel
theorem dX3_balances_39 : decode cX3_balances 39 = .ok (.iload_n 1, 1) := by decide +kernel
theorem dX3_balances_40 : decode cX3_balances 40 = .ok (.aaload, 1) := by decide +kernel
theorem dX3_balances_41 : decode cX3_balances 41 = .ok (.astore_n 2, 1) := by decide +kernel
theorem dX3_balances_42 : decode cX3_balances 42 = .ok (.aload_n 2, 1) := by decide +kernel
theorem dX3_balances_43 : decode cX3_balances 43 = .ok (.ifnull 11, 3) := by decide +kernel
theorem dX3_balances_46 : decode cX3_balances 46 = .ok (.aload_n 2, 1) := by decide +kernel
theorem dX3_balances_47 : decode cX3_balances 47 = .ok (.aload_n 0, 1) := by decide +kernel
theorem dX3_balances_48 : decode cX3_balances 48 = .ok (.getfield 42, 3) := by decide +kernel
theorem dX3_balances_51 : decode cX3_balances 51 = .ok (.invokevirtual 264, 3) := by decide +kernel
theorem dX3_balances_54 : decode cX3_balances 54 = .ok (.iinc 1 1, 3) := by decide +kernel
theorem dX3_balances_57 : decode cX3_balances 57 = .ok (.goto (-31), 3) := by decide +kernel
theorem dX3_balances_60 : decode cX3_balances 60 = .ok (.iconst 0, 1) := by decide +kernel
theorem dX3_balances_61 : decode cX3_balances 61 = .ok (.istore_n 1, 1) := by decide +kernel
theorem dX3_balances_62 : decode cX3_balances 62 = .ok (.iload_n 1, 1) := by decide +kernel
theorem dX3_balances_63 : decode cX3_balances 63 = .ok (.aload_n 0, 1) := by decide +kernel
theorem dX3_balances_64 : decode cX3_balances 64 = .ok (.getfield 42, 3) := by decide +kernel
theorem dX3_balances_67 : decode cX3_balances 67 = .ok (.arraylength, 1) := by decide +kernel
theorem dX3_balances_68 : decode cX3_balances 68 = .ok (.if_icmp .ge 28, 3) := by decide +kernel
theorem dX3_balances_71 : decode cX3_balances 71 = .ok (.aload_n 0, 1) := by decide +kernel
theorem dX3_balances_72 : decode cX3_balances 72 = .ok (.getfield 42, 3) := by decide +kernel
theorem dX3_balances_75 : decode cX3_balances 75 = .ok (.iload_n 1, 1) := by decide +kernel
theorem dX3_balances_76 : decode cX3_balances 76 = .ok (.iaload, 1) := by decide +kernel
theorem dX3_balances_77 : decode cX3_balances 77 = .ok (.aload_n 0, 1) := by decide +kernel
theorem dX3_balances_78 : decode cX3_balances 78 = .ok (.getfield 29, 3) := by decide +kernel
theorem dX3_balances_81 : decode cX3_balances 81 = .ok (.iload_n 1, 1) := by decide +kernel
theorem dX3_balances_82 : decode cX3_balances 82 = .ok (.invokevirtual 267, 3) := by decide +kernel
theorem dX3_balances_85 : decode cX3_balances 85 = .ok (.if_icmp .eq 5, 3) := by decide +kernel
theorem dX3_balances_88 : decode cX3_balances 88 = .ok (.iconst 0, 1) := by decide +kernel
theorem dX3_balances_89 : decode cX3_balances 89 = .ok (.ireturn, 1) := by decide +kernel
theorem dX3_balances_90 : decode cX3_balances 90 = .ok (.iinc 1 1, 3) := by decide +kernel
theorem dX3_balances_93 : decode cX3_balances 93 = .ok (.goto (-31), 3) := by decide +kernel
theorem dX3_balances_96 : decode cX3_balances 96 = .ok (.iconst 1, 1) := by decide +kernel
theorem dX3_balances_97 : decode cX3_balances 97 = .ok (.ireturn, 1) := by decide +kernel
theorem dX3_signOf_0 : decode cX3_signOf 0 = .ok (.iload_n 0, 1) := by decide +kernel
theorem dX3_signOf_1 : decode cX3_signOf 1 = .ok (.tableswitch 130 66 90 #[117, 130, 130, 130, 130, 121, 130, 130, 130, 130, 130, 130, 130, 130, 130, 130, 115, 130, 130, 130, 130, 123, 127, 119, 125], 115) := by decide +kernel
theorem dX3_signOf_116 : decode cX3_signOf 116 = .ok (.iconst 0, 1) := by decide +kernel
theorem dX3_signOf_117 : decode cX3_signOf 117 = .ok (.ireturn, 1) := by decide +kernel
theorem dX3_signOf_118 : decode cX3_signOf 118 = .ok (.iconst 1, 1) := by decide +kernel
theorem dX3_signOf_119 : decode cX3_signOf 119 = .ok (.ireturn, 1) := by decide +kernel
theorem dX3_signOf_120 : decode cX3_signOf 120 = .ok (.iconst 2, 1) := by decide +kernel
theorem dX3_signOf_121 : decode cX3_signOf 121 = .ok (.ireturn, 1) := by decide +kernel
theorem dX3_signOf_122 : decode cX3_signOf 122 = .ok (.iconst 3, 1) := by decide +kernel
theorem dX3_signOf_123 : decode cX3_signOf 123 = .ok (.ireturn, 1) := by decide +kernel
theorem dX3_signOf_124 : decode cX3_signOf 124 = .ok (.iconst 4, 1) := by decide +kernel
theorem dX3_signOf_125 : decode cX3_signOf 125 = .ok (.ireturn, 1) := by decide +kernel
theorem dX3_signOf_126 : decode cX3_signOf 126 = .ok (.iconst 5, 1) := by decide +kernel
theorem dX3_signOf_127 : decode cX3_signOf 127 = .ok (.ireturn, 1) := by decide +kernel
theorem dX3_signOf_128 : decode cX3_signOf 128 = .ok (.bipush 6, 2) := by decide +kernel
theorem dX3_signOf_130 : decode cX3_signOf 130 = .ok (.ireturn, 1) := by decide +kernel
theorem dX3_signOf_131 : decode cX3_signOf 131 = .ok (.iconst (-1), 1) := by decide +kernel
theorem dX3_signOf_132 : decode cX3_signOf 132 = .ok (.ireturn, 1) := by decide +kernel
theorem dX3_cartoonNumbered_0 : decode cX3_cartoonNumbered 0 = .ok (.iload_n 1, 1) := by decide +kernel
theorem dX3_cartoonNumbered_1 : decode cX3_cartoonNumbered 1 = .ok (.ifCond .lt 12, 3) := by decide +kernel
theorem dX3_cartoonNumbered_4 : decode cX3_cartoonNumbered 4 = .ok (.iload_n 1, 1) := by decide +kernel
theorem dX3_cartoonNumbered_5 : decode cX3_cartoonNumbered 5 = .ok (.aload_n 0, 1) := by decide +kernel
theorem dX3_cartoonNumbered_6 : decode cX3_cartoonNumbered 6 = .ok (.getfield 19, 3) := by decide +kernel
theorem dX3_cartoonNumbered_9 : decode cX3_cartoonNumbered 9 = .ok (.arraylength, 1) := by decide +kernel
theorem dX3_cartoonNumbered_10 : decode cX3_cartoonNumbered 10 = .ok (.if_icmp .lt 7, 3) := by decide +kernel
theorem dX3_cartoonNumbered_13 : decode cX3_cartoonNumbered 13 = .ok (.aconst_null, 1) := by decide +kernel
theorem dX3_cartoonNumbered_14 : decode cX3_cartoonNumbered 14 = .ok (.goto 9, 3) := by decide +kernel
theorem dX3_cartoonNumbered_17 : decode cX3_cartoonNumbered 17 = .ok (.aload_n 0, 1) := by decide +kernel
theorem dX3_cartoonNumbered_18 : decode cX3_cartoonNumbered 18 = .ok (.getfield 19, 3) := by decide +kernel
theorem dX3_cartoonNumbered_21 : decode cX3_cartoonNumbered 21 = .ok (.iload_n 1, 1) := by decide +kernel
theorem dX3_cartoonNumbered_22 : decode cX3_cartoonNumbered 22 = .ok (.aaload, 1) := by decide +kernel
theorem dX3_cartoonNumbered_23 : decode cX3_cartoonNumbered 23 = .ok (.astore_n 2, 1) := by decide +kernel
theorem dX3_cartoonNumbered_24 : decode cX3_cartoonNumbered 24 = .ok (.aload_n 2, 1) := by decide +kernel
theorem dX3_cartoonNumbered_25 : decode cX3_cartoonNumbered 25 = .ok (.ifnonnull 14, 3) := by decide +kernel
theorem dX3_cartoonNumbered_28 : decode cX3_cartoonNumbered 28 = .ok (.new 111, 3) := by decide +kernel
theorem dX3_cartoonNumbered_31 : decode cX3_cartoonNumbered 31 = .ok (.dup, 1) := by decide +kernel
theorem dX3_cartoonNumbered_32 : decode cX3_cartoonNumbered 32 = .ok (.ldc_w 270, 3) := by decide +kernel
theorem dX3_cartoonNumbered_35 : decode cX3_cartoonNumbered 35 = .ok (.invokespecial 115, 3) := by decide +kernel
theorem dX3_cartoonNumbered_38 : decode cX3_cartoonNumbered 38 = .ok (.athrow, 1) := by decide +kernel
theorem dX3_cartoonNumbered_39 : decode cX3_cartoonNumbered 39 = .ok (.aload_n 2, 1) := by decide +kernel
theorem dX3_cartoonNumbered_40 : decode cX3_cartoonNumbered 40 = .ok (.areturn, 1) := by decide +kernel
theorem dX3_pieceNumbered_0 : decode cX3_pieceNumbered 0 = .ok (.iload_n 1, 1) := by decide +kernel
theorem dX3_pieceNumbered_1 : decode cX3_pieceNumbered 1 = .ok (.ifCond .lt 12, 3) := by decide +kernel
theorem dX3_pieceNumbered_4 : decode cX3_pieceNumbered 4 = .ok (.iload_n 1, 1) := by decide +kernel
theorem dX3_pieceNumbered_5 : decode cX3_pieceNumbered 5 = .ok (.aload_n 0, 1) := by decide +kernel
theorem dX3_pieceNumbered_6 : decode cX3_pieceNumbered 6 = .ok (.getfield 35, 3) := by decide +kernel
theorem dX3_pieceNumbered_9 : decode cX3_pieceNumbered 9 = .ok (.arraylength, 1) := by decide +kernel
theorem dX3_pieceNumbered_10 : decode cX3_pieceNumbered 10 = .ok (.if_icmp .lt 7, 3) := by decide +kernel
theorem dX3_pieceNumbered_13 : decode cX3_pieceNumbered 13 = .ok (.aconst_null, 1) := by decide +kernel
theorem dX3_pieceNumbered_14 : decode cX3_pieceNumbered 14 = .ok (.goto 9, 3) := by decide +kernel
theorem dX3_pieceNumbered_17 : decode cX3_pieceNumbered 17 = .ok (.aload_n 0, 1) := by decide +kernel
theorem dX3_pieceNumbered_18 : decode cX3_pieceNumbered 18 = .ok (.getfield 35, 3) := by decide +kernel
theorem dX3_pieceNumbered_21 : decode cX3_pieceNumbered 21 = .ok (.iload_n 1, 1) := by decide +kernel
theorem dX3_pieceNumbered_22 : decode cX3_pieceNumbered 22 = .ok (.aaload, 1) := by decide +kernel
theorem dX3_pieceNumbered_23 : decode cX3_pieceNumbered 23 = .ok (.astore_n 2, 1) := by decide +kernel
theorem dX3_pieceNumbered_24 : decode cX3_pieceNumbered 24 = .ok (.aload_n 2, 1) := by decide +kernel
theorem dX3_pieceNumbered_25 : decode cX3_pieceNumbered 25 = .ok (.ifnonnull 14, 3) := by decide +kernel
theorem dX3_pieceNumbered_28 : decode cX3_pieceNumbered 28 = .ok (.new 111, 3) := by decide +kernel
theorem dX3_pieceNumbered_31 : decode cX3_pieceNumbered 31 = .ok (.dup, 1) := by decide +kernel
theorem dX3_pieceNumbered_32 : decode cX3_pieceNumbered 32 = .ok (.ldc_w 272, 3) := by decide +kernel
theorem dX3_pieceNumbered_35 : decode cX3_pieceNumbered 35 = .ok (.invokespecial 115, 3) := by decide +kernel
theorem dX3_pieceNumbered_38 : decode cX3_pieceNumbered 38 = .ok (.athrow, 1) := by decide +kernel
theorem dX3_pieceNumbered_39 : decode cX3_pieceNumbered 39 = .ok (.aload_n 2, 1) := by decide +kernel
theorem dX3_pieceNumbered_40 : decode cX3_pieceNumbered 40 = .ok (.areturn, 1) := by decide +kernel
theorem dX3_requireColour_0 : decode cX3_requireColour 0 = .ok (.iload_n 0, 1) := by decide +kernel
theorem dX3_requireColour_1 : decode cX3_requireColour 1 = .ok (.ifCond .lt 9, 3) := by decide +kernel
theorem dX3_requireColour_4 : decode cX3_requireColour 4 = .ok (.iload_n 0, 1) := by decide +kernel
theorem dX3_requireColour_5 : decode cX3_requireColour 5 = .ok (.bipush 6, 2) := by decide +kernel
theorem dX3_requireColour_7 : decode cX3_requireColour 7 = .ok (.if_icmp .lt 14, 3) := by decide +kernel
theorem dX3_requireColour_10 : decode cX3_requireColour 10 = .ok (.new 111, 3) := by decide +kernel
theorem dX3_requireColour_13 : decode cX3_requireColour 13 = .ok (.dup, 1) := by decide +kernel
theorem dX3_requireColour_14 : decode cX3_requireColour 14 = .ok (.ldc_w 274, 3) := by decide +kernel
theorem dX3_requireColour_17 : decode cX3_requireColour 17 = .ok (.invokespecial 115, 3) := by decide +kernel
theorem dX3_requireColour_20 : decode cX3_requireColour 20 = .ok (.athrow, 1) := by decide +kernel
theorem dX3_requireColour_21 : decode cX3_requireColour 21 = .ok (.return_, 1) := by decide +kernel
theorem dX3_requireSecondColumn_0 : decode cX3_requireSecondColumn 0 = .ok (.iload_n 1, 1) := by decide +kernel
theorem dX3_requireSecondColumn_1 : decode cX3_requireSecondColumn 1 = .ok (.iconst 1, 1) := by decide +kernel
theorem dX3_requireSecondColumn_2 : decode cX3_requireSecondColumn 2 = .ok (.if_icmp .lt 11, 3) := by decide +kernel
theorem dX3_requireSecondColumn_5 : decode cX3_requireSecondColumn 5 = .ok (.iload_n 1, 1) := by decide +kernel
theorem dX3_requireSecondColumn_6 : decode cX3_requireSecondColumn 6 = .ok (.aload_n 0, 1) := by decide +kernel
theorem dX3_requireSecondColumn_7 : decode cX3_requireSecondColumn 7 = .ok (.invokevirtual 170, 3) := by decide +kernel
theorem dX3_requireSecondColumn_10 : decode cX3_requireSecondColumn 10 = .ok (.if_icmp .lt 14, 3) := by decide +kernel
theorem dX3_requireSecondColumn_13 : decode cX3_requireSecondColumn 13 = .ok (.new 111, 3) := by decide +kernel
theorem dX3_requireSecondColumn_16 : decode cX3_requireSecondColumn 16 = .ok (.dup, 1) := by decide +kernel
theorem dX3_requireSecondColumn_17 : decode cX3_requireSecondColumn 17 = .ok (.ldc_w 276, 3) := by decide +kernel
theorem dX3_requireSecondColumn_20 : decode cX3_requireSecondColumn 20 = .ok (.invokespecial 115, 3) := by decide +kernel
theorem dX3_requireSecondColumn_23 : decode cX3_requireSecondColumn 23 = .ok (.athrow, 1) := by decide +kernel
theorem dX3_requireSecondColumn_24 : decode cX3_requireSecondColumn 24 = .ok (.return_, 1) := by decide +kernel
theorem dX3_requireDone_0 : decode cX3_requireDone 0 = .ok (.aload_n 0, 1) := by decide +kernel
theorem dX3_requireDone_1 : decode cX3_requireDone 1 = .ok (.invokevirtual 175, 3) := by decide +kernel
theorem dX3_requireDone_4 : decode cX3_requireDone 4 = .ok (.ifCond .ne 14, 3) := by decide +kernel
theorem dX3_requireDone_7 : decode cX3_requireDone 7 = .ok (.new 56, 3) := by decide +kernel
theorem dX3_requireDone_10 : decode cX3_requireDone 10 = .ok (.dup, 1) := by decide +kernel
theorem dX3_requireDone_11 : decode cX3_requireDone 11 = .ok (.ldc_w 278, 3) := by decide +kernel
theorem dX3_requireDone_14 : decode cX3_requireDone 14 = .ok (.invokespecial 60, 3) := by decide +kernel
theorem dX3_requireDone_17 : decode cX3_requireDone 17 = .ok (.athrow, 1) := by decide +kernel
theorem dX3_requireDone_18 : decode cX3_requireDone 18 = .ok (.return_, 1) := by decide +kernel
theorem dX3_requireTwoDone_0 : decode cX3_requireTwoDone 0 = .ok (.iload_n 0, 1) := by decide +kernel
theorem dX3_requireTwoDone_1 : decode cX3_requireTwoDone 1 = .ok (.iload_n 1, 1) := by decide +kernel
theorem dX3_requireTwoDone_2 : decode cX3_requireTwoDone 2 = .ok (.if_icmp .ne 14, 3) := by decide +kernel
theorem dX3_requireTwoDone_5 : decode cX3_requireTwoDone 5 = .ok (.new 49, 3) := by decide +kernel
theorem dX3_requireTwoDone_8 : decode cX3_requireTwoDone 8 = .ok (.dup, 1) := by decide +kernel
theorem dX3_requireTwoDone_9 : decode cX3_requireTwoDone 9 = .ok (.ldc_w 280, 3) := by decide +kernel
theorem dX3_requireTwoDone_12 : decode cX3_requireTwoDone 12 = .ok (.invokespecial 53, 3) := by decide +kernel
theorem dX3_requireTwoDone_15 : decode cX3_requireTwoDone 15 = .ok (.athrow, 1) := by decide +kernel
theorem dX3_requireTwoDone_16 : decode cX3_requireTwoDone 16 = .ok (.aload_n 2, 1) := by decide +kernel
theorem dX3_requireTwoDone_17 : decode cX3_requireTwoDone 17 = .ok (.invokestatic 209, 3) := by decide +kernel
theorem dX3_requireTwoDone_20 : decode cX3_requireTwoDone 20 = .ok (.aload_n 3, 1) := by decide +kernel
theorem dX3_requireTwoDone_21 : decode cX3_requireTwoDone 21 = .ok (.invokestatic 209, 3) := by decide +kernel
theorem dX3_requireTwoDone_24 : decode cX3_requireTwoDone 24 = .ok (.return_, 1) := by decide +kernel
theorem dX3_requireRoomForPiece_0 : decode cX3_requireRoomForPiece 0 = .ok (.aload_n 0, 1) := by decide +kernel
theorem dX3_requireRoomForPiece_1 : decode cX3_requireRoomForPiece 1 = .ok (.getfield 39, 3) := by decide +kernel
theorem dX3_requireRoomForPiece_4 : decode cX3_requireRoomForPiece 4 = .ok (.bipush 20, 2) := by decide +kernel
theorem dX3_requireRoomForPiece_6 : decode cX3_requireRoomForPiece 6 = .ok (.if_icmp .lt 14, 3) := by decide +kernel
theorem dX3_requireRoomForPiece_9 : decode cX3_requireRoomForPiece 9 = .ok (.new 56, 3) := by decide +kernel
theorem dX3_requireRoomForPiece_12 : decode cX3_requireRoomForPiece 12 = .ok (.dup, 1) := by decide +kernel
theorem dX3_requireRoomForPiece_13 : decode cX3_requireRoomForPiece 13 = .ok (.ldc_w 282, 3) := by decide +kernel
theorem dX3_requireRoomForPiece_16 : decode cX3_requireRoomForPiece 16 = .ok (.invokespecial 60, 3) := by decide +kernel
theorem dX3_requireRoomForPiece_19 : decode cX3_requireRoomForPiece 19 = .ok (.athrow, 1) := by decide +kernel
theorem dX3_requireRoomForPiece_20 : decode cX3_requireRoomForPiece 20 = .ok (.return_, 1) := by decide +kernel
theorem dX3_keepPiece_0 : decode cX3_keepPiece 0 = .ok (.aload_n 0, 1) := by decide +kernel
theorem dX3_keepPiece_1 : decode cX3_keepPiece 1 = .ok (.getfield 39, 3) := by decide +kernel
theorem dX3_keepPiece_4 : decode cX3_keepPiece 4 = .ok (.istore_n 2, 1) := by decide +kernel
theorem dX3_keepPiece_5 : decode cX3_keepPiece 5 = .ok (.iload_n 2, 1) := by decide +kernel
theorem dX3_keepPiece_6 : decode cX3_keepPiece 6 = .ok (.ifCond .lt 29, 3) := by decide +kernel
theorem dX3_keepPiece_9 : decode cX3_keepPiece 9 = .ok (.iload_n 2, 1) := by decide +kernel
theorem dX3_keepPiece_10 : decode cX3_keepPiece 10 = .ok (.aload_n 0, 1) := by decide +kernel
theorem dX3_keepPiece_11 : decode cX3_keepPiece 11 = .ok (.getfield 35, 3) := by decide +kernel
theorem dX3_keepPiece_14 : decode cX3_keepPiece 14 = .ok (.arraylength, 1) := by decide +kernel
theorem dX3_keepPiece_15 : decode cX3_keepPiece 15 = .ok (.if_icmp .ge 20, 3) := by decide +kernel
theorem dX3_keepPiece_18 : decode cX3_keepPiece 18 = .ok (.aload_n 0, 1) := by decide +kernel
theorem dX3_keepPiece_19 : decode cX3_keepPiece 19 = .ok (.getfield 35, 3) := by decide +kernel
theorem dX3_keepPiece_22 : decode cX3_keepPiece 22 = .ok (.iload_n 2, 1) := by decide +kernel
theorem dX3_keepPiece_23 : decode cX3_keepPiece 23 = .ok (.aload_n 1, 1) := by decide +kernel
theorem dX3_keepPiece_24 : decode cX3_keepPiece 24 = .ok (.aastore, 1) := by decide +kernel
theorem dX3_keepPiece_25 : decode cX3_keepPiece 25 = .ok (.aload_n 0, 1) := by decide +kernel
theorem dX3_keepPiece_26 : decode cX3_keepPiece 26 = .ok (.dup, 1) := by decide +kernel
theorem dX3_keepPiece_27 : decode cX3_keepPiece 27 = .ok (.getfield 39, 3) := by decide +kernel
theorem dX3_keepPiece_30 : decode cX3_keepPiece 30 = .ok (.iconst 1, 1) := by decide +kernel
theorem dX3_keepPiece_31 : decode cX3_keepPiece 31 = .ok (.iadd, 1) := by decide +kernel
theorem dX3_keepPiece_32 : decode cX3_keepPiece 32 = .ok (.putfield 39, 3) := by decide +kernel
theorem dX3_keepPiece_35 : decode cX3_keepPiece 35 = .ok (.iload_n 2, 1) := by decide +kernel
theorem dX3_keepPiece_36 : decode cX3_keepPiece 36 = .ok (.ireturn, 1) := by decide +kernel
theorem dX3_dropPiece_0 : decode cX3_dropPiece 0 = .ok (.iload_n 1, 1) := by decide +kernel
theorem dX3_dropPiece_1 : decode cX3_dropPiece 1 = .ok (.ifCond .lt 19, 3) := by decide +kernel
theorem dX3_dropPiece_4 : decode cX3_dropPiece 4 = .ok (.iload_n 1, 1) := by decide +kernel
theorem dX3_dropPiece_5 : decode cX3_dropPiece 5 = .ok (.aload_n 0, 1) := by decide +kernel
theorem dX3_dropPiece_6 : decode cX3_dropPiece 6 = .ok (.getfield 35, 3) := by decide +kernel
theorem dX3_dropPiece_9 : decode cX3_dropPiece 9 = .ok (.arraylength, 1) := by decide +kernel
theorem dX3_dropPiece_10 : decode cX3_dropPiece 10 = .ok (.if_icmp .ge 10, 3) := by decide +kernel
theorem dX3_dropPiece_13 : decode cX3_dropPiece 13 = .ok (.aload_n 0, 1) := by decide +kernel
theorem dX3_dropPiece_14 : decode cX3_dropPiece 14 = .ok (.getfield 35, 3) := by decide +kernel
theorem dX3_dropPiece_17 : decode cX3_dropPiece 17 = .ok (.iload_n 1, 1) := by decide +kernel
theorem dX3_dropPiece_18 : decode cX3_dropPiece 18 = .ok (.aconst_null, 1) := by decide +kernel
theorem dX3_dropPiece_19 : decode cX3_dropPiece 19 = .ok (.aastore, 1) := by decide +kernel
theorem dX3_dropPiece_20 : decode cX3_dropPiece 20 = .ok (.return_, 1) := by decide +kernel
theorem dX3_valueAt_0 : decode cX3_valueAt 0 = .ok (.iload_n 1, 1) := by decide +kernel
theorem dX3_valueAt_1 : decode cX3_valueAt 1 = .ok (.ifCond .lt 9, 3) := by decide +kernel
theorem dX3_valueAt_4 : decode cX3_valueAt 4 = .ok (.iload_n 1, 1) := by decide +kernel
theorem dX3_valueAt_5 : decode cX3_valueAt 5 = .ok (.aload_n 0, 1) := by decide +kernel
theorem dX3_valueAt_6 : decode cX3_valueAt 6 = .ok (.arraylength, 1) := by decide +kernel
theorem dX3_valueAt_7 : decode cX3_valueAt 7 = .ok (.if_icmp .lt 7, 3) := by decide +kernel
theorem dX3_valueAt_10 : decode cX3_valueAt 10 = .ok (.iconst (-1), 1) := by decide +kernel
theorem dX3_valueAt_11 : decode cX3_valueAt 11 = .ok (.goto 6, 3) := by decide +kernel
theorem dX3_valueAt_14 : decode cX3_valueAt 14 = .ok (.aload_n 0, 1) := by decide +kernel
theorem dX3_valueAt_15 : decode cX3_valueAt 15 = .ok (.iload_n 1, 1) := by decide +kernel
theorem dX3_valueAt_16 : decode cX3_valueAt 16 = .ok (.iaload, 1) := by decide +kernel
theorem dX3_valueAt_17 : decode cX3_valueAt 17 = .ok (.ireturn, 1) := by decide +kernel
theorem dX3_setAt_0 : decode cX3_setAt 0 = .ok (.iload_n 1, 1) := by decide +kernel
theorem dX3_setAt_1 : decode cX3_setAt 1 = .ok (.ifCond .lt 13, 3) := by decide +kernel
theorem dX3_setAt_4 : decode cX3_setAt 4 = .ok (.iload_n 1, 1) := by decide +kernel
theorem dX3_setAt_5 : decode cX3_setAt 5 = .ok (.aload_n 0, 1) := by decide +kernel
theorem dX3_setAt_6 : decode cX3_setAt 6 = .ok (.arraylength, 1) := by decide +kernel
theorem dX3_setAt_7 : decode cX3_setAt 7 = .ok (.if_icmp .ge 7, 3) := by decide +kernel
theorem dX3_setAt_10 : decode cX3_setAt 10 = .ok (.aload_n 0, 1) := by decide +kernel
theorem dX3_setAt_11 : decode cX3_setAt 11 = .ok (.iload_n 1, 1) := by decide +kernel
theorem dX3_setAt_12 : decode cX3_setAt 12 = .ok (.iload_n 2, 1) := by decide +kernel
theorem dX3_setAt_13 : decode cX3_setAt 13 = .ok (.iastore, 1) := by decide +kernel
theorem dX3_setAt_14 : decode cX3_setAt 14 = .ok (.return_, 1) := by decide +kernel
theorem dX4_init_0 : decode cX4_init 0 = .ok (.aload_n 0, 1) := by decide +kernel
theorem dX4_init_1 : decode cX4_init 1 = .ok (.invokespecial 1, 3) := by decide +kernel
theorem dX4_init_4 : decode cX4_init 4 = .ok (.aload_n 0, 1) := by decide +kernel
theorem dX4_init_5 : decode cX4_init 5 = .ok (.bipush 12, 2) := by decide +kernel
theorem dX4_init_7 : decode cX4_init 7 = .ok (.newarray .int, 2) := by decide +kernel
theorem dX4_init_9 : decode cX4_init 9 = .ok (.putfield 7, 3) := by decide +kernel
theorem dX4_init_12 : decode cX4_init 12 = .ok (.aload_n 0, 1) := by decide +kernel
theorem dX4_init_13 : decode cX4_init 13 = .ok (.iconst 5, 1) := by decide +kernel
theorem dX4_init_14 : decode cX4_init 14 = .ok (.newarray .int, 2) := by decide +kernel
theorem dX4_init_16 : decode cX4_init 16 = .ok (.putfield 13, 3) := by decide +kernel
theorem dX4_init_19 : decode cX4_init 19 = .ok (.aload_n 0, 1) := by decide +kernel
theorem dX4_init_20 : decode cX4_init 20 = .ok (.iconst 5, 1) := by decide +kernel
theorem dX4_init_21 : decode cX4_init 21 = .ok (.newarray .int, 2) := by decide +kernel
theorem dX4_init_23 : decode cX4_init 23 = .ok (.putfield 16, 3) := by decide +kernel
theorem dX4_init_26 : decode cX4_init 26 = .ok (.aload_n 0, 1) := by decide +kernel
theorem dX4_init_27 : decode cX4_init 27 = .ok (.iconst 5, 1) := by decide +kernel
theorem dX4_init_28 : decode cX4_init 28 = .ok (.newarray .int, 2) := by decide +kernel
theorem dX4_init_30 : decode cX4_init 30 = .ok (.putfield 19, 3) := by decide +kernel
theorem dX4_init_33 : decode cX4_init 33 = .ok (.aload_n 0, 1) := by decide +kernel
theorem dX4_init_34 : decode cX4_init 34 = .ok (.iconst 5, 1) := by decide +kernel
theorem dX4_init_35 : decode cX4_init 35 = .ok (.newarray .int, 2) := by decide +kernel
theorem dX4_init_37 : decode cX4_init 37 = .ok (.putfield 22, 3) := by decide +kernel
theorem dX4_init_40 : decode cX4_init 40 = .ok (.aload_n 0, 1) := by decide +kernel
theorem dX4_init_41 : decode cX4_init 41 = .ok (.sipush 600, 3) := by decide +kernel
theorem dX4_init_44 : decode cX4_init 44 = .ok (.newarray .int, 2) := by decide +kernel
theorem dX4_init_46 : decode cX4_init 46 = .ok (.putfield 25, 3) := by decide +kernel
theorem dX4_init_49 : decode cX4_init 49 = .ok (.aload_n 0, 1) := by decide +kernel
theorem dX4_init_50 : decode cX4_init 50 = .ok (.bipush 20, 2) := by decide +kernel
theorem dX4_init_52 : decode cX4_init 52 = .ok (.newarray .int, 2) := by decide +kernel
theorem dX4_init_54 : decode cX4_init 54 = .ok (.putfield 28, 3) := by decide +kernel
theorem dX4_init_57 : decode cX4_init 57 = .ok (.aload_n 0, 1) := by decide +kernel
theorem dX4_init_58 : decode cX4_init 58 = .ok (.bipush 20, 2) := by decide +kernel
theorem dX4_init_60 : decode cX4_init 60 = .ok (.newarray .int, 2) := by decide +kernel
theorem dX4_init_62 : decode cX4_init 62 = .ok (.putfield 31, 3) := by decide +kernel
theorem dX4_init_65 : decode cX4_init 65 = .ok (.aload_n 0, 1) := by decide +kernel
theorem dX4_init_66 : decode cX4_init 66 = .ok (.bipush 20, 2) := by decide +kernel
theorem dX4_init_68 : decode cX4_init 68 = .ok (.newarray .int, 2) := by decide +kernel
theorem dX4_init_70 : decode cX4_init 70 = .ok (.putfield 34, 3) := by decide +kernel
theorem dX4_init_73 : decode cX4_init 73 = .ok (.aload_n 0, 1) := by decide +kernel
theorem dX4_init_74 : decode cX4_init 74 = .ok (.bipush 20, 2) := by decide +kernel
theorem dX4_init_76 : decode cX4_init 76 = .ok (.newarray .int, 2) := by decide +kernel
theorem dX4_init_78 : decode cX4_init 78 = .ok (.putfield 37, 3) := by decide +kernel
theorem dX4_init_81 : decode cX4_init 81 = .ok (.aload_n 0, 1) := by decide +kernel
theorem dX4_init_82 : decode cX4_init 82 = .ok (.bipush 20, 2) := by decide +kernel
theorem dX4_init_84 : decode cX4_init 84 = .ok (.newarray .boolean, 2) := by decide +kernel
theorem dX4_init_86 : decode cX4_init 86 = .ok (.putfield 40, 3) := by decide +kernel
theorem dX4_init_89 : decode cX4_init 89 = .ok (.aload_n 0, 1) := by decide +kernel
theorem dX4_init_90 : decode cX4_init 90 = .ok (.bipush 20, 2) := by decide +kernel
theorem dX4_init_92 : decode cX4_init 92 = .ok (.newarray .int, 2) := by decide +kernel
theorem dX4_init_94 : decode cX4_init 94 = .ok (.putfield 44, 3) := by decide +kernel
theorem dX4_init_97 : decode cX4_init 97 = .ok (.aload_n 0, 1) := by decide +kernel
theorem dX4_init_98 : decode cX4_init 98 = .ok (.bipush 20, 2) := by decide +kernel
theorem dX4_init_100 : decode cX4_init 100 = .ok (.newarray .int, 2) := by decide +kernel
theorem dX4_init_102 : decode cX4_init 102 = .ok (.putfield 47, 3) := by decide +kernel
theorem dX4_init_105 : decode cX4_init 105 = .ok (.aload_n 0, 1) := by decide +kernel
theorem dX4_init_106 : decode cX4_init 106 = .ok (.bipush 20, 2) := by decide +kernel
theorem dX4_init_108 : decode cX4_init 108 = .ok (.newarray .int, 2) := by decide +kernel
theorem dX4_init_110 : decode cX4_init 110 = .ok (.putfield 50, 3) := by decide +kernel
theorem dX4_init_113 : decode cX4_init 113 = .ok (.aload_n 0, 1) := by decide +kernel
theorem dX4_init_114 : decode cX4_init 114 = .ok (.bipush 20, 2) := by decide +kernel
theorem dX4_init_116 : decode cX4_init 116 = .ok (.newarray .boolean, 2) := by decide +kernel
theorem dX4_init_118 : decode cX4_init 118 = .ok (.putfield 53, 3) := by decide +kernel
theorem dX4_init_121 : decode cX4_init 121 = .ok (.aload_n 0, 1) := by decide +kernel
theorem dX4_init_122 : decode cX4_init 122 = .ok (.bipush 80, 2) := by decide +kernel
theorem dX4_init_124 : decode cX4_init 124 = .ok (.newarray .int, 2) := by decide +kernel
theorem dX4_init_126 : decode cX4_init 126 = .ok (.putfield 56, 3) := by decide +kernel
theorem dX4_init_129 : decode cX4_init 129 = .ok (.aload_n 0, 1) := by decide +kernel
theorem dX4_init_130 : decode cX4_init 130 = .ok (.bipush 20, 2) := by decide +kernel
theorem dX4_init_132 : decode cX4_init 132 = .ok (.newarray .int, 2) := by decide +kernel
theorem dX4_init_134 : decode cX4_init 134 = .ok (.putfield 59, 3) := by decide +kernel
theorem dX4_init_137 : decode cX4_init 137 = .ok (.aload_n 0, 1) := by decide +kernel
theorem dX4_init_138 : decode cX4_init 138 = .ok (.sipush 480, 3) := by decide +kernel
theorem dX4_init_141 : decode cX4_init 141 = .ok (.newarray .int, 2) := by decide +kernel
theorem dX4_init_143 : decode cX4_init 143 = .ok (.putfield 62, 3) := by decide +kernel
theorem dX4_init_146 : decode cX4_init 146 = .ok (.aload_n 0, 1) := by decide +kernel
theorem dX4_init_147 : decode cX4_init 147 = .ok (.sipush 480, 3) := by decide +kernel
theorem dX4_init_150 : decode cX4_init 150 = .ok (.newarray .int, 2) := by decide +kernel
theorem dX4_init_152 : decode cX4_init 152 = .ok (.putfield 65, 3) := by decide +kernel
theorem dX4_init_155 : decode cX4_init 155 = .ok (.aload_n 0, 1) := by decide +kernel
theorem dX4_init_156 : decode cX4_init 156 = .ok (.sipush 480, 3) := by decide +kernel
theorem dX4_init_159 : decode cX4_init 159 = .ok (.newarray .boolean, 2) := by decide +kernel
theorem dX4_init_161 : decode cX4_init 161 = .ok (.putfield 68, 3) := by decide +kernel
theorem dX4_init_164 : decode cX4_init 164 = .ok (.aload_n 0, 1) := by decide +kernel
theorem dX4_init_165 : decode cX4_init 165 = .ok (.sipush 4800, 3) := by decide +kernel
theorem dX4_init_168 : decode cX4_init 168 = .ok (.newarray .int, 2) := by decide +kernel
theorem dX4_init_170 : decode cX4_init 170 = .ok (.putfield 71, 3) := by decide +kernel
theorem dX4_init_173 : decode cX4_init 173 = .ok (.aload_n 0, 1) := by decide +kernel
theorem dX4_init_174 : decode cX4_init 174 = .ok (.sipush 4800, 3) := by decide +kernel
theorem dX4_init_177 : decode cX4_init 177 = .ok (.newarray .int, 2) := by decide +kernel
theorem dX4_init_179 : decode cX4_init 179 = .ok (.putfield 74, 3) := by decide +kernel
theorem dX4_init_182 : decode cX4_init 182 = .ok (.aload_n 0, 1) := by decide +kernel
theorem dX4_init_183 : decode cX4_init 183 = .ok (.sipush 4800, 3) := by decide +kernel
theorem dX4_init_186 : decode cX4_init 186 = .ok (.newarray .int, 2) := by decide +kernel
theorem dX4_init_188 : decode cX4_init 188 = .ok (.putfield 77, 3) := by decide +kernel
theorem dX4_init_191 : decode cX4_init 191 = .ok (.return_, 1) := by decide +kernel
theorem dX4_thrown_0 : decode cX4_thrown 0 = .ok (.aload_n 0, 1) := by decide +kernel
theorem dX4_thrown_1 : decode cX4_thrown 1 = .ok (.getfield 80, 3) := by decide +kernel
theorem dX4_thrown_4 : decode cX4_thrown 4 = .ok (.ireturn, 1) := by decide +kernel
theorem dX4_in_0 : decode cX4_in 0 = .ok (.iload_n 0, 1) := by decide +kernel
theorem dX4_in_1 : decode cX4_in 1 = .ok (.iload_n 1, 1) := by decide +kernel
theorem dX4_in_2 : decode cX4_in 2 = .ok (.if_icmp .lt 12, 3) := by decide +kernel
theorem dX4_in_5 : decode cX4_in 5 = .ok (.iload_n 0, 1) := by decide +kernel
theorem dX4_in_6 : decode cX4_in 6 = .ok (.iload_n 2, 1) := by decide +kernel
theorem dX4_in_7 : decode cX4_in 7 = .ok (.if_icmp .gt 7, 3) := by decide +kernel
theorem dX4_in_10 : decode cX4_in 10 = .ok (.iconst 1, 1) := by decide +kernel
theorem dX4_in_11 : decode cX4_in 11 = .ok (.goto 4, 3) := by decide +kernel
theorem dX4_in_14 : decode cX4_in 14 = .ok (.iconst 0, 1) := by decide +kernel
theorem dX4_in_15 : decode cX4_in 15 = .ok (.ireturn, 1) := by decide +kernel
theorem dX4_goes_0 : decode cX4_goes 0 = .ok (.aload_n 0, 1) := by decide +kernel
theorem dX4_goes_1 : decode cX4_goes 1 = .ok (.iload_n 1, 1) := by decide +kernel
theorem dX4_goes_2 : decode cX4_goes 2 = .ok (.ifCond .ne 7, 3) := by decide +kernel
theorem dX4_goes_5 : decode cX4_goes 5 = .ok (.iconst 1, 1) := by decide +kernel
theorem dX4_goes_6 : decode cX4_goes 6 = .ok (.goto 20, 3) := by decide +kernel
theorem dX4_goes_9 : decode cX4_goes 9 = .ok (.iload_n 2, 1) := by decide +kernel
theorem dX4_goes_10 : decode cX4_goes 10 = .ok (.ifCond .ne 7, 3) := by decide +kernel
theorem dX4_goes_13 : decode cX4_goes 13 = .ok (.iconst 2, 1) := by decide +kernel
theorem dX4_goes_14 : decode cX4_goes 14 = .ok (.goto 12, 3) := by decide +kernel
theorem dX4_goes_17 : decode cX4_goes 17 = .ok (.iload_n 3, 1) := by decide +kernel
theorem dX4_goes_18 : decode cX4_goes 18 = .ok (.ifCond .ne 7, 3) := by decide +kernel
theorem dX4_goes_21 : decode cX4_goes 21 = .ok (.iconst 3, 1) := by decide +kernel
theorem dX4_goes_22 : decode cX4_goes 22 = .ok (.goto 4, 3) := by decide +kernel
theorem dX4_goes_25 : decode cX4_goes 25 = .ok (.iconst 0, 1) := by decide +kernel
theorem dX4_goes_26 : decode cX4_goes 26 = .ok (.putfield 80, 3) := by decide +kernel
theorem dX4_goes_29 : decode cX4_goes 29 = .ok (.aload_n 0, 1) := by decide +kernel
theorem dX4_goes_30 : decode cX4_goes 30 = .ok (.getfield 80, 3) := by decide +kernel
theorem dX4_goes_33 : decode cX4_goes 33 = .ok (.ifCond .ne 7, 3) := by decide +kernel
theorem dX4_goes_36 : decode cX4_goes 36 = .ok (.iconst 1, 1) := by decide +kernel
theorem dX4_goes_37 : decode cX4_goes 37 = .ok (.goto 4, 3) := by decide +kernel
theorem dX4_goes_40 : decode cX4_goes 40 = .ok (.iconst 0, 1) := by decide +kernel
theorem dX4_goes_41 : decode cX4_goes 41 = .ok (.ireturn, 1) := by decide +kernel
theorem dX4_isCartoon_0 : decode cX4_isCartoon 0 = .ok (.iload_n 1, 1) := by decide +kernel
theorem dX4_isCartoon_1 : decode cX4_isCartoon 1 = .ok (.iconst 0, 1) := by decide +kernel
theorem dX4_isCartoon_2 : decode cX4_isCartoon 2 = .ok (.aload_n 0, 1) := by decide +kernel
theorem dX4_isCartoon_3 : decode cX4_isCartoon 3 = .ok (.getfield 84, 3) := by decide +kernel
theorem dX4_isCartoon_6 : decode cX4_isCartoon 6 = .ok (.iconst 1, 1) := by decide +kernel
theorem dX4_isCartoon_7 : decode cX4_isCartoon 7 = .ok (.isub, 1) := by decide +kernel
theorem dX4_isCartoon_8 : decode cX4_isCartoon 8 = .ok (.invokestatic 87, 3) := by decide +kernel
theorem dX4_isCartoon_11 : decode cX4_isCartoon 11 = .ok (.ireturn, 1) := by decide +kernel
theorem dX4_isColour_0 : decode cX4_isColour 0 = .ok (.iload_n 0, 1) := by decide +kernel
theorem dX4_isColour_1 : decode cX4_isColour 1 = .ok (.iconst 0, 1) := by decide +kernel
theorem dX4_isColour_2 : decode cX4_isColour 2 = .ok (.iconst 5, 1) := by decide +kernel
theorem dX4_isColour_3 : decode cX4_isColour 3 = .ok (.invokestatic 87, 3) := by decide +kernel
theorem dX4_isColour_6 : decode cX4_isColour 6 = .ok (.ireturn, 1) := by decide +kernel
theorem dX4_isPiece_0 : decode cX4_isPiece 0 = .ok (.iload_n 1, 1) := by decide +kernel
theorem dX4_isPiece_1 : decode cX4_isPiece 1 = .ok (.iconst 0, 1) := by decide +kernel
theorem dX4_isPiece_2 : decode cX4_isPiece 2 = .ok (.aload_n 0, 1) := by decide +kernel
theorem dX4_isPiece_3 : decode cX4_isPiece 3 = .ok (.getfield 91, 3) := by decide +kernel
theorem dX4_isPiece_6 : decode cX4_isPiece 6 = .ok (.iconst 1, 1) := by decide +kernel
theorem dX4_isPiece_7 : decode cX4_isPiece 7 = .ok (.isub, 1) := by decide +kernel
theorem dX4_isPiece_8 : decode cX4_isPiece 8 = .ok (.invokestatic 87, 3) := by decide +kernel
theorem dX4_isPiece_11 : decode cX4_isPiece 11 = .ok (.ifCond .eq 16, 3) := by decide +kernel
theorem dX4_isPiece_14 : decode cX4_isPiece 14 = .ok (.aload_n 0, 1) := by decide +kernel
theorem dX4_isPiece_15 : decode cX4_isPiece 15 = .ok (.getfield 53, 3) := by decide +kernel
theorem dX4_isPiece_18 : decode cX4_isPiece 18 = .ok (.iload_n 1, 1) := by decide +kernel
theorem dX4_isPiece_19 : decode cX4_isPiece 19 = .ok (.baload, 1) := by decide +kernel
theorem dX4_isPiece_20 : decode cX4_isPiece 20 = .ok (.ifCond .ne 7, 3) := by decide +kernel
theorem dX4_isPiece_23 : decode cX4_isPiece 23 = .ok (.iconst 1, 1) := by decide +kernel
theorem dX4_isPiece_24 : decode cX4_isPiece 24 = .ok (.goto 4, 3) := by decide +kernel
theorem dX4_isPiece_27 : decode cX4_isPiece 27 = .ok (.iconst 0, 1) := by decide +kernel
theorem dX4_isPiece_28 : decode cX4_isPiece 28 = .ok (.ireturn, 1) := by decide +kernel
theorem dX4_numberOf_0 : decode cX4_numberOf 0 = .ok (.iload_n 0, 1) := by decide +kernel
theorem dX4_numberOf_1 : decode cX4_numberOf 1 = .ok (.tableswitch 130 66 90 #[117, 130, 130, 130, 130, 121, 130, 130, 130, 130, 130, 130, 130, 130, 130, 130, 115, 130, 130, 130, 130, 123, 127, 119, 125], 115) := by decide +kernel
theorem dX4_numberOf_116 : decode cX4_numberOf 116 = .ok (.iconst 0, 1) := by decide +kernel
theorem dX4_numberOf_117 : decode cX4_numberOf 117 = .ok (.ireturn, 1) := by decide +kernel
theorem dX4_numberOf_118 : decode cX4_numberOf 118 = .ok (.iconst 1, 1) := by decide +kernel
theorem dX4_numberOf_119 : decode cX4_numberOf 119 = .ok (.ireturn, 1) := by decide +kernel
theorem dX4_numberOf_120 : decode cX4_numberOf 120 = .ok (.iconst 2, 1) := by decide +kernel
theorem dX4_numberOf_121 : decode cX4_numberOf 121 = .ok (.ireturn, 1) := by decide +kernel
theorem dX4_numberOf_122 : decode cX4_numberOf 122 = .ok (.iconst 3, 1) := by decide +kernel
theorem dX4_numberOf_123 : decode cX4_numberOf 123 = .ok (.ireturn, 1) := by decide +kernel
theorem dX4_numberOf_124 : decode cX4_numberOf 124 = .ok (.iconst 4, 1) := by decide +kernel
theorem dX4_numberOf_125 : decode cX4_numberOf 125 = .ok (.ireturn, 1) := by decide +kernel
theorem dX4_numberOf_126 : decode cX4_numberOf 126 = .ok (.iconst 5, 1) := by decide +kernel
theorem dX4_numberOf_127 : decode cX4_numberOf 127 = .ok (.ireturn, 1) := by decide +kernel
theorem dX4_numberOf_128 : decode cX4_numberOf 128 = .ok (.bipush 6, 2) := by decide +kernel
theorem dX4_numberOf_130 : decode cX4_numberOf 130 = .ok (.ireturn, 1) := by decide +kernel
theorem dX4_numberOf_131 : decode cX4_numberOf 131 = .ok (.iconst (-1), 1) := by decide +kernel
theorem dX4_numberOf_132 : decode cX4_numberOf 132 = .ok (.ireturn, 1) := by decide +kernel
theorem dX4_type_0 : decode cX4_type 0 = .ok (.aload_n 0, 1) := by decide +kernel
theorem dX4_type_1 : decode cX4_type 1 = .ok (.iload_n 1, 1) := by decide +kernel
theorem dX4_type_2 : decode cX4_type 2 = .ok (.invokestatic 94, 3) := by decide +kernel
theorem dX4_type_5 : decode cX4_type 5 = .ok (.iconst (-1), 1) := by decide +kernel
theorem dX4_type_6 : decode cX4_type 6 = .ok (.if_icmp .eq 7, 3) := by decide +kernel
theorem dX4_type_9 : decode cX4_type 9 = .ok (.iconst 1, 1) := by decide +kernel
theorem dX4_type_10 : decode cX4_type 10 = .ok (.goto 4, 3) := by decide +kernel
theorem dX4_type_13 : decode cX4_type 13 = .ok (.iconst 0, 1) := by decide +kernel
theorem dX4_type_14 : decode cX4_type 14 = .ok (.aload_n 0, 1) := by decide +kernel
theorem dX4_type_15 : decode cX4_type 15 = .ok (.getfield 98, 3) := by decide +kernel
theorem dX4_type_18 : decode cX4_type 18 = .ok (.bipush 12, 2) := by decide +kernel
theorem dX4_type_20 : decode cX4_type 20 = .ok (.if_icmp .ge 7, 3) := by decide +kernel
theorem dX4_type_23 : decode cX4_type 23 = .ok (.iconst 1, 1) := by decide +kernel
theorem dX4_type_24 : decode cX4_type 24 = .ok (.goto 4, 3) := by decide +kernel
theorem dX4_type_27 : decode cX4_type 27 = .ok (.iconst 0, 1) := by decide +kernel
theorem dX4_type_28 : decode cX4_type 28 = .ok (.iconst 1, 1) := by decide +kernel
theorem dX4_type_29 : decode cX4_type 29 = .ok (.invokevirtual 101, 3) := by decide +kernel
theorem dX4_type_32 : decode cX4_type 32 = .ok (.ifCond .ne 5, 3) := by decide +kernel
theorem dX4_type_35 : decode cX4_type 35 = .ok (.iconst 0, 1) := by decide +kernel
theorem dX4_type_36 : decode cX4_type 36 = .ok (.ireturn, 1) := by decide +kernel
theorem dX4_type_37 : decode cX4_type 37 = .ok (.aload_n 0, 1) := by decide +kernel
theorem dX4_type_38 : decode cX4_type 38 = .ok (.getfield 7, 3) := by decide +kernel
theorem dX4_type_41 : decode cX4_type 41 = .ok (.aload_n 0, 1) := by decide +kernel
theorem dX4_type_42 : decode cX4_type 42 = .ok (.getfield 98, 3) := by decide +kernel
theorem dX4_type_45 : decode cX4_type 45 = .ok (.iload_n 1, 1) := by decide +kernel
theorem dX4_type_46 : decode cX4_type 46 = .ok (.invokestatic 94, 3) := by decide +kernel
theorem dX4_type_49 : decode cX4_type 49 = .ok (.iastore, 1) := by decide +kernel
theorem dX4_type_50 : decode cX4_type 50 = .ok (.aload_n 0, 1) := by decide +kernel
theorem dX4_type_51 : decode cX4_type 51 = .ok (.dup, 1) := by decide +kernel
theorem dX4_type_52 : decode cX4_type 52 = .ok (.getfield 98, 3) := by decide +kernel
theorem dX4_type_55 : decode cX4_type 55 = .ok (.iconst 1, 1) := by decide +kernel
theorem dX4_type_56 : decode cX4_type 56 = .ok (.iadd, 1) := by decide +kernel
theorem dX4_type_57 : decode cX4_type 57 = .ok (.putfield 98, 3) := by decide +kernel
theorem dX4_type_60 : decode cX4_type 60 = .ok (.aload_n 0, 1) := by decide +kernel
theorem dX4_type_61 : decode cX4_type 61 = .ok (.getfield 98, 3) := by decide +kernel
theorem dX4_type_64 : decode cX4_type 64 = .ok (.ireturn, 1) := by decide +kernel
theorem dX4_empty_0 : decode cX4_empty 0 = .ok (.aload_n 0, 1) := by decide +kernel
theorem dX4_empty_1 : decode cX4_empty 1 = .ok (.iconst 0, 1) := by decide +kernel
theorem dX4_empty_2 : decode cX4_empty 2 = .ok (.putfield 80, 3) := by decide +kernel
theorem dX4_empty_5 : decode cX4_empty 5 = .ok (.aload_n 0, 1) := by decide +kernel
theorem dX4_empty_6 : decode cX4_empty 6 = .ok (.getfield 98, 3) := by decide +kernel
theorem dX4_empty_9 : decode cX4_empty 9 = .ok (.istore_n 1, 1) := by decide +kernel
theorem dX4_empty_10 : decode cX4_empty 10 = .ok (.aload_n 0, 1) := by decide +kernel
theorem dX4_empty_11 : decode cX4_empty 11 = .ok (.iconst 0, 1) := by decide +kernel
theorem dX4_empty_12 : decode cX4_empty 12 = .ok (.putfield 98, 3) := by decide +kernel
theorem dX4_empty_15 : decode cX4_empty 15 = .ok (.iload_n 1, 1) := by decide +kernel
theorem dX4_empty_16 : decode cX4_empty 16 = .ok (.ireturn, 1) := by decide +kernel
theorem dX4_cartoon_0 : decode cX4_cartoon 0 = .ok (.aload_n 0, 1) := by decide +kernel
theorem dX4_cartoon_1 : decode cX4_cartoon 1 = .ok (.iload_n 1, 1) := by decide +kernel
theorem dX4_cartoon_2 : decode cX4_cartoon 2 = .ok (.iconst 2, 1) := by decide +kernel
theorem dX4_cartoon_3 : decode cX4_cartoon 3 = .ok (.bipush 12, 2) := by decide +kernel
theorem dX4_cartoon_5 : decode cX4_cartoon 5 = .ok (.invokestatic 87, 3) := by decide +kernel
theorem dX4_cartoon_8 : decode cX4_cartoon 8 = .ok (.aload_n 0, 1) := by decide +kernel
theorem dX4_cartoon_9 : decode cX4_cartoon 9 = .ok (.getfield 84, 3) := by decide +kernel
theorem dX4_cartoon_12 : decode cX4_cartoon 12 = .ok (.iconst 5, 1) := by decide +kernel
theorem dX4_cartoon_13 : decode cX4_cartoon 13 = .ok (.if_icmp .ge 7, 3) := by decide +kernel
theorem dX4_cartoon_16 : decode cX4_cartoon 16 = .ok (.iconst 1, 1) := by decide +kernel
theorem dX4_cartoon_17 : decode cX4_cartoon 17 = .ok (.goto 4, 3) := by decide +kernel
theorem dX4_cartoon_20 : decode cX4_cartoon 20 = .ok (.iconst 0, 1) := by decide +kernel
theorem dX4_cartoon_21 : decode cX4_cartoon 21 = .ok (.iconst 1, 1) := by decide +kernel
theorem dX4_cartoon_22 : decode cX4_cartoon 22 = .ok (.invokevirtual 101, 3) := by decide +kernel
theorem dX4_cartoon_25 : decode cX4_cartoon 25 = .ok (.ifCond .ne 5, 3) := by decide +kernel
theorem dX4_cartoon_28 : decode cX4_cartoon 28 = .ok (.iconst 0, 1) := by decide +kernel
theorem dX4_cartoon_29 : decode cX4_cartoon 29 = .ok (.ireturn, 1) := by decide +kernel
theorem dX4_cartoon_30 : decode cX4_cartoon 30 = .ok (.aload_n 0, 1) := by decide +kernel
theorem dX4_cartoon_31 : decode cX4_cartoon 31 = .ok (.getfield 13, 3) := by decide +kernel
theorem dX4_cartoon_34 : decode cX4_cartoon 34 = .ok (.aload_n 0, 1) := by decide +kernel
theorem dX4_cartoon_35 : decode cX4_cartoon 35 = .ok (.getfield 84, 3) := by decide +kernel
theorem dX4_cartoon_38 : decode cX4_cartoon 38 = .ok (.iload_n 1, 1) := by decide +kernel
theorem dX4_cartoon_39 : decode cX4_cartoon 39 = .ok (.iastore, 1) := by decide +kernel
theorem dX4_cartoon_40 : decode cX4_cartoon 40 = .ok (.aload_n 0, 1) := by decide +kernel
theorem dX4_cartoon_41 : decode cX4_cartoon 41 = .ok (.getfield 19, 3) := by decide +kernel
theorem dX4_cartoon_44 : decode cX4_cartoon 44 = .ok (.aload_n 0, 1) := by decide +kernel
theorem dX4_cartoon_45 : decode cX4_cartoon 45 = .ok (.getfield 84, 3) := by decide +kernel
theorem dX4_cartoon_48 : decode cX4_cartoon 48 = .ok (.iconst 0, 1) := by decide +kernel
theorem dX4_cartoon_49 : decode cX4_cartoon 49 = .ok (.iastore, 1) := by decide +kernel
theorem dX4_cartoon_50 : decode cX4_cartoon 50 = .ok (.aload_n 0, 1) := by decide +kernel
theorem dX4_cartoon_51 : decode cX4_cartoon 51 = .ok (.getfield 22, 3) := by decide +kernel
theorem dX4_cartoon_54 : decode cX4_cartoon 54 = .ok (.aload_n 0, 1) := by decide +kernel
theorem dX4_cartoon_55 : decode cX4_cartoon 55 = .ok (.getfield 84, 3) := by decide +kernel
theorem dX4_cartoon_58 : decode cX4_cartoon 58 = .ok (.iconst 1, 1) := by decide +kernel
theorem dX4_cartoon_59 : decode cX4_cartoon 59 = .ok (.iastore, 1) := by decide +kernel
theorem dX4_cartoon_60 : decode cX4_cartoon 60 = .ok (.aload_n 0, 1) := by decide +kernel
theorem dX4_cartoon_61 : decode cX4_cartoon 61 = .ok (.dup, 1) := by decide +kernel
theorem dX4_cartoon_62 : decode cX4_cartoon 62 = .ok (.getfield 84, 3) := by decide +kernel
theorem dX4_cartoon_65 : decode cX4_cartoon 65 = .ok (.iconst 1, 1) := by decide +kernel
theorem dX4_cartoon_66 : decode cX4_cartoon 66 = .ok (.iadd, 1) := by decide +kernel
theorem dX4_cartoon_67 : decode cX4_cartoon 67 = .ok (.putfield 84, 3) := by decide +kernel
theorem dX4_cartoon_70 : decode cX4_cartoon 70 = .ok (.aload_n 0, 1) := by decide +kernel
theorem dX4_cartoon_71 : decode cX4_cartoon 71 = .ok (.getfield 84, 3) := by decide +kernel
theorem dX4_cartoon_74 : decode cX4_cartoon 74 = .ok (.iconst 1, 1) := by decide +kernel
theorem dX4_cartoon_75 : decode cX4_cartoon 75 = .ok (.isub, 1) := by decide +kernel
theorem dX4_cartoon_76 : decode cX4_cartoon 76 = .ok (.ireturn, 1) := by decide +kernel
theorem dX4_row_0 : decode cX4_row 0 = .ok (.aload_n 0, 1) := by decide +kernel
theorem dX4_row_1 : decode cX4_row 1 = .ok (.iload_n 1, 1) := by decide +kernel
theorem dX4_row_2 : decode cX4_row 2 = .ok (.invokevirtual 105, 3) := by decide +kernel
theorem dX4_row_5 : decode cX4_row 5 = .ok (.istore_n 2, 1) := by decide +kernel
theorem dX4_row_6 : decode cX4_row 6 = .ok (.aload_n 0, 1) := by decide +kernel
theorem dX4_row_7 : decode cX4_row 7 = .ok (.iload_n 2, 1) := by decide +kernel
theorem dX4_row_8 : decode cX4_row 8 = .ok (.iload_n 2, 1) := by decide +kernel
theorem dX4_row_9 : decode cX4_row 9 = .ok (.ifCond .eq 47, 3) := by decide +kernel
theorem dX4_row_12 : decode cX4_row 12 = .ok (.aload_n 0, 1) := by decide +kernel
theorem dX4_row_13 : decode cX4_row 13 = .ok (.getfield 98, 3) := by decide +kernel
theorem dX4_row_16 : decode cX4_row 16 = .ok (.aload_n 0, 1) := by decide +kernel
theorem dX4_row_17 : decode cX4_row 17 = .ok (.getfield 13, 3) := by decide +kernel
theorem dX4_row_20 : decode cX4_row 20 = .ok (.iload_n 2, 1) := by decide +kernel
theorem dX4_row_21 : decode cX4_row 21 = .ok (.ifCond .eq 7, 3) := by decide +kernel
theorem dX4_row_24 : decode cX4_row 24 = .ok (.iload_n 1, 1) := by decide +kernel
theorem dX4_row_25 : decode cX4_row 25 = .ok (.goto 4, 3) := by decide +kernel
theorem dX4_row_28 : decode cX4_row 28 = .ok (.iconst 0, 1) := by decide +kernel
theorem dX4_row_29 : decode cX4_row 29 = .ok (.iaload, 1) := by decide +kernel
theorem dX4_row_30 : decode cX4_row 30 = .ok (.if_icmp .ne 26, 3) := by decide +kernel
theorem dX4_row_33 : decode cX4_row 33 = .ok (.aload_n 0, 1) := by decide +kernel
theorem dX4_row_34 : decode cX4_row 34 = .ok (.getfield 16, 3) := by decide +kernel
theorem dX4_row_37 : decode cX4_row 37 = .ok (.iload_n 2, 1) := by decide +kernel
theorem dX4_row_38 : decode cX4_row 38 = .ok (.ifCond .eq 7, 3) := by decide +kernel
theorem dX4_row_41 : decode cX4_row 41 = .ok (.iload_n 1, 1) := by decide +kernel
theorem dX4_row_42 : decode cX4_row 42 = .ok (.goto 4, 3) := by decide +kernel
theorem dX4_row_45 : decode cX4_row 45 = .ok (.iconst 0, 1) := by decide +kernel
theorem dX4_row_46 : decode cX4_row 46 = .ok (.iaload, 1) := by decide +kernel
theorem dX4_row_47 : decode cX4_row 47 = .ok (.bipush 10, 2) := by decide +kernel
theorem dX4_row_49 : decode cX4_row 49 = .ok (.if_icmp .ge 7, 3) := by decide +kernel
theorem dX4_row_52 : decode cX4_row 52 = .ok (.iconst 1, 1) := by decide +kernel
theorem dX4_row_53 : decode cX4_row 53 = .ok (.goto 4, 3) := by decide +kernel
theorem dX4_row_56 : decode cX4_row 56 = .ok (.iconst 0, 1) := by decide +kernel
theorem dX4_row_57 : decode cX4_row 57 = .ok (.iconst 1, 1) := by decide +kernel
theorem dX4_row_58 : decode cX4_row 58 = .ok (.invokevirtual 101, 3) := by decide +kernel
theorem dX4_row_61 : decode cX4_row 61 = .ok (.ifCond .ne 5, 3) := by decide +kernel
theorem dX4_row_64 : decode cX4_row 64 = .ok (.iconst 0, 1) := by decide +kernel
theorem dX4_row_65 : decode cX4_row 65 = .ok (.ireturn, 1) := by decide +kernel
theorem dX4_row_66 : decode cX4_row 66 = .ok (.iconst 0, 1) := by decide +kernel
theorem dX4_row_67 : decode cX4_row 67 = .ok (.istore_n 3, 1) := by decide +kernel
theorem dX4_row_68 : decode cX4_row 68 = .ok (.iload_n 3, 1) := by decide +kernel
theorem dX4_row_69 : decode cX4_row 69 = .ok (.aload_n 0, 1) := by decide +kernel
theorem dX4_row_70 : decode cX4_row 70 = .ok (.getfield 98, 3) := by decide +kernel
theorem dX4_row_73 : decode cX4_row 73 = .ok (.if_icmp .ge 36, 3) := by decide +kernel
theorem dX4_row_76 : decode cX4_row 76 = .ok (.aload_n 0, 1) := by decide +kernel
theorem dX4_row_77 : decode cX4_row 77 = .ok (.getfield 25, 3) := by decide +kernel
theorem dX4_row_80 : decode cX4_row 80 = .ok (.bipush 120, 2) := by decide +kernel
theorem dX4_row_82 : decode cX4_row 82 = .ok (.iload_n 1, 1) := by decide +kernel
theorem dX4_row_83 : decode cX4_row 83 = .ok (.imul, 1) := by decide +kernel
theorem dX4_row_84 : decode cX4_row 84 = .ok (.bipush 12, 2) := by decide +kernel
theorem dX4_row_86 : decode cX4_row 86 = .ok (.aload_n 0, 1) := by decide +kernel
theorem dX4_row_87 : decode cX4_row 87 = .ok (.getfield 16, 3) := by decide +kernel
theorem dX4_row_90 : decode cX4_row 90 = .ok (.iload_n 1, 1) := by decide +kernel
theorem dX4_row_91 : decode cX4_row 91 = .ok (.iaload, 1) := by decide +kernel
theorem dX4_row_92 : decode cX4_row 92 = .ok (.imul, 1) := by decide +kernel
theorem dX4_row_93 : decode cX4_row 93 = .ok (.iadd, 1) := by decide +kernel
theorem dX4_row_94 : decode cX4_row 94 = .ok (.iload_n 3, 1) := by decide +kernel
theorem dX4_row_95 : decode cX4_row 95 = .ok (.iadd, 1) := by decide +kernel
theorem dX4_row_96 : decode cX4_row 96 = .ok (.aload_n 0, 1) := by decide +kernel
theorem dX4_row_97 : decode cX4_row 97 = .ok (.getfield 7, 3) := by decide +kernel
theorem dX4_row_100 : decode cX4_row 100 = .ok (.iload_n 3, 1) := by decide +kernel
theorem dX4_row_101 : decode cX4_row 101 = .ok (.iaload, 1) := by decide +kernel
theorem dX4_row_102 : decode cX4_row 102 = .ok (.iastore, 1) := by decide +kernel
theorem dX4_row_103 : decode cX4_row 103 = .ok (.iinc 3 1, 3) := by decide +kernel
theorem dX4_row_106 : decode cX4_row 106 = .ok (.goto (-38), 3) := by decide +kernel
theorem dX4_row_109 : decode cX4_row 109 = .ok (.aload_n 0, 1) := by decide +kernel
theorem dX4_row_110 : decode cX4_row 110 = .ok (.iconst 0, 1) := by decide +kernel
theorem dX4_row_111 : decode cX4_row 111 = .ok (.putfield 98, 3) := by decide +kernel
theorem dX4_row_114 : decode cX4_row 114 = .ok (.aload_n 0, 1) := by decide +kernel
theorem dX4_row_115 : decode cX4_row 115 = .ok (.getfield 16, 3) := by decide +kernel
theorem dX4_row_118 : decode cX4_row 118 = .ok (.iload_n 1, 1) := by decide +kernel
theorem dX4_row_119 : decode cX4_row 119 = .ok (.dup2, 1) := by decide +kernel
theorem dX4_row_120 : decode cX4_row 120 = .ok (.iaload, 1) := by decide +kernel
theorem dX4_row_121 : decode cX4_row 121 = .ok (.iconst 1, 1) := by decide +kernel
theorem dX4_row_122 : decode cX4_row 122 = .ok (.iadd, 1) := by decide +kernel
theorem dX4_row_123 : decode cX4_row 123 = .ok (.iastore, 1) := by decide +kernel
theorem dX4_row_124 : decode cX4_row 124 = .ok (.aload_n 0, 1) := by decide +kernel
theorem dX4_row_125 : decode cX4_row 125 = .ok (.getfield 16, 3) := by decide +kernel
theorem dX4_row_128 : decode cX4_row 128 = .ok (.iload_n 1, 1) := by decide +kernel
theorem dX4_row_129 : decode cX4_row 129 = .ok (.iaload, 1) := by decide +kernel
theorem dX4_row_130 : decode cX4_row 130 = .ok (.ireturn, 1) := by decide +kernel
theorem dX4_hatch_0 : decode cX4_hatch 0 = .ok (.aload_n 0, 1) := by decide +kernel
theorem dX4_hatch_1 : decode cX4_hatch 1 = .ok (.aload_n 0, 1) := by decide +kernel
theorem dX4_hatch_2 : decode cX4_hatch 2 = .ok (.iload_n 1, 1) := by decide +kernel
theorem dX4_hatch_3 : decode cX4_hatch 3 = .ok (.invokevirtual 105, 3) := by decide +kernel
theorem dX4_hatch_6 : decode cX4_hatch 6 = .ok (.ifCond .eq 21, 3) := by decide +kernel
theorem dX4_hatch_9 : decode cX4_hatch 9 = .ok (.iload_n 2, 1) := by decide +kernel
theorem dX4_hatch_10 : decode cX4_hatch 10 = .ok (.invokestatic 109, 3) := by decide +kernel
theorem dX4_hatch_13 : decode cX4_hatch 13 = .ok (.ifCond .eq 14, 3) := by decide +kernel
theorem dX4_hatch_16 : decode cX4_hatch 16 = .ok (.iload_n 3, 1) := by decide +kernel
theorem dX4_hatch_17 : decode cX4_hatch 17 = .ok (.invokestatic 109, 3) := by decide +kernel
theorem dX4_hatch_20 : decode cX4_hatch 20 = .ok (.ifCond .eq 7, 3) := by decide +kernel
theorem dX4_hatch_23 : decode cX4_hatch 23 = .ok (.iconst 1, 1) := by decide +kernel
theorem dX4_hatch_24 : decode cX4_hatch 24 = .ok (.goto 4, 3) := by decide +kernel
theorem dX4_hatch_27 : decode cX4_hatch 27 = .ok (.iconst 0, 1) := by decide +kernel
theorem dX4_hatch_28 : decode cX4_hatch 28 = .ok (.iconst 1, 1) := by decide +kernel
theorem dX4_hatch_29 : decode cX4_hatch 29 = .ok (.iconst 1, 1) := by decide +kernel
theorem dX4_hatch_30 : decode cX4_hatch 30 = .ok (.invokevirtual 101, 3) := by decide +kernel
theorem dX4_hatch_33 : decode cX4_hatch 33 = .ok (.ifCond .eq 17, 3) := by decide +kernel
theorem dX4_hatch_36 : decode cX4_hatch 36 = .ok (.aload_n 0, 1) := by decide +kernel
theorem dX4_hatch_37 : decode cX4_hatch 37 = .ok (.getfield 19, 3) := by decide +kernel
theorem dX4_hatch_40 : decode cX4_hatch 40 = .ok (.iload_n 1, 1) := by decide +kernel
theorem dX4_hatch_41 : decode cX4_hatch 41 = .ok (.iload_n 2, 1) := by decide +kernel
theorem dX4_hatch_42 : decode cX4_hatch 42 = .ok (.iastore, 1) := by decide +kernel
theorem dX4_hatch_43 : decode cX4_hatch 43 = .ok (.aload_n 0, 1) := by decide +kernel
theorem dX4_hatch_44 : decode cX4_hatch 44 = .ok (.getfield 22, 3) := by decide +kernel
theorem dX4_hatch_47 : decode cX4_hatch 47 = .ok (.iload_n 1, 1) := by decide +kernel
theorem dX4_hatch_48 : decode cX4_hatch 48 = .ok (.iload_n 3, 1) := by decide +kernel
theorem dX4_hatch_49 : decode cX4_hatch 49 = .ok (.iastore, 1) := by decide +kernel
theorem dX4_hatch_50 : decode cX4_hatch 50 = .ok (.return_, 1) := by decide +kernel
theorem dX4_drawnAt_0 : decode cX4_drawnAt 0 = .ok (.aload_n 0, 1) := by decide +kernel
theorem dX4_drawnAt_1 : decode cX4_drawnAt 1 = .ok (.getfield 25, 3) := by decide +kernel
theorem dX4_drawnAt_4 : decode cX4_drawnAt 4 = .ok (.bipush 120, 2) := by decide +kernel
theorem dX4_drawnAt_6 : decode cX4_drawnAt 6 = .ok (.iload_n 1, 1) := by decide +kernel
theorem dX4_drawnAt_7 : decode cX4_drawnAt 7 = .ok (.imul, 1) := by decide +kernel
theorem dX4_drawnAt_8 : decode cX4_drawnAt 8 = .ok (.bipush 12, 2) := by decide +kernel
theorem dX4_drawnAt_10 : decode cX4_drawnAt 10 = .ok (.iload_n 2, 1) := by decide +kernel
theorem dX4_drawnAt_11 : decode cX4_drawnAt 11 = .ok (.imul, 1) := by decide +kernel
theorem dX4_drawnAt_12 : decode cX4_drawnAt 12 = .ok (.iadd, 1) := by decide +kernel
theorem dX4_drawnAt_13 : decode cX4_drawnAt 13 = .ok (.iload_n 3, 1) := by decide +kernel
theorem dX4_drawnAt_14 : decode cX4_drawnAt 14 = .ok (.iadd, 1) := by decide +kernel
theorem dX4_drawnAt_15 : decode cX4_drawnAt 15 = .ok (.iaload, 1) := by decide +kernel
theorem dX4_drawnAt_16 : decode cX4_drawnAt 16 = .ok (.istore 4, 2) := by decide +kernel
theorem dX4_drawnAt_18 : decode cX4_drawnAt 18 = .ok (.iload 4, 2) := by decide +kernel
theorem dX4_drawnAt_20 : decode cX4_drawnAt 20 = .ok (.bipush 6, 2) := by decide +kernel
theorem dX4_drawnAt_22 : decode cX4_drawnAt 22 = .ok (.if_icmp .eq 8, 3) := by decide +kernel
theorem dX4_drawnAt_25 : decode cX4_drawnAt 25 = .ok (.iload 4, 2) := by decide +kernel
theorem dX4_drawnAt_27 : decode cX4_drawnAt 27 = .ok (.goto 26, 3) := by decide +kernel
theorem dX4_drawnAt_30 : decode cX4_drawnAt 30 = .ok (.iload_n 2, 1) := by decide +kernel
theorem dX4_drawnAt_31 : decode cX4_drawnAt 31 = .ok (.iload_n 3, 1) := by decide +kernel
theorem dX4_drawnAt_32 : decode cX4_drawnAt 32 = .ok (.iadd, 1) := by decide +kernel
theorem dX4_drawnAt_33 : decode cX4_drawnAt 33 = .ok (.iconst 2, 1) := by decide +kernel
theorem dX4_drawnAt_34 : decode cX4_drawnAt 34 = .ok (.irem, 1) := by decide +kernel
theorem dX4_drawnAt_35 : decode cX4_drawnAt 35 = .ok (.ifCond .ne 12, 3) := by decide +kernel
theorem dX4_drawnAt_38 : decode cX4_drawnAt 38 = .ok (.aload_n 0, 1) := by decide +kernel
theorem dX4_drawnAt_39 : decode cX4_drawnAt 39 = .ok (.getfield 19, 3) := by decide +kernel
theorem dX4_drawnAt_42 : decode cX4_drawnAt 42 = .ok (.iload_n 1, 1) := by decide +kernel
theorem dX4_drawnAt_43 : decode cX4_drawnAt 43 = .ok (.iaload, 1) := by decide +kernel
theorem dX4_drawnAt_44 : decode cX4_drawnAt 44 = .ok (.goto 9, 3) := by decide +kernel
theorem dX4_drawnAt_47 : decode cX4_drawnAt 47 = .ok (.aload_n 0, 1) := by decide +kernel
theorem dX4_drawnAt_48 : decode cX4_drawnAt 48 = .ok (.getfield 22, 3) := by decide +kernel
theorem dX4_drawnAt_51 : decode cX4_drawnAt 51 = .ok (.iload_n 1, 1) := by decide +kernel
theorem dX4_drawnAt_52 : decode cX4_drawnAt 52 = .ok (.iaload, 1) := by decide +kernel
theorem dX4_drawnAt_53 : decode cX4_drawnAt 53 = .ok (.ireturn, 1) := by decide +kernel
theorem dX4_dye_0 : decode cX4_dye 0 = .ok (.aload_n 0, 1) := by decide +kernel
theorem dX4_dye_1 : decode cX4_dye 1 = .ok (.iload_n 1, 1) := by decide +kernel
theorem dX4_dye_2 : decode cX4_dye 2 = .ok (.invokestatic 109, 3) := by decide +kernel
theorem dX4_dye_5 : decode cX4_dye 5 = .ok (.iload_n 2, 1) := by decide +kernel
theorem dX4_dye_6 : decode cX4_dye 6 = .ok (.iconst 1, 1) := by decide +kernel
theorem dX4_dye_7 : decode cX4_dye 7 = .ok (.sipush 999, 3) := by decide +kernel
theorem dX4_dye_10 : decode cX4_dye 10 = .ok (.invokestatic 87, 3) := by decide +kernel
theorem dX4_dye_13 : decode cX4_dye 13 = .ok (.ifCond .eq 17, 3) := by decide +kernel
theorem dX4_dye_16 : decode cX4_dye 16 = .ok (.iload_n 3, 1) := by decide +kernel
theorem dX4_dye_17 : decode cX4_dye 17 = .ok (.iconst 0, 1) := by decide +kernel
theorem dX4_dye_18 : decode cX4_dye 18 = .ok (.bipush 9, 2) := by decide +kernel
theorem dX4_dye_20 : decode cX4_dye 20 = .ok (.invokestatic 87, 3) := by decide +kernel
theorem dX4_dye_23 : decode cX4_dye 23 = .ok (.ifCond .eq 7, 3) := by decide +kernel
theorem dX4_dye_26 : decode cX4_dye 26 = .ok (.iconst 1, 1) := by decide +kernel
theorem dX4_dye_27 : decode cX4_dye 27 = .ok (.goto 4, 3) := by decide +kernel
theorem dX4_dye_30 : decode cX4_dye 30 = .ok (.iconst 0, 1) := by decide +kernel
theorem dX4_dye_31 : decode cX4_dye 31 = .ok (.aload_n 0, 1) := by decide +kernel
theorem dX4_dye_32 : decode cX4_dye 32 = .ok (.getfield 112, 3) := by decide +kernel
theorem dX4_dye_35 : decode cX4_dye 35 = .ok (.bipush 20, 2) := by decide +kernel
theorem dX4_dye_37 : decode cX4_dye 37 = .ok (.if_icmp .ge 7, 3) := by decide +kernel
theorem dX4_dye_40 : decode cX4_dye 40 = .ok (.iconst 1, 1) := by decide +kernel
theorem dX4_dye_41 : decode cX4_dye 41 = .ok (.goto 4, 3) := by decide +kernel
theorem dX4_dye_44 : decode cX4_dye 44 = .ok (.iconst 0, 1) := by decide +kernel
theorem dX4_dye_45 : decode cX4_dye 45 = .ok (.invokevirtual 101, 3) := by decide +kernel
theorem dX4_dye_48 : decode cX4_dye 48 = .ok (.ifCond .ne 5, 3) := by decide +kernel
theorem dX4_dye_51 : decode cX4_dye 51 = .ok (.iconst 0, 1) := by decide +kernel
theorem dX4_dye_52 : decode cX4_dye 52 = .ok (.ireturn, 1) := by decide +kernel
theorem dX4_dye_53 : decode cX4_dye 53 = .ok (.aload_n 0, 1) := by decide +kernel
theorem dX4_dye_54 : decode cX4_dye 54 = .ok (.getfield 28, 3) := by decide +kernel
theorem dX4_dye_57 : decode cX4_dye 57 = .ok (.aload_n 0, 1) := by decide +kernel
theorem dX4_dye_58 : decode cX4_dye 58 = .ok (.getfield 112, 3) := by decide +kernel
theorem dX4_dye_61 : decode cX4_dye 61 = .ok (.iload_n 1, 1) := by decide +kernel
theorem dX4_dye_62 : decode cX4_dye 62 = .ok (.iastore, 1) := by decide +kernel
theorem dX4_dye_63 : decode cX4_dye 63 = .ok (.aload_n 0, 1) := by decide +kernel
theorem dX4_dye_64 : decode cX4_dye 64 = .ok (.getfield 31, 3) := by decide +kernel
theorem dX4_dye_67 : decode cX4_dye 67 = .ok (.aload_n 0, 1) := by decide +kernel
theorem dX4_dye_68 : decode cX4_dye 68 = .ok (.getfield 112, 3) := by decide +kernel
theorem dX4_dye_71 : decode cX4_dye 71 = .ok (.iload_n 2, 1) := by decide +kernel
theorem dX4_dye_72 : decode cX4_dye 72 = .ok (.iastore, 1) := by decide +kernel
theorem dX4_dye_73 : decode cX4_dye 73 = .ok (.aload_n 0, 1) := by decide +kernel
theorem dX4_dye_74 : decode cX4_dye 74 = .ok (.getfield 34, 3) := by decide +kernel
theorem dX4_dye_77 : decode cX4_dye 77 = .ok (.aload_n 0, 1) := by decide +kernel
theorem dX4_dye_78 : decode cX4_dye 78 = .ok (.getfield 112, 3) := by decide +kernel
theorem dX4_dye_81 : decode cX4_dye 81 = .ok (.iload_n 2, 1) := by decide +kernel
theorem dX4_dye_82 : decode cX4_dye 82 = .ok (.iastore, 1) := by decide +kernel
theorem dX4_dye_83 : decode cX4_dye 83 = .ok (.aload_n 0, 1) := by decide +kernel
theorem dX4_dye_84 : decode cX4_dye 84 = .ok (.getfield 37, 3) := by decide +kernel
theorem dX4_dye_87 : decode cX4_dye 87 = .ok (.aload_n 0, 1) := by decide +kernel
theorem dX4_dye_88 : decode cX4_dye 88 = .ok (.getfield 112, 3) := by decide +kernel
theorem dX4_dye_91 : decode cX4_dye 91 = .ok (.iload_n 3, 1) := by decide +kernel
theorem dX4_dye_92 : decode cX4_dye 92 = .ok (.iastore, 1) := by decide +kernel
theorem dX4_dye_93 : decode cX4_dye 93 = .ok (.aload_n 0, 1) := by decide +kernel
theorem dX4_dye_94 : decode cX4_dye 94 = .ok (.getfield 40, 3) := by decide +kernel
theorem dX4_dye_97 : decode cX4_dye 97 = .ok (.aload_n 0, 1) := by decide +kernel
theorem dX4_dye_98 : decode cX4_dye 98 = .ok (.getfield 112, 3) := by decide +kernel
theorem dX4_dye_101 : decode cX4_dye 101 = .ok (.iload 4, 2) := by decide +kernel
theorem dX4_dye_103 : decode cX4_dye 103 = .ok (.bastore, 1) := by decide +kernel
theorem dX4_dye_104 : decode cX4_dye 104 = .ok (.aload_n 0, 1) := by decide +kernel
theorem dX4_dye_105 : decode cX4_dye 105 = .ok (.dup, 1) := by decide +kernel
theorem dX4_dye_106 : decode cX4_dye 106 = .ok (.getfield 112, 3) := by decide +kernel
theorem dX4_dye_109 : decode cX4_dye 109 = .ok (.iconst 1, 1) := by decide +kernel
theorem dX4_dye_110 : decode cX4_dye 110 = .ok (.iadd, 1) := by decide +kernel
theorem dX4_dye_111 : decode cX4_dye 111 = .ok (.putfield 112, 3) := by decide +kernel
theorem dX4_dye_114 : decode cX4_dye 114 = .ok (.aload_n 0, 1) := by decide +kernel
theorem dX4_dye_115 : decode cX4_dye 115 = .ok (.getfield 112, 3) := by decide +kernel
theorem dX4_dye_118 : decode cX4_dye 118 = .ok (.iconst 1, 1) := by decide +kernel
theorem dX4_dye_119 : decode cX4_dye 119 = .ok (.isub, 1) := by decide +kernel
theorem dX4_dye_120 : decode cX4_dye 120 = .ok (.ireturn, 1) := by decide +kernel
theorem dX4_left_0 : decode cX4_left 0 = .ok (.aload_n 0, 1) := by decide +kernel
theorem dX4_left_1 : decode cX4_left 1 = .ok (.iload_n 1, 1) := by decide +kernel
theorem dX4_left_2 : decode cX4_left 2 = .ok (.iconst 0, 1) := by decide +kernel
theorem dX4_left_3 : decode cX4_left 3 = .ok (.aload_n 0, 1) := by decide +kernel
theorem dX4_left_4 : decode cX4_left 4 = .ok (.getfield 112, 3) := by decide +kernel
theorem dX4_left_7 : decode cX4_left 7 = .ok (.iconst 1, 1) := by decide +kernel
theorem dX4_left_8 : decode cX4_left 8 = .ok (.isub, 1) := by decide +kernel
theorem dX4_left_9 : decode cX4_left 9 = .ok (.invokestatic 87, 3) := by decide +kernel
theorem dX4_left_12 : decode cX4_left 12 = .ok (.iconst 1, 1) := by decide +kernel
theorem dX4_left_13 : decode cX4_left 13 = .ok (.iconst 1, 1) := by decide +kernel
theorem dX4_left_14 : decode cX4_left 14 = .ok (.invokevirtual 101, 3) := by decide +kernel
theorem dX4_left_17 : decode cX4_left 17 = .ok (.ifCond .eq 12, 3) := by decide +kernel
theorem dX4_left_20 : decode cX4_left 20 = .ok (.aload_n 0, 1) := by decide +kernel
theorem dX4_left_21 : decode cX4_left 21 = .ok (.getfield 34, 3) := by decide +kernel
theorem dX4_left_24 : decode cX4_left 24 = .ok (.iload_n 1, 1) := by decide +kernel
theorem dX4_left_25 : decode cX4_left 25 = .ok (.iaload, 1) := by decide +kernel
theorem dX4_left_26 : decode cX4_left 26 = .ok (.goto 4, 3) := by decide +kernel
theorem dX4_left_29 : decode cX4_left 29 = .ok (.iconst 0, 1) := by decide +kernel
theorem dX4_left_30 : decode cX4_left 30 = .ok (.ireturn, 1) := by decide +kernel
theorem dX4_wovenOf_0 : decode cX4_wovenOf 0 = .ok (.iconst 0, 1) := by decide +kernel
theorem dX4_wovenOf_1 : decode cX4_wovenOf 1 = .ok (.istore_n 2, 1) := by decide +kernel
theorem dX4_wovenOf_2 : decode cX4_wovenOf 2 = .ok (.iconst 0, 1) := by decide +kernel
theorem dX4_wovenOf_3 : decode cX4_wovenOf 3 = .ok (.istore_n 3, 1) := by decide +kernel
theorem dX4_wovenOf_4 : decode cX4_wovenOf 4 = .ok (.iload_n 3, 1) := by decide +kernel
theorem dX4_wovenOf_5 : decode cX4_wovenOf 5 = .ok (.aload_n 0, 1) := by decide +kernel
theorem dX4_wovenOf_6 : decode cX4_wovenOf 6 = .ok (.getfield 91, 3) := by decide +kernel
theorem dX4_wovenOf_9 : decode cX4_wovenOf 9 = .ok (.if_icmp .ge 84, 3) := by decide +kernel
theorem dX4_wovenOf_12 : decode cX4_wovenOf 12 = .ok (.iconst 0, 1) := by decide +kernel
theorem dX4_wovenOf_13 : decode cX4_wovenOf 13 = .ok (.istore 4, 2) := by decide +kernel
theorem dX4_wovenOf_15 : decode cX4_wovenOf 15 = .ok (.iload 4, 2) := by decide +kernel
theorem dX4_wovenOf_17 : decode cX4_wovenOf 17 = .ok (.aload_n 0, 1) := by decide +kernel
theorem dX4_wovenOf_18 : decode cX4_wovenOf 18 = .ok (.getfield 44, 3) := by decide +kernel
theorem dX4_wovenOf_21 : decode cX4_wovenOf 21 = .ok (.iload_n 3, 1) := by decide +kernel
theorem dX4_wovenOf_22 : decode cX4_wovenOf 22 = .ok (.iaload, 1) := by decide +kernel
theorem dX4_wovenOf_23 : decode cX4_wovenOf 23 = .ok (.aload_n 0, 1) := by decide +kernel
theorem dX4_wovenOf_24 : decode cX4_wovenOf 24 = .ok (.getfield 47, 3) := by decide +kernel
theorem dX4_wovenOf_27 : decode cX4_wovenOf 27 = .ok (.iload_n 3, 1) := by decide +kernel
theorem dX4_wovenOf_28 : decode cX4_wovenOf 28 = .ok (.iaload, 1) := by decide +kernel
theorem dX4_wovenOf_29 : decode cX4_wovenOf 29 = .ok (.imul, 1) := by decide +kernel
theorem dX4_wovenOf_30 : decode cX4_wovenOf 30 = .ok (.if_icmp .ge 57, 3) := by decide +kernel
theorem dX4_wovenOf_33 : decode cX4_wovenOf 33 = .ok (.aload_n 0, 1) := by decide +kernel
theorem dX4_wovenOf_34 : decode cX4_wovenOf 34 = .ok (.getfield 53, 3) := by decide +kernel
theorem dX4_wovenOf_37 : decode cX4_wovenOf 37 = .ok (.iload_n 3, 1) := by decide +kernel
theorem dX4_wovenOf_38 : decode cX4_wovenOf 38 = .ok (.baload, 1) := by decide +kernel
theorem dX4_wovenOf_39 : decode cX4_wovenOf 39 = .ok (.ifCond .ne 48, 3) := by decide +kernel
theorem dX4_wovenOf_42 : decode cX4_wovenOf 42 = .ok (.iload_n 2, 1) := by decide +kernel
theorem dX4_wovenOf_43 : decode cX4_wovenOf 43 = .ok (.aload_n 0, 1) := by decide +kernel
theorem dX4_wovenOf_44 : decode cX4_wovenOf 44 = .ok (.getfield 74, 3) := by decide +kernel
theorem dX4_wovenOf_47 : decode cX4_wovenOf 47 = .ok (.iload_n 3, 1) := by decide +kernel
theorem dX4_wovenOf_48 : decode cX4_wovenOf 48 = .ok (.iload 4, 2) := by decide +kernel
theorem dX4_wovenOf_50 : decode cX4_wovenOf 50 = .ok (.aload_n 0, 1) := by decide +kernel
theorem dX4_wovenOf_51 : decode cX4_wovenOf 51 = .ok (.getfield 47, 3) := by decide +kernel
theorem dX4_wovenOf_54 : decode cX4_wovenOf 54 = .ok (.iload_n 3, 1) := by decide +kernel
theorem dX4_wovenOf_55 : decode cX4_wovenOf 55 = .ok (.iaload, 1) := by decide +kernel
theorem dX4_wovenOf_56 : decode cX4_wovenOf 56 = .ok (.idiv, 1) := by decide +kernel
theorem dX4_wovenOf_57 : decode cX4_wovenOf 57 = .ok (.iload 4, 2) := by decide +kernel
theorem dX4_wovenOf_59 : decode cX4_wovenOf 59 = .ok (.aload_n 0, 1) := by decide +kernel
theorem dX4_wovenOf_60 : decode cX4_wovenOf 60 = .ok (.getfield 47, 3) := by decide +kernel
theorem dX4_wovenOf_63 : decode cX4_wovenOf 63 = .ok (.iload_n 3, 1) := by decide +kernel
theorem dX4_wovenOf_64 : decode cX4_wovenOf 64 = .ok (.iaload, 1) := by decide +kernel
theorem dX4_wovenOf_65 : decode cX4_wovenOf 65 = .ok (.irem, 1) := by decide +kernel
theorem dX4_wovenOf_66 : decode cX4_wovenOf 66 = .ok (.invokestatic 115, 3) := by decide +kernel
theorem dX4_wovenOf_69 : decode cX4_wovenOf 69 = .ok (.iaload, 1) := by decide +kernel
theorem dX4_wovenOf_70 : decode cX4_wovenOf 70 = .ok (.iload_n 1, 1) := by decide +kernel
theorem dX4_wovenOf_71 : decode cX4_wovenOf 71 = .ok (.if_icmp .ne 7, 3) := by decide +kernel
theorem dX4_wovenOf_74 : decode cX4_wovenOf 74 = .ok (.iconst 1, 1) := by decide +kernel
theorem dX4_wovenOf_75 : decode cX4_wovenOf 75 = .ok (.goto 4, 3) := by decide +kernel
theorem dX4_wovenOf_78 : decode cX4_wovenOf 78 = .ok (.iconst 0, 1) := by decide +kernel
theorem dX4_wovenOf_79 : decode cX4_wovenOf 79 = .ok (.iadd, 1) := by decide +kernel
theorem dX4_wovenOf_80 : decode cX4_wovenOf 80 = .ok (.istore_n 2, 1) := by decide +kernel
theorem dX4_wovenOf_81 : decode cX4_wovenOf 81 = .ok (.iinc 4 1, 3) := by decide +kernel
theorem dX4_wovenOf_84 : decode cX4_wovenOf 84 = .ok (.goto (-69), 3) := by decide +kernel
theorem dX4_wovenOf_87 : decode cX4_wovenOf 87 = .ok (.iinc 3 1, 3) := by decide +kernel
theorem dX4_wovenOf_90 : decode cX4_wovenOf 90 = .ok (.goto (-86), 3) := by decide +kernel
theorem dX4_wovenOf_93 : decode cX4_wovenOf 93 = .ok (.iload_n 2, 1) := by decide +kernel
theorem dX4_wovenOf_94 : decode cX4_wovenOf 94 = .ok (.ireturn, 1) := by decide +kernel
theorem dX4_gold_0 : decode cX4_gold 0 = .ok (.aload_n 0, 1) := by decide +kernel
theorem dX4_gold_1 : decode cX4_gold 1 = .ok (.iconst 0, 1) := by decide +kernel
theorem dX4_gold_2 : decode cX4_gold 2 = .ok (.putfield 80, 3) := by decide +kernel
theorem dX4_gold_5 : decode cX4_gold 5 = .ok (.iconst 0, 1) := by decide +kernel
theorem dX4_gold_6 : decode cX4_gold 6 = .ok (.istore_n 1, 1) := by decide +kernel
theorem dX4_gold_7 : decode cX4_gold 7 = .ok (.iconst 0, 1) := by decide +kernel
theorem dX4_gold_8 : decode cX4_gold 8 = .ok (.istore_n 2, 1) := by decide +kernel
theorem dX4_gold_9 : decode cX4_gold 9 = .ok (.iload_n 2, 1) := by decide +kernel
theorem dX4_gold_10 : decode cX4_gold 10 = .ok (.aload_n 0, 1) := by decide +kernel
theorem dX4_gold_11 : decode cX4_gold 11 = .ok (.getfield 112, 3) := by decide +kernel
theorem dX4_gold_14 : decode cX4_gold 14 = .ok (.if_icmp .ge 31, 3) := by decide +kernel
theorem dX4_gold_17 : decode cX4_gold 17 = .ok (.iload_n 1, 1) := by decide +kernel
theorem dX4_gold_18 : decode cX4_gold 18 = .ok (.aload_n 0, 1) := by decide +kernel
theorem dX4_gold_19 : decode cX4_gold 19 = .ok (.getfield 28, 3) := by decide +kernel
theorem dX4_gold_22 : decode cX4_gold 22 = .ok (.iload_n 2, 1) := by decide +kernel
theorem dX4_gold_23 : decode cX4_gold 23 = .ok (.iaload, 1) := by decide +kernel
theorem dX4_gold_24 : decode cX4_gold 24 = .ok (.iconst 5, 1) := by decide +kernel
theorem dX4_gold_25 : decode cX4_gold 25 = .ok (.if_icmp .ne 11, 3) := by decide +kernel
theorem dX4_gold_28 : decode cX4_gold 28 = .ok (.aload_n 0, 1) := by decide +kernel
theorem dX4_gold_29 : decode cX4_gold 29 = .ok (.iload_n 2, 1) := by decide +kernel
theorem dX4_gold_30 : decode cX4_gold 30 = .ok (.invokevirtual 119, 3) := by decide +kernel
theorem dX4_gold_33 : decode cX4_gold 33 = .ok (.goto 4, 3) := by decide +kernel
theorem dX4_gold_36 : decode cX4_gold 36 = .ok (.iconst 0, 1) := by decide +kernel
theorem dX4_gold_37 : decode cX4_gold 37 = .ok (.iadd, 1) := by decide +kernel
theorem dX4_gold_38 : decode cX4_gold 38 = .ok (.istore_n 1, 1) := by decide +kernel
theorem dX4_gold_39 : decode cX4_gold 39 = .ok (.iinc 2 1, 3) := by decide +kernel
theorem dX4_gold_42 : decode cX4_gold 42 = .ok (.goto (-33), 3) := by decide +kernel
theorem dX4_gold_45 : decode cX4_gold 45 = .ok (.iload_n 1, 1) := by decide +kernel
theorem dX4_gold_46 : decode cX4_gold 46 = .ok (.ireturn, 1) := by decide +kernel
theorem dX4_at_0 : decode cX4_at 0 = .ok (.sipush 240, 3) := by decide +kernel
theorem dX4_at_3 : decode cX4_at 3 = .ok (.iload_n 0, 1) := by decide +kernel
theorem dX4_at_4 : decode cX4_at 4 = .ok (.imul, 1) := by decide +kernel
theorem dX4_at_5 : decode cX4_at 5 = .ok (.bipush 10, 2) := by decide +kernel
theorem dX4_at_7 : decode cX4_at 7 = .ok (.iload_n 1, 1) := by decide +kernel
theorem dX4_at_8 : decode cX4_at 8 = .ok (.imul, 1) := by decide +kernel
theorem dX4_at_9 : decode cX4_at 9 = .ok (.iadd, 1) := by decide +kernel
theorem dX4_at_10 : decode cX4_at 10 = .ok (.iload_n 2, 1) := by decide +kernel
theorem dX4_at_11 : decode cX4_at 11 = .ok (.iadd, 1) := by decide +kernel
theorem dX4_at_12 : decode cX4_at 12 = .ok (.ireturn, 1) := by decide +kernel
theorem dX4_setsColumn_0 : decode cX4_setsColumn 0 = .ok (.aload_n 0, 1) := by decide +kernel
theorem dX4_setsColumn_1 : decode cX4_setsColumn 1 = .ok (.getfield 62, 3) := by decide +kernel
theorem dX4_setsColumn_4 : decode cX4_setsColumn 4 = .ok (.bipush 24, 2) := by decide +kernel
theorem dX4_setsColumn_6 : decode cX4_setsColumn 6 = .ok (.iload_n 1, 1) := by decide +kernel
theorem dX4_setsColumn_7 : decode cX4_setsColumn 7 = .ok (.imul, 1) := by decide +kernel
theorem dX4_setsColumn_8 : decode cX4_setsColumn 8 = .ok (.iload_n 2, 1) := by decide +kernel
theorem dX4_setsColumn_9 : decode cX4_setsColumn 9 = .ok (.iadd, 1) := by decide +kernel
theorem dX4_setsColumn_10 : decode cX4_setsColumn 10 = .ok (.iload_n 3, 1) := by decide +kernel
theorem dX4_setsColumn_11 : decode cX4_setsColumn 11 = .ok (.iastore, 1) := by decide +kernel
theorem dX4_setsColumn_12 : decode cX4_setsColumn 12 = .ok (.aload_n 0, 1) := by decide +kernel
theorem dX4_setsColumn_13 : decode cX4_setsColumn 13 = .ok (.getfield 65, 3) := by decide +kernel
theorem dX4_setsColumn_16 : decode cX4_setsColumn 16 = .ok (.bipush 24, 2) := by decide +kernel
theorem dX4_setsColumn_18 : decode cX4_setsColumn 18 = .ok (.iload_n 1, 1) := by decide +kernel
theorem dX4_setsColumn_19 : decode cX4_setsColumn 19 = .ok (.imul, 1) := by decide +kernel
theorem dX4_setsColumn_20 : decode cX4_setsColumn 20 = .ok (.iload_n 2, 1) := by decide +kernel
theorem dX4_setsColumn_21 : decode cX4_setsColumn 21 = .ok (.iadd, 1) := by decide +kernel
theorem dX4_setsColumn_22 : decode cX4_setsColumn 22 = .ok (.iload 4, 2) := by decide +kernel
theorem dX4_setsColumn_24 : decode cX4_setsColumn 24 = .ok (.iastore, 1) := by decide +kernel
theorem dX4_setsColumn_25 : decode cX4_setsColumn 25 = .ok (.aload_n 0, 1) := by decide +kernel
theorem dX4_setsColumn_26 : decode cX4_setsColumn 26 = .ok (.getfield 68, 3) := by decide +kernel
theorem dX4_setsColumn_29 : decode cX4_setsColumn 29 = .ok (.bipush 24, 2) := by decide +kernel
theorem dX4_setsColumn_31 : decode cX4_setsColumn 31 = .ok (.iload_n 1, 1) := by decide +kernel
theorem dX4_setsColumn_32 : decode cX4_setsColumn 32 = .ok (.imul, 1) := by decide +kernel
theorem dX4_setsColumn_33 : decode cX4_setsColumn 33 = .ok (.iload_n 2, 1) := by decide +kernel
theorem dX4_setsColumn_34 : decode cX4_setsColumn 34 = .ok (.iadd, 1) := by decide +kernel
theorem dX4_setsColumn_35 : decode cX4_setsColumn 35 = .ok (.iconst 0, 1) := by decide +kernel
theorem dX4_setsColumn_36 : decode cX4_setsColumn 36 = .ok (.bastore, 1) := by decide +kernel
theorem dX4_setsColumn_37 : decode cX4_setsColumn 37 = .ok (.return_, 1) := by decide +kernel
theorem dX4_loom_0 : decode cX4_loom 0 = .ok (.aload_n 0, 1) := by decide +kernel
theorem dX4_loom_1 : decode cX4_loom 1 = .ok (.iload_n 1, 1) := by decide +kernel
theorem dX4_loom_2 : decode cX4_loom 2 = .ok (.invokevirtual 105, 3) := by decide +kernel
theorem dX4_loom_5 : decode cX4_loom 5 = .ok (.istore 4, 2) := by decide +kernel
theorem dX4_loom_7 : decode cX4_loom 7 = .ok (.iload_n 2, 1) := by decide +kernel
theorem dX4_loom_8 : decode cX4_loom 8 = .ok (.iconst 1, 1) := by decide +kernel
theorem dX4_loom_9 : decode cX4_loom 9 = .ok (.iconst 4, 1) := by decide +kernel
theorem dX4_loom_10 : decode cX4_loom 10 = .ok (.invokestatic 87, 3) := by decide +kernel
theorem dX4_loom_13 : decode cX4_loom 13 = .ok (.ifCond .eq 26, 3) := by decide +kernel
theorem dX4_loom_16 : decode cX4_loom 16 = .ok (.iload_n 2, 1) := by decide +kernel
theorem dX4_loom_17 : decode cX4_loom 17 = .ok (.aload_n 0, 1) := by decide +kernel
theorem dX4_loom_18 : decode cX4_loom 18 = .ok (.getfield 13, 3) := by decide +kernel
theorem dX4_loom_21 : decode cX4_loom 21 = .ok (.iload 4, 2) := by decide +kernel
theorem dX4_loom_23 : decode cX4_loom 23 = .ok (.ifCond .eq 7, 3) := by decide +kernel
theorem dX4_loom_26 : decode cX4_loom 26 = .ok (.iload_n 1, 1) := by decide +kernel
theorem dX4_loom_27 : decode cX4_loom 27 = .ok (.goto 4, 3) := by decide +kernel
theorem dX4_loom_30 : decode cX4_loom 30 = .ok (.iconst 0, 1) := by decide +kernel
theorem dX4_loom_31 : decode cX4_loom 31 = .ok (.iaload, 1) := by decide +kernel
theorem dX4_loom_32 : decode cX4_loom 32 = .ok (.if_icmp .gt 7, 3) := by decide +kernel
theorem dX4_loom_35 : decode cX4_loom 35 = .ok (.iconst 1, 1) := by decide +kernel
theorem dX4_loom_36 : decode cX4_loom 36 = .ok (.goto 4, 3) := by decide +kernel
theorem dX4_loom_39 : decode cX4_loom 39 = .ok (.iconst 0, 1) := by decide +kernel
theorem dX4_loom_40 : decode cX4_loom 40 = .ok (.istore 5, 2) := by decide +kernel
theorem dX4_loom_42 : decode cX4_loom 42 = .ok (.aload_n 0, 1) := by decide +kernel
theorem dX4_loom_43 : decode cX4_loom 43 = .ok (.iload 4, 2) := by decide +kernel
theorem dX4_loom_45 : decode cX4_loom 45 = .ok (.iload 5, 2) := by decide +kernel
theorem dX4_loom_47 : decode cX4_loom 47 = .ok (.iload 4, 2) := by decide +kernel
theorem dX4_loom_49 : decode cX4_loom 49 = .ok (.ifCond .eq 34, 3) := by decide +kernel
theorem dX4_loom_52 : decode cX4_loom 52 = .ok (.aload_n 0, 1) := by decide +kernel
theorem dX4_loom_53 : decode cX4_loom 53 = .ok (.getfield 16, 3) := by decide +kernel
theorem dX4_loom_56 : decode cX4_loom 56 = .ok (.iload 4, 2) := by decide +kernel
theorem dX4_loom_58 : decode cX4_loom 58 = .ok (.ifCond .eq 7, 3) := by decide +kernel
theorem dX4_loom_61 : decode cX4_loom 61 = .ok (.iload_n 1, 1) := by decide +kernel
theorem dX4_loom_62 : decode cX4_loom 62 = .ok (.goto 4, 3) := by decide +kernel
theorem dX4_loom_65 : decode cX4_loom 65 = .ok (.iconst 0, 1) := by decide +kernel
theorem dX4_loom_66 : decode cX4_loom 66 = .ok (.iaload, 1) := by decide +kernel
theorem dX4_loom_67 : decode cX4_loom 67 = .ok (.ifCond .le 16, 3) := by decide +kernel
theorem dX4_loom_70 : decode cX4_loom 70 = .ok (.aload_n 0, 1) := by decide +kernel
theorem dX4_loom_71 : decode cX4_loom 71 = .ok (.getfield 91, 3) := by decide +kernel
theorem dX4_loom_74 : decode cX4_loom 74 = .ok (.bipush 20, 2) := by decide +kernel
theorem dX4_loom_76 : decode cX4_loom 76 = .ok (.if_icmp .ge 7, 3) := by decide +kernel
theorem dX4_loom_79 : decode cX4_loom 79 = .ok (.iconst 1, 1) := by decide +kernel
theorem dX4_loom_80 : decode cX4_loom 80 = .ok (.goto 4, 3) := by decide +kernel
theorem dX4_loom_83 : decode cX4_loom 83 = .ok (.iconst 0, 1) := by decide +kernel
theorem dX4_loom_84 : decode cX4_loom 84 = .ok (.invokevirtual 101, 3) := by decide +kernel
theorem dX4_loom_87 : decode cX4_loom 87 = .ok (.ifCond .ne 5, 3) := by decide +kernel
theorem dX4_loom_90 : decode cX4_loom 90 = .ok (.iconst 0, 1) := by decide +kernel
theorem dX4_loom_91 : decode cX4_loom 91 = .ok (.ireturn, 1) := by decide +kernel
theorem dX4_loom_92 : decode cX4_loom 92 = .ok (.aload_n 0, 1) := by decide +kernel
theorem dX4_loom_93 : decode cX4_loom 93 = .ok (.getfield 13, 3) := by decide +kernel
theorem dX4_loom_96 : decode cX4_loom 96 = .ok (.iload_n 1, 1) := by decide +kernel
theorem dX4_loom_97 : decode cX4_loom 97 = .ok (.iaload, 1) := by decide +kernel
theorem dX4_loom_98 : decode cX4_loom 98 = .ok (.istore 6, 2) := by decide +kernel
theorem dX4_loom_100 : decode cX4_loom 100 = .ok (.aload_n 0, 1) := by decide +kernel
theorem dX4_loom_101 : decode cX4_loom 101 = .ok (.getfield 44, 3) := by decide +kernel
theorem dX4_loom_104 : decode cX4_loom 104 = .ok (.aload_n 0, 1) := by decide +kernel
theorem dX4_loom_105 : decode cX4_loom 105 = .ok (.getfield 91, 3) := by decide +kernel
theorem dX4_loom_108 : decode cX4_loom 108 = .ok (.iload 6, 2) := by decide +kernel
theorem dX4_loom_110 : decode cX4_loom 110 = .ok (.iastore, 1) := by decide +kernel
theorem dX4_loom_111 : decode cX4_loom 111 = .ok (.aload_n 0, 1) := by decide +kernel
theorem dX4_loom_112 : decode cX4_loom 112 = .ok (.getfield 59, 3) := by decide +kernel
theorem dX4_loom_115 : decode cX4_loom 115 = .ok (.aload_n 0, 1) := by decide +kernel
theorem dX4_loom_116 : decode cX4_loom 116 = .ok (.getfield 91, 3) := by decide +kernel
theorem dX4_loom_119 : decode cX4_loom 119 = .ok (.iload 6, 2) := by decide +kernel
theorem dX4_loom_121 : decode cX4_loom 121 = .ok (.iastore, 1) := by decide +kernel
theorem dX4_loom_122 : decode cX4_loom 122 = .ok (.aload_n 0, 1) := by decide +kernel
theorem dX4_loom_123 : decode cX4_loom 123 = .ok (.getfield 47, 3) := by decide +kernel
theorem dX4_loom_126 : decode cX4_loom 126 = .ok (.aload_n 0, 1) := by decide +kernel
theorem dX4_loom_127 : decode cX4_loom 127 = .ok (.getfield 91, 3) := by decide +kernel
theorem dX4_loom_130 : decode cX4_loom 130 = .ok (.aload_n 0, 1) := by decide +kernel
theorem dX4_loom_131 : decode cX4_loom 131 = .ok (.getfield 16, 3) := by decide +kernel
theorem dX4_loom_134 : decode cX4_loom 134 = .ok (.iload_n 1, 1) := by decide +kernel
theorem dX4_loom_135 : decode cX4_loom 135 = .ok (.iaload, 1) := by decide +kernel
theorem dX4_loom_136 : decode cX4_loom 136 = .ok (.iastore, 1) := by decide +kernel
theorem dX4_loom_137 : decode cX4_loom 137 = .ok (.aload_n 0, 1) := by decide +kernel
theorem dX4_loom_138 : decode cX4_loom 138 = .ok (.getfield 50, 3) := by decide +kernel
theorem dX4_loom_141 : decode cX4_loom 141 = .ok (.aload_n 0, 1) := by decide +kernel
theorem dX4_loom_142 : decode cX4_loom 142 = .ok (.getfield 91, 3) := by decide +kernel
theorem dX4_loom_145 : decode cX4_loom 145 = .ok (.iload_n 2, 1) := by decide +kernel
theorem dX4_loom_146 : decode cX4_loom 146 = .ok (.iastore, 1) := by decide +kernel
theorem dX4_loom_147 : decode cX4_loom 147 = .ok (.iconst 0, 1) := by decide +kernel
theorem dX4_loom_148 : decode cX4_loom 148 = .ok (.istore 7, 2) := by decide +kernel
theorem dX4_loom_150 : decode cX4_loom 150 = .ok (.iload 7, 2) := by decide +kernel
theorem dX4_loom_152 : decode cX4_loom 152 = .ok (.iload 6, 2) := by decide +kernel
theorem dX4_loom_154 : decode cX4_loom 154 = .ok (.if_icmp .ge 101, 3) := by decide +kernel
theorem dX4_loom_157 : decode cX4_loom 157 = .ok (.aload_n 0, 1) := by decide +kernel
theorem dX4_loom_158 : decode cX4_loom 158 = .ok (.aload_n 0, 1) := by decide +kernel
theorem dX4_loom_159 : decode cX4_loom 159 = .ok (.getfield 91, 3) := by decide +kernel
theorem dX4_loom_162 : decode cX4_loom 162 = .ok (.iload 7, 2) := by decide +kernel
theorem dX4_loom_164 : decode cX4_loom 164 = .ok (.aload_n 0, 1) := by decide +kernel
theorem dX4_loom_165 : decode cX4_loom 165 = .ok (.getfield 91, 3) := by decide +kernel
theorem dX4_loom_168 : decode cX4_loom 168 = .ok (.iload 7, 2) := by decide +kernel
theorem dX4_loom_170 : decode cX4_loom 170 = .ok (.invokevirtual 123, 3) := by decide +kernel
theorem dX4_loom_173 : decode cX4_loom 173 = .ok (.iconst 0, 1) := by decide +kernel
theorem dX4_loom_174 : decode cX4_loom 174 = .ok (.istore 8, 2) := by decide +kernel
theorem dX4_loom_176 : decode cX4_loom 176 = .ok (.iload 8, 2) := by decide +kernel
theorem dX4_loom_178 : decode cX4_loom 178 = .ok (.aload_n 0, 1) := by decide +kernel
theorem dX4_loom_179 : decode cX4_loom 179 = .ok (.getfield 16, 3) := by decide +kernel
theorem dX4_loom_182 : decode cX4_loom 182 = .ok (.iload_n 1, 1) := by decide +kernel
theorem dX4_loom_183 : decode cX4_loom 183 = .ok (.iaload, 1) := by decide +kernel
theorem dX4_loom_184 : decode cX4_loom 184 = .ok (.if_icmp .ge 65, 3) := by decide +kernel
theorem dX4_loom_187 : decode cX4_loom 187 = .ok (.aload_n 0, 1) := by decide +kernel
theorem dX4_loom_188 : decode cX4_loom 188 = .ok (.getfield 71, 3) := by decide +kernel
theorem dX4_loom_191 : decode cX4_loom 191 = .ok (.aload_n 0, 1) := by decide +kernel
theorem dX4_loom_192 : decode cX4_loom 192 = .ok (.getfield 91, 3) := by decide +kernel
theorem dX4_loom_195 : decode cX4_loom 195 = .ok (.iload 7, 2) := by decide +kernel
theorem dX4_loom_197 : decode cX4_loom 197 = .ok (.iload 8, 2) := by decide +kernel
theorem dX4_loom_199 : decode cX4_loom 199 = .ok (.invokestatic 115, 3) := by decide +kernel
theorem dX4_loom_202 : decode cX4_loom 202 = .ok (.aload_n 0, 1) := by decide +kernel
theorem dX4_loom_203 : decode cX4_loom 203 = .ok (.iload_n 1, 1) := by decide +kernel
theorem dX4_loom_204 : decode cX4_loom 204 = .ok (.iload 8, 2) := by decide +kernel
theorem dX4_loom_206 : decode cX4_loom 206 = .ok (.iload_n 3, 1) := by decide +kernel
theorem dX4_loom_207 : decode cX4_loom 207 = .ok (.ifCond .eq 13, 3) := by decide +kernel
theorem dX4_loom_210 : decode cX4_loom 210 = .ok (.iload 6, 2) := by decide +kernel
theorem dX4_loom_212 : decode cX4_loom 212 = .ok (.iconst 1, 1) := by decide +kernel
theorem dX4_loom_213 : decode cX4_loom 213 = .ok (.isub, 1) := by decide +kernel
theorem dX4_loom_214 : decode cX4_loom 214 = .ok (.iload 7, 2) := by decide +kernel
theorem dX4_loom_216 : decode cX4_loom 216 = .ok (.isub, 1) := by decide +kernel
theorem dX4_loom_217 : decode cX4_loom 217 = .ok (.goto 5, 3) := by decide +kernel
theorem dX4_loom_220 : decode cX4_loom 220 = .ok (.iload 7, 2) := by decide +kernel
theorem dX4_loom_222 : decode cX4_loom 222 = .ok (.invokevirtual 127, 3) := by decide +kernel
theorem dX4_loom_225 : decode cX4_loom 225 = .ok (.iastore, 1) := by decide +kernel
theorem dX4_loom_226 : decode cX4_loom 226 = .ok (.aload_n 0, 1) := by decide +kernel
theorem dX4_loom_227 : decode cX4_loom 227 = .ok (.getfield 74, 3) := by decide +kernel
theorem dX4_loom_230 : decode cX4_loom 230 = .ok (.aload_n 0, 1) := by decide +kernel
theorem dX4_loom_231 : decode cX4_loom 231 = .ok (.getfield 91, 3) := by decide +kernel
theorem dX4_loom_234 : decode cX4_loom 234 = .ok (.iload 7, 2) := by decide +kernel
theorem dX4_loom_236 : decode cX4_loom 236 = .ok (.iload 8, 2) := by decide +kernel
theorem dX4_loom_238 : decode cX4_loom 238 = .ok (.invokestatic 115, 3) := by decide +kernel
theorem dX4_loom_241 : decode cX4_loom 241 = .ok (.iconst (-1), 1) := by decide +kernel
theorem dX4_loom_242 : decode cX4_loom 242 = .ok (.iastore, 1) := by decide +kernel
theorem dX4_loom_243 : decode cX4_loom 243 = .ok (.iinc 8 1, 3) := by decide +kernel
theorem dX4_loom_246 : decode cX4_loom 246 = .ok (.goto (-70), 3) := by decide +kernel
theorem dX4_loom_249 : decode cX4_loom 249 = .ok (.iinc 7 1, 3) := by decide +kernel
theorem dX4_loom_252 : decode cX4_loom 252 = .ok (.goto (-102), 3) := by decide +kernel
theorem dX4_loom_255 : decode cX4_loom 255 = .ok (.aload_n 0, 1) := by decide +kernel
theorem dX4_loom_256 : decode cX4_loom 256 = .ok (.dup, 1) := by decide +kernel
theorem dX4_loom_257 : decode cX4_loom 257 = .ok (.getfield 91, 3) := by decide +kernel
theorem dX4_loom_260 : decode cX4_loom 260 = .ok (.iconst 1, 1) := by decide +kernel
theorem dX4_loom_261 : decode cX4_loom 261 = .ok (.iadd, 1) := by decide +kernel
theorem dX4_loom_262 : decode cX4_loom 262 = .ok (.putfield 91, 3) := by decide +kernel
theorem dX4_loom_265 : decode cX4_loom 265 = .ok (.aload_n 0, 1) := by decide +kernel
theorem dX4_loom_266 : decode cX4_loom 266 = .ok (.getfield 91, 3) := by decide +kernel
theorem dX4_loom_269 : decode cX4_loom 269 = .ok (.iconst 1, 1) := by decide +kernel
theorem dX4_loom_270 : decode cX4_loom 270 = .ok (.isub, 1) := by decide +kernel
theorem dX4_loom_271 : decode cX4_loom 271 = .ok (.ireturn, 1) := by decide +kernel
theorem dX4_isDone_0 : decode cX4_isDone 0 = .ok (.iconst 1, 1) := by decide +kernel
theorem dX4_isDone_1 : decode cX4_isDone 1 = .ok (.istore_n 2, 1) := by decide +kernel
theorem dX4_isDone_2 : decode cX4_isDone 2 = .ok (.iconst 0, 1) := by decide +kernel
theorem dX4_isDone_3 : decode cX4_isDone 3 = .ok (.istore_n 3, 1) := by decide +kernel
theorem dX4_isDone_4 : decode cX4_isDone 4 = .ok (.iload_n 3, 1) := by decide +kernel
theorem dX4_isDone_5 : decode cX4_isDone 5 = .ok (.aload_n 0, 1) := by decide +kernel
theorem dX4_isDone_6 : decode cX4_isDone 6 = .ok (.getfield 50, 3) := by decide +kernel
theorem dX4_isDone_9 : decode cX4_isDone 9 = .ok (.iload_n 1, 1) := by decide +kernel
theorem dX4_isDone_10 : decode cX4_isDone 10 = .ok (.iaload, 1) := by decide +kernel
theorem dX4_isDone_11 : decode cX4_isDone 11 = .ok (.if_icmp .ge 38, 3) := by decide +kernel
theorem dX4_isDone_14 : decode cX4_isDone 14 = .ok (.iload_n 2, 1) := by decide +kernel
theorem dX4_isDone_15 : decode cX4_isDone 15 = .ok (.ifCond .eq 26, 3) := by decide +kernel
theorem dX4_isDone_18 : decode cX4_isDone 18 = .ok (.aload_n 0, 1) := by decide +kernel
theorem dX4_isDone_19 : decode cX4_isDone 19 = .ok (.getfield 56, 3) := by decide +kernel
theorem dX4_isDone_22 : decode cX4_isDone 22 = .ok (.iconst 4, 1) := by decide +kernel
theorem dX4_isDone_23 : decode cX4_isDone 23 = .ok (.iload_n 1, 1) := by decide +kernel
theorem dX4_isDone_24 : decode cX4_isDone 24 = .ok (.imul, 1) := by decide +kernel
theorem dX4_isDone_25 : decode cX4_isDone 25 = .ok (.iload_n 3, 1) := by decide +kernel
theorem dX4_isDone_26 : decode cX4_isDone 26 = .ok (.iadd, 1) := by decide +kernel
theorem dX4_isDone_27 : decode cX4_isDone 27 = .ok (.iaload, 1) := by decide +kernel
theorem dX4_isDone_28 : decode cX4_isDone 28 = .ok (.aload_n 0, 1) := by decide +kernel
theorem dX4_isDone_29 : decode cX4_isDone 29 = .ok (.getfield 47, 3) := by decide +kernel
theorem dX4_isDone_32 : decode cX4_isDone 32 = .ok (.iload_n 1, 1) := by decide +kernel
theorem dX4_isDone_33 : decode cX4_isDone 33 = .ok (.iaload, 1) := by decide +kernel
theorem dX4_isDone_34 : decode cX4_isDone 34 = .ok (.if_icmp .ne 7, 3) := by decide +kernel
theorem dX4_isDone_37 : decode cX4_isDone 37 = .ok (.iconst 1, 1) := by decide +kernel
theorem dX4_isDone_38 : decode cX4_isDone 38 = .ok (.goto 4, 3) := by decide +kernel
theorem dX4_isDone_41 : decode cX4_isDone 41 = .ok (.iconst 0, 1) := by decide +kernel
theorem dX4_isDone_42 : decode cX4_isDone 42 = .ok (.istore_n 2, 1) := by decide +kernel
theorem dX4_isDone_43 : decode cX4_isDone 43 = .ok (.iinc 3 1, 3) := by decide +kernel
theorem dX4_isDone_46 : decode cX4_isDone 46 = .ok (.goto (-42), 3) := by decide +kernel
theorem dX4_isDone_49 : decode cX4_isDone 49 = .ok (.iload_n 2, 1) := by decide +kernel
theorem dX4_isDone_50 : decode cX4_isDone 50 = .ok (.ireturn, 1) := by decide +kernel
theorem dX4_mayWeave_0 : decode cX4_mayWeave 0 = .ok (.iconst 4, 1) := by decide +kernel
theorem dX4_mayWeave_1 : decode cX4_mayWeave 1 = .ok (.iload_n 1, 1) := by decide +kernel
theorem dX4_mayWeave_2 : decode cX4_mayWeave 2 = .ok (.imul, 1) := by decide +kernel
theorem dX4_mayWeave_3 : decode cX4_mayWeave 3 = .ok (.iload_n 2, 1) := by decide +kernel
theorem dX4_mayWeave_4 : decode cX4_mayWeave 4 = .ok (.iadd, 1) := by decide +kernel
theorem dX4_mayWeave_5 : decode cX4_mayWeave 5 = .ok (.istore_n 3, 1) := by decide +kernel
theorem dX4_mayWeave_6 : decode cX4_mayWeave 6 = .ok (.iload_n 2, 1) := by decide +kernel
theorem dX4_mayWeave_7 : decode cX4_mayWeave 7 = .ok (.ifCond .le 24, 3) := by decide +kernel
theorem dX4_mayWeave_10 : decode cX4_mayWeave 10 = .ok (.aload_n 0, 1) := by decide +kernel
theorem dX4_mayWeave_11 : decode cX4_mayWeave 11 = .ok (.getfield 56, 3) := by decide +kernel
theorem dX4_mayWeave_14 : decode cX4_mayWeave 14 = .ok (.iload_n 3, 1) := by decide +kernel
theorem dX4_mayWeave_15 : decode cX4_mayWeave 15 = .ok (.iconst 1, 1) := by decide +kernel
theorem dX4_mayWeave_16 : decode cX4_mayWeave 16 = .ok (.isub, 1) := by decide +kernel
theorem dX4_mayWeave_17 : decode cX4_mayWeave 17 = .ok (.iaload, 1) := by decide +kernel
theorem dX4_mayWeave_18 : decode cX4_mayWeave 18 = .ok (.aload_n 0, 1) := by decide +kernel
theorem dX4_mayWeave_19 : decode cX4_mayWeave 19 = .ok (.getfield 56, 3) := by decide +kernel
theorem dX4_mayWeave_22 : decode cX4_mayWeave 22 = .ok (.iload_n 3, 1) := by decide +kernel
theorem dX4_mayWeave_23 : decode cX4_mayWeave 23 = .ok (.iaload, 1) := by decide +kernel
theorem dX4_mayWeave_24 : decode cX4_mayWeave 24 = .ok (.if_icmp .ge 7, 3) := by decide +kernel
theorem dX4_mayWeave_27 : decode cX4_mayWeave 27 = .ok (.iconst 1, 1) := by decide +kernel
theorem dX4_mayWeave_28 : decode cX4_mayWeave 28 = .ok (.goto 4, 3) := by decide +kernel
theorem dX4_mayWeave_31 : decode cX4_mayWeave 31 = .ok (.iconst 0, 1) := by decide +kernel
theorem dX4_mayWeave_32 : decode cX4_mayWeave 32 = .ok (.istore 4, 2) := by decide +kernel
theorem dX4_mayWeave_34 : decode cX4_mayWeave 34 = .ok (.iload_n 2, 1) := by decide +kernel
theorem dX4_mayWeave_35 : decode cX4_mayWeave 35 = .ok (.aload_n 0, 1) := by decide +kernel
theorem dX4_mayWeave_36 : decode cX4_mayWeave 36 = .ok (.getfield 50, 3) := by decide +kernel
theorem dX4_mayWeave_39 : decode cX4_mayWeave 39 = .ok (.iload_n 1, 1) := by decide +kernel
theorem dX4_mayWeave_40 : decode cX4_mayWeave 40 = .ok (.iaload, 1) := by decide +kernel
theorem dX4_mayWeave_41 : decode cX4_mayWeave 41 = .ok (.iconst 1, 1) := by decide +kernel
theorem dX4_mayWeave_42 : decode cX4_mayWeave 42 = .ok (.isub, 1) := by decide +kernel
theorem dX4_mayWeave_43 : decode cX4_mayWeave 43 = .ok (.if_icmp .ge 24, 3) := by decide +kernel
theorem dX4_mayWeave_46 : decode cX4_mayWeave 46 = .ok (.aload_n 0, 1) := by decide +kernel
theorem dX4_mayWeave_47 : decode cX4_mayWeave 47 = .ok (.getfield 56, 3) := by decide +kernel
theorem dX4_mayWeave_50 : decode cX4_mayWeave 50 = .ok (.iload_n 3, 1) := by decide +kernel
theorem dX4_mayWeave_51 : decode cX4_mayWeave 51 = .ok (.iconst 1, 1) := by decide +kernel
theorem dX4_mayWeave_52 : decode cX4_mayWeave 52 = .ok (.iadd, 1) := by decide +kernel
theorem dX4_mayWeave_53 : decode cX4_mayWeave 53 = .ok (.iaload, 1) := by decide +kernel
theorem dX4_mayWeave_54 : decode cX4_mayWeave 54 = .ok (.aload_n 0, 1) := by decide +kernel
theorem dX4_mayWeave_55 : decode cX4_mayWeave 55 = .ok (.getfield 56, 3) := by decide +kernel
theorem dX4_mayWeave_58 : decode cX4_mayWeave 58 = .ok (.iload_n 3, 1) := by decide +kernel
theorem dX4_mayWeave_59 : decode cX4_mayWeave 59 = .ok (.iaload, 1) := by decide +kernel
theorem dX4_mayWeave_60 : decode cX4_mayWeave 60 = .ok (.if_icmp .ge 7, 3) := by decide +kernel
theorem dX4_mayWeave_63 : decode cX4_mayWeave 63 = .ok (.iconst 1, 1) := by decide +kernel
theorem dX4_mayWeave_64 : decode cX4_mayWeave 64 = .ok (.goto 4, 3) := by decide +kernel
theorem dX4_mayWeave_67 : decode cX4_mayWeave 67 = .ok (.iconst 0, 1) := by decide +kernel
theorem dX4_mayWeave_68 : decode cX4_mayWeave 68 = .ok (.istore 5, 2) := by decide +kernel
theorem dX4_mayWeave_70 : decode cX4_mayWeave 70 = .ok (.aload_n 0, 1) := by decide +kernel
theorem dX4_mayWeave_71 : decode cX4_mayWeave 71 = .ok (.getfield 56, 3) := by decide +kernel
theorem dX4_mayWeave_74 : decode cX4_mayWeave 74 = .ok (.iload_n 3, 1) := by decide +kernel
theorem dX4_mayWeave_75 : decode cX4_mayWeave 75 = .ok (.iaload, 1) := by decide +kernel
theorem dX4_mayWeave_76 : decode cX4_mayWeave 76 = .ok (.aload_n 0, 1) := by decide +kernel
theorem dX4_mayWeave_77 : decode cX4_mayWeave 77 = .ok (.getfield 47, 3) := by decide +kernel
theorem dX4_mayWeave_80 : decode cX4_mayWeave 80 = .ok (.iload_n 1, 1) := by decide +kernel
theorem dX4_mayWeave_81 : decode cX4_mayWeave 81 = .ok (.iaload, 1) := by decide +kernel
theorem dX4_mayWeave_82 : decode cX4_mayWeave 82 = .ok (.if_icmp .ge 17, 3) := by decide +kernel
theorem dX4_mayWeave_85 : decode cX4_mayWeave 85 = .ok (.iload 4, 2) := by decide +kernel
theorem dX4_mayWeave_87 : decode cX4_mayWeave 87 = .ok (.ifCond .ne 12, 3) := by decide +kernel
theorem dX4_mayWeave_90 : decode cX4_mayWeave 90 = .ok (.iload 5, 2) := by decide +kernel
theorem dX4_mayWeave_92 : decode cX4_mayWeave 92 = .ok (.ifCond .ne 7, 3) := by decide +kernel
theorem dX4_mayWeave_95 : decode cX4_mayWeave 95 = .ok (.iconst 1, 1) := by decide +kernel
theorem dX4_mayWeave_96 : decode cX4_mayWeave 96 = .ok (.goto 4, 3) := by decide +kernel
theorem dX4_mayWeave_99 : decode cX4_mayWeave 99 = .ok (.iconst 0, 1) := by decide +kernel
theorem dX4_mayWeave_100 : decode cX4_mayWeave 100 = .ok (.ireturn, 1) := by decide +kernel
theorem dX4_giver_0 : decode cX4_giver 0 = .ok (.iconst (-1), 1) := by decide +kernel
theorem dX4_giver_1 : decode cX4_giver 1 = .ok (.istore_n 2, 1) := by decide +kernel
theorem dX4_giver_2 : decode cX4_giver 2 = .ok (.aload_n 0, 1) := by decide +kernel
theorem dX4_giver_3 : decode cX4_giver 3 = .ok (.getfield 112, 3) := by decide +kernel
theorem dX4_giver_6 : decode cX4_giver 6 = .ok (.iconst 1, 1) := by decide +kernel
theorem dX4_giver_7 : decode cX4_giver 7 = .ok (.isub, 1) := by decide +kernel
theorem dX4_giver_8 : decode cX4_giver 8 = .ok (.istore_n 3, 1) := by decide +kernel
theorem dX4_giver_9 : decode cX4_giver 9 = .ok (.iload_n 3, 1) := by decide +kernel
theorem dX4_giver_10 : decode cX4_giver 10 = .ok (.ifCond .lt 34, 3) := by decide +kernel
theorem dX4_giver_13 : decode cX4_giver 13 = .ok (.aload_n 0, 1) := by decide +kernel
theorem dX4_giver_14 : decode cX4_giver 14 = .ok (.getfield 28, 3) := by decide +kernel
theorem dX4_giver_17 : decode cX4_giver 17 = .ok (.iload_n 3, 1) := by decide +kernel
theorem dX4_giver_18 : decode cX4_giver 18 = .ok (.iaload, 1) := by decide +kernel
theorem dX4_giver_19 : decode cX4_giver 19 = .ok (.iload_n 1, 1) := by decide +kernel
theorem dX4_giver_20 : decode cX4_giver 20 = .ok (.if_icmp .ne 16, 3) := by decide +kernel
theorem dX4_giver_23 : decode cX4_giver 23 = .ok (.aload_n 0, 1) := by decide +kernel
theorem dX4_giver_24 : decode cX4_giver 24 = .ok (.getfield 34, 3) := by decide +kernel
theorem dX4_giver_27 : decode cX4_giver 27 = .ok (.iload_n 3, 1) := by decide +kernel
theorem dX4_giver_28 : decode cX4_giver 28 = .ok (.iaload, 1) := by decide +kernel
theorem dX4_giver_29 : decode cX4_giver 29 = .ok (.ifCond .le 7, 3) := by decide +kernel
theorem dX4_giver_32 : decode cX4_giver 32 = .ok (.iload_n 3, 1) := by decide +kernel
theorem dX4_giver_33 : decode cX4_giver 33 = .ok (.goto 4, 3) := by decide +kernel
theorem dX4_giver_36 : decode cX4_giver 36 = .ok (.iload_n 2, 1) := by decide +kernel
theorem dX4_giver_37 : decode cX4_giver 37 = .ok (.istore_n 2, 1) := by decide +kernel
theorem dX4_giver_38 : decode cX4_giver 38 = .ok (.iinc 3 (-1), 3) := by decide +kernel
theorem dX4_giver_41 : decode cX4_giver 41 = .ok (.goto (-32), 3) := by decide +kernel
theorem dX4_giver_44 : decode cX4_giver 44 = .ok (.iload_n 2, 1) := by decide +kernel
theorem dX4_giver_45 : decode cX4_giver 45 = .ok (.ireturn, 1) := by decide +kernel
theorem dX4_weaves_0 : decode cX4_weaves 0 = .ok (.iload_n 3, 1) := by decide +kernel
theorem dX4_weaves_1 : decode cX4_weaves 1 = .ok (.istore 5, 2) := by decide +kernel
theorem dX4_weaves_3 : decode cX4_weaves 3 = .ok (.iconst 1, 1) := by decide +kernel
theorem dX4_weaves_4 : decode cX4_weaves 4 = .ok (.istore 6, 2) := by decide +kernel
theorem dX4_weaves_6 : decode cX4_weaves 6 = .ok (.iload 5, 2) := by decide +kernel
theorem dX4_weaves_8 : decode cX4_weaves 8 = .ok (.iload 4, 2) := by decide +kernel
theorem dX4_weaves_10 : decode cX4_weaves 10 = .ok (.if_icmp .ge 83, 3) := by decide +kernel
theorem dX4_weaves_13 : decode cX4_weaves 13 = .ok (.iload 6, 2) := by decide +kernel
theorem dX4_weaves_15 : decode cX4_weaves 15 = .ok (.ifCond .eq 78, 3) := by decide +kernel
theorem dX4_weaves_18 : decode cX4_weaves 18 = .ok (.iload_n 1, 1) := by decide +kernel
theorem dX4_weaves_19 : decode cX4_weaves 19 = .ok (.iload 5, 2) := by decide +kernel
theorem dX4_weaves_21 : decode cX4_weaves 21 = .ok (.iload_n 2, 1) := by decide +kernel
theorem dX4_weaves_22 : decode cX4_weaves 22 = .ok (.invokestatic 115, 3) := by decide +kernel
theorem dX4_weaves_25 : decode cX4_weaves 25 = .ok (.istore 7, 2) := by decide +kernel
theorem dX4_weaves_27 : decode cX4_weaves 27 = .ok (.aload_n 0, 1) := by decide +kernel
theorem dX4_weaves_28 : decode cX4_weaves 28 = .ok (.aload_n 0, 1) := by decide +kernel
theorem dX4_weaves_29 : decode cX4_weaves 29 = .ok (.getfield 71, 3) := by decide +kernel
theorem dX4_weaves_32 : decode cX4_weaves 32 = .ok (.iload 7, 2) := by decide +kernel
theorem dX4_weaves_34 : decode cX4_weaves 34 = .ok (.iaload, 1) := by decide +kernel
theorem dX4_weaves_35 : decode cX4_weaves 35 = .ok (.invokevirtual 130, 3) := by decide +kernel
theorem dX4_weaves_38 : decode cX4_weaves 38 = .ok (.istore 8, 2) := by decide +kernel
theorem dX4_weaves_40 : decode cX4_weaves 40 = .ok (.iload 8, 2) := by decide +kernel
theorem dX4_weaves_42 : decode cX4_weaves 42 = .ok (.iconst (-1), 1) := by decide +kernel
theorem dX4_weaves_43 : decode cX4_weaves 43 = .ok (.if_icmp .eq 7, 3) := by decide +kernel
theorem dX4_weaves_46 : decode cX4_weaves 46 = .ok (.iconst 1, 1) := by decide +kernel
theorem dX4_weaves_47 : decode cX4_weaves 47 = .ok (.goto 4, 3) := by decide +kernel
theorem dX4_weaves_50 : decode cX4_weaves 50 = .ok (.iconst 0, 1) := by decide +kernel
theorem dX4_weaves_51 : decode cX4_weaves 51 = .ok (.istore 6, 2) := by decide +kernel
theorem dX4_weaves_53 : decode cX4_weaves 53 = .ok (.iload 6, 2) := by decide +kernel
theorem dX4_weaves_55 : decode cX4_weaves 55 = .ok (.ifCond .eq 35, 3) := by decide +kernel
theorem dX4_weaves_58 : decode cX4_weaves 58 = .ok (.aload_n 0, 1) := by decide +kernel
theorem dX4_weaves_59 : decode cX4_weaves 59 = .ok (.getfield 34, 3) := by decide +kernel
theorem dX4_weaves_62 : decode cX4_weaves 62 = .ok (.iload 8, 2) := by decide +kernel
theorem dX4_weaves_64 : decode cX4_weaves 64 = .ok (.dup2, 1) := by decide +kernel
theorem dX4_weaves_65 : decode cX4_weaves 65 = .ok (.iaload, 1) := by decide +kernel
theorem dX4_weaves_66 : decode cX4_weaves 66 = .ok (.iconst 1, 1) := by decide +kernel
theorem dX4_weaves_67 : decode cX4_weaves 67 = .ok (.isub, 1) := by decide +kernel
theorem dX4_weaves_68 : decode cX4_weaves 68 = .ok (.iastore, 1) := by decide +kernel
theorem dX4_weaves_69 : decode cX4_weaves 69 = .ok (.aload_n 0, 1) := by decide +kernel
theorem dX4_weaves_70 : decode cX4_weaves 70 = .ok (.getfield 74, 3) := by decide +kernel
theorem dX4_weaves_73 : decode cX4_weaves 73 = .ok (.iload 7, 2) := by decide +kernel
theorem dX4_weaves_75 : decode cX4_weaves 75 = .ok (.iload 8, 2) := by decide +kernel
theorem dX4_weaves_77 : decode cX4_weaves 77 = .ok (.iastore, 1) := by decide +kernel
theorem dX4_weaves_78 : decode cX4_weaves 78 = .ok (.aload_n 0, 1) := by decide +kernel
theorem dX4_weaves_79 : decode cX4_weaves 79 = .ok (.getfield 77, 3) := by decide +kernel
theorem dX4_weaves_82 : decode cX4_weaves 82 = .ok (.iload 7, 2) := by decide +kernel
theorem dX4_weaves_84 : decode cX4_weaves 84 = .ok (.bipush 100, 2) := by decide +kernel
theorem dX4_weaves_86 : decode cX4_weaves 86 = .ok (.iastore, 1) := by decide +kernel
theorem dX4_weaves_87 : decode cX4_weaves 87 = .ok (.iinc 5 1, 3) := by decide +kernel
theorem dX4_weaves_90 : decode cX4_weaves 90 = .ok (.goto (-84), 3) := by decide +kernel
theorem dX4_weaves_93 : decode cX4_weaves 93 = .ok (.iload_n 3, 1) := by decide +kernel
theorem dX4_weaves_94 : decode cX4_weaves 94 = .ok (.istore 7, 2) := by decide +kernel
theorem dX4_weaves_96 : decode cX4_weaves 96 = .ok (.iload 7, 2) := by decide +kernel
theorem dX4_weaves_98 : decode cX4_weaves 98 = .ok (.iload 5, 2) := by decide +kernel
theorem dX4_weaves_100 : decode cX4_weaves 100 = .ok (.if_icmp .ge 55, 3) := by decide +kernel
theorem dX4_weaves_103 : decode cX4_weaves 103 = .ok (.iload 6, 2) := by decide +kernel
theorem dX4_weaves_105 : decode cX4_weaves 105 = .ok (.ifCond .ne 50, 3) := by decide +kernel
theorem dX4_weaves_108 : decode cX4_weaves 108 = .ok (.iload_n 1, 1) := by decide +kernel
theorem dX4_weaves_109 : decode cX4_weaves 109 = .ok (.iload 7, 2) := by decide +kernel
theorem dX4_weaves_111 : decode cX4_weaves 111 = .ok (.iload_n 2, 1) := by decide +kernel
theorem dX4_weaves_112 : decode cX4_weaves 112 = .ok (.invokestatic 115, 3) := by decide +kernel
theorem dX4_weaves_115 : decode cX4_weaves 115 = .ok (.istore 8, 2) := by decide +kernel
theorem dX4_weaves_117 : decode cX4_weaves 117 = .ok (.aload_n 0, 1) := by decide +kernel
theorem dX4_weaves_118 : decode cX4_weaves 118 = .ok (.getfield 34, 3) := by decide +kernel
theorem dX4_weaves_121 : decode cX4_weaves 121 = .ok (.aload_n 0, 1) := by decide +kernel
theorem dX4_weaves_122 : decode cX4_weaves 122 = .ok (.getfield 74, 3) := by decide +kernel
theorem dX4_weaves_125 : decode cX4_weaves 125 = .ok (.iload 8, 2) := by decide +kernel
theorem dX4_weaves_127 : decode cX4_weaves 127 = .ok (.iaload, 1) := by decide +kernel
theorem dX4_weaves_128 : decode cX4_weaves 128 = .ok (.dup2, 1) := by decide +kernel
theorem dX4_weaves_129 : decode cX4_weaves 129 = .ok (.iaload, 1) := by decide +kernel
theorem dX4_weaves_130 : decode cX4_weaves 130 = .ok (.iconst 1, 1) := by decide +kernel
theorem dX4_weaves_131 : decode cX4_weaves 131 = .ok (.iadd, 1) := by decide +kernel
theorem dX4_weaves_132 : decode cX4_weaves 132 = .ok (.iastore, 1) := by decide +kernel
theorem dX4_weaves_133 : decode cX4_weaves 133 = .ok (.aload_n 0, 1) := by decide +kernel
theorem dX4_weaves_134 : decode cX4_weaves 134 = .ok (.getfield 74, 3) := by decide +kernel
theorem dX4_weaves_137 : decode cX4_weaves 137 = .ok (.iload 8, 2) := by decide +kernel
theorem dX4_weaves_139 : decode cX4_weaves 139 = .ok (.iconst (-1), 1) := by decide +kernel
theorem dX4_weaves_140 : decode cX4_weaves 140 = .ok (.iastore, 1) := by decide +kernel
theorem dX4_weaves_141 : decode cX4_weaves 141 = .ok (.aload_n 0, 1) := by decide +kernel
theorem dX4_weaves_142 : decode cX4_weaves 142 = .ok (.getfield 77, 3) := by decide +kernel
theorem dX4_weaves_145 : decode cX4_weaves 145 = .ok (.iload 8, 2) := by decide +kernel
theorem dX4_weaves_147 : decode cX4_weaves 147 = .ok (.iconst 0, 1) := by decide +kernel
theorem dX4_weaves_148 : decode cX4_weaves 148 = .ok (.iastore, 1) := by decide +kernel
theorem dX4_weaves_149 : decode cX4_weaves 149 = .ok (.iinc 7 1, 3) := by decide +kernel
theorem dX4_weaves_152 : decode cX4_weaves 152 = .ok (.goto (-56), 3) := by decide +kernel
theorem dX4_weaves_155 : decode cX4_weaves 155 = .ok (.iload 6, 2) := by decide +kernel
theorem dX4_weaves_157 : decode cX4_weaves 157 = .ok (.ireturn, 1) := by decide +kernel
theorem dX4_weave_0 : decode cX4_weave 0 = .ok (.aload_n 0, 1) := by decide +kernel
theorem dX4_weave_1 : decode cX4_weave 1 = .ok (.iload_n 1, 1) := by decide +kernel
theorem dX4_weave_2 : decode cX4_weave 2 = .ok (.invokevirtual 133, 3) := by decide +kernel
theorem dX4_weave_5 : decode cX4_weave 5 = .ok (.ifCond .eq 35, 3) := by decide +kernel
theorem dX4_weave_8 : decode cX4_weave 8 = .ok (.iload_n 2, 1) := by decide +kernel
theorem dX4_weave_9 : decode cX4_weave 9 = .ok (.iconst 0, 1) := by decide +kernel
theorem dX4_weave_10 : decode cX4_weave 10 = .ok (.aload_n 0, 1) := by decide +kernel
theorem dX4_weave_11 : decode cX4_weave 11 = .ok (.getfield 50, 3) := by decide +kernel
theorem dX4_weave_14 : decode cX4_weave 14 = .ok (.aload_n 0, 1) := by decide +kernel
theorem dX4_weave_15 : decode cX4_weave 15 = .ok (.iload_n 1, 1) := by decide +kernel
theorem dX4_weave_16 : decode cX4_weave 16 = .ok (.invokevirtual 133, 3) := by decide +kernel
theorem dX4_weave_19 : decode cX4_weave 19 = .ok (.ifCond .eq 7, 3) := by decide +kernel
theorem dX4_weave_22 : decode cX4_weave 22 = .ok (.iload_n 1, 1) := by decide +kernel
theorem dX4_weave_23 : decode cX4_weave 23 = .ok (.goto 4, 3) := by decide +kernel
theorem dX4_weave_26 : decode cX4_weave 26 = .ok (.iconst 0, 1) := by decide +kernel
theorem dX4_weave_27 : decode cX4_weave 27 = .ok (.iaload, 1) := by decide +kernel
theorem dX4_weave_28 : decode cX4_weave 28 = .ok (.iconst 1, 1) := by decide +kernel
theorem dX4_weave_29 : decode cX4_weave 29 = .ok (.isub, 1) := by decide +kernel
theorem dX4_weave_30 : decode cX4_weave 30 = .ok (.invokestatic 87, 3) := by decide +kernel
theorem dX4_weave_33 : decode cX4_weave 33 = .ok (.ifCond .eq 7, 3) := by decide +kernel
theorem dX4_weave_36 : decode cX4_weave 36 = .ok (.iconst 1, 1) := by decide +kernel
theorem dX4_weave_37 : decode cX4_weave 37 = .ok (.goto 4, 3) := by decide +kernel
theorem dX4_weave_40 : decode cX4_weave 40 = .ok (.iconst 0, 1) := by decide +kernel
theorem dX4_weave_41 : decode cX4_weave 41 = .ok (.istore_n 3, 1) := by decide +kernel
theorem dX4_weave_42 : decode cX4_weave 42 = .ok (.iload_n 3, 1) := by decide +kernel
theorem dX4_weave_43 : decode cX4_weave 43 = .ok (.ifCond .eq 16, 3) := by decide +kernel
theorem dX4_weave_46 : decode cX4_weave 46 = .ok (.aload_n 0, 1) := by decide +kernel
theorem dX4_weave_47 : decode cX4_weave 47 = .ok (.getfield 56, 3) := by decide +kernel
theorem dX4_weave_50 : decode cX4_weave 50 = .ok (.iconst 4, 1) := by decide +kernel
theorem dX4_weave_51 : decode cX4_weave 51 = .ok (.iload_n 1, 1) := by decide +kernel
theorem dX4_weave_52 : decode cX4_weave 52 = .ok (.imul, 1) := by decide +kernel
theorem dX4_weave_53 : decode cX4_weave 53 = .ok (.iload_n 2, 1) := by decide +kernel
theorem dX4_weave_54 : decode cX4_weave 54 = .ok (.iadd, 1) := by decide +kernel
theorem dX4_weave_55 : decode cX4_weave 55 = .ok (.iaload, 1) := by decide +kernel
theorem dX4_weave_56 : decode cX4_weave 56 = .ok (.goto 4, 3) := by decide +kernel
theorem dX4_weave_59 : decode cX4_weave 59 = .ok (.iconst 0, 1) := by decide +kernel
theorem dX4_weave_60 : decode cX4_weave 60 = .ok (.istore 4, 2) := by decide +kernel
theorem dX4_weave_62 : decode cX4_weave 62 = .ok (.iload_n 3, 1) := by decide +kernel
theorem dX4_weave_63 : decode cX4_weave 63 = .ok (.ifCond .eq 21, 3) := by decide +kernel
theorem dX4_weave_66 : decode cX4_weave 66 = .ok (.iload_n 2, 1) := by decide +kernel
theorem dX4_weave_67 : decode cX4_weave 67 = .ok (.aload_n 0, 1) := by decide +kernel
theorem dX4_weave_68 : decode cX4_weave 68 = .ok (.getfield 59, 3) := by decide +kernel
theorem dX4_weave_71 : decode cX4_weave 71 = .ok (.iload_n 1, 1) := by decide +kernel
theorem dX4_weave_72 : decode cX4_weave 72 = .ok (.iaload, 1) := by decide +kernel
theorem dX4_weave_73 : decode cX4_weave 73 = .ok (.imul, 1) := by decide +kernel
theorem dX4_weave_74 : decode cX4_weave 74 = .ok (.aload_n 0, 1) := by decide +kernel
theorem dX4_weave_75 : decode cX4_weave 75 = .ok (.getfield 50, 3) := by decide +kernel
theorem dX4_weave_78 : decode cX4_weave 78 = .ok (.iload_n 1, 1) := by decide +kernel
theorem dX4_weave_79 : decode cX4_weave 79 = .ok (.iaload, 1) := by decide +kernel
theorem dX4_weave_80 : decode cX4_weave 80 = .ok (.idiv, 1) := by decide +kernel
theorem dX4_weave_81 : decode cX4_weave 81 = .ok (.goto 4, 3) := by decide +kernel
theorem dX4_weave_84 : decode cX4_weave 84 = .ok (.iconst 0, 1) := by decide +kernel
theorem dX4_weave_85 : decode cX4_weave 85 = .ok (.istore 5, 2) := by decide +kernel
theorem dX4_weave_87 : decode cX4_weave 87 = .ok (.iload_n 3, 1) := by decide +kernel
theorem dX4_weave_88 : decode cX4_weave 88 = .ok (.ifCond .eq 23, 3) := by decide +kernel
theorem dX4_weave_91 : decode cX4_weave 91 = .ok (.iload_n 2, 1) := by decide +kernel
theorem dX4_weave_92 : decode cX4_weave 92 = .ok (.iconst 1, 1) := by decide +kernel
theorem dX4_weave_93 : decode cX4_weave 93 = .ok (.iadd, 1) := by decide +kernel
theorem dX4_weave_94 : decode cX4_weave 94 = .ok (.aload_n 0, 1) := by decide +kernel
theorem dX4_weave_95 : decode cX4_weave 95 = .ok (.getfield 59, 3) := by decide +kernel
theorem dX4_weave_98 : decode cX4_weave 98 = .ok (.iload_n 1, 1) := by decide +kernel
theorem dX4_weave_99 : decode cX4_weave 99 = .ok (.iaload, 1) := by decide +kernel
theorem dX4_weave_100 : decode cX4_weave 100 = .ok (.imul, 1) := by decide +kernel
theorem dX4_weave_101 : decode cX4_weave 101 = .ok (.aload_n 0, 1) := by decide +kernel
theorem dX4_weave_102 : decode cX4_weave 102 = .ok (.getfield 50, 3) := by decide +kernel
theorem dX4_weave_105 : decode cX4_weave 105 = .ok (.iload_n 1, 1) := by decide +kernel
theorem dX4_weave_106 : decode cX4_weave 106 = .ok (.iaload, 1) := by decide +kernel
theorem dX4_weave_107 : decode cX4_weave 107 = .ok (.idiv, 1) := by decide +kernel
theorem dX4_weave_108 : decode cX4_weave 108 = .ok (.goto 4, 3) := by decide +kernel
theorem dX4_weave_111 : decode cX4_weave 111 = .ok (.iconst 0, 1) := by decide +kernel
theorem dX4_weave_112 : decode cX4_weave 112 = .ok (.istore 6, 2) := by decide +kernel
theorem dX4_weave_114 : decode cX4_weave 114 = .ok (.aload_n 0, 1) := by decide +kernel
theorem dX4_weave_115 : decode cX4_weave 115 = .ok (.iload_n 3, 1) := by decide +kernel
theorem dX4_weave_116 : decode cX4_weave 116 = .ok (.iload_n 3, 1) := by decide +kernel
theorem dX4_weave_117 : decode cX4_weave 117 = .ok (.ifCond .eq 30, 3) := by decide +kernel
theorem dX4_weave_120 : decode cX4_weave 120 = .ok (.aload_n 0, 1) := by decide +kernel
theorem dX4_weave_121 : decode cX4_weave 121 = .ok (.iload_n 1, 1) := by decide +kernel
theorem dX4_weave_122 : decode cX4_weave 122 = .ok (.iload_n 2, 1) := by decide +kernel
theorem dX4_weave_123 : decode cX4_weave 123 = .ok (.invokevirtual 136, 3) := by decide +kernel
theorem dX4_weave_126 : decode cX4_weave 126 = .ok (.ifCond .eq 21, 3) := by decide +kernel
theorem dX4_weave_129 : decode cX4_weave 129 = .ok (.aload_n 0, 1) := by decide +kernel
theorem dX4_weave_130 : decode cX4_weave 130 = .ok (.iload_n 1, 1) := by decide +kernel
theorem dX4_weave_131 : decode cX4_weave 131 = .ok (.iload 4, 2) := by decide +kernel
theorem dX4_weave_133 : decode cX4_weave 133 = .ok (.iload 5, 2) := by decide +kernel
theorem dX4_weave_135 : decode cX4_weave 135 = .ok (.iload 6, 2) := by decide +kernel
theorem dX4_weave_137 : decode cX4_weave 137 = .ok (.invokevirtual 140, 3) := by decide +kernel
theorem dX4_weave_140 : decode cX4_weave 140 = .ok (.ifCond .eq 7, 3) := by decide +kernel
theorem dX4_weave_143 : decode cX4_weave 143 = .ok (.iconst 1, 1) := by decide +kernel
theorem dX4_weave_144 : decode cX4_weave 144 = .ok (.goto 4, 3) := by decide +kernel
theorem dX4_weave_147 : decode cX4_weave 147 = .ok (.iconst 0, 1) := by decide +kernel
theorem dX4_weave_148 : decode cX4_weave 148 = .ok (.iconst 1, 1) := by decide +kernel
theorem dX4_weave_149 : decode cX4_weave 149 = .ok (.invokevirtual 101, 3) := by decide +kernel
theorem dX4_weave_152 : decode cX4_weave 152 = .ok (.ifCond .ne 5, 3) := by decide +kernel
theorem dX4_weave_155 : decode cX4_weave 155 = .ok (.iconst 0, 1) := by decide +kernel
theorem dX4_weave_156 : decode cX4_weave 156 = .ok (.ireturn, 1) := by decide +kernel
theorem dX4_weave_157 : decode cX4_weave 157 = .ok (.aload_n 0, 1) := by decide +kernel
theorem dX4_weave_158 : decode cX4_weave 158 = .ok (.getfield 56, 3) := by decide +kernel
theorem dX4_weave_161 : decode cX4_weave 161 = .ok (.iconst 4, 1) := by decide +kernel
theorem dX4_weave_162 : decode cX4_weave 162 = .ok (.iload_n 1, 1) := by decide +kernel
theorem dX4_weave_163 : decode cX4_weave 163 = .ok (.imul, 1) := by decide +kernel
theorem dX4_weave_164 : decode cX4_weave 164 = .ok (.iload_n 2, 1) := by decide +kernel
theorem dX4_weave_165 : decode cX4_weave 165 = .ok (.iadd, 1) := by decide +kernel
theorem dX4_weave_166 : decode cX4_weave 166 = .ok (.dup2, 1) := by decide +kernel
theorem dX4_weave_167 : decode cX4_weave 167 = .ok (.iaload, 1) := by decide +kernel
theorem dX4_weave_168 : decode cX4_weave 168 = .ok (.iconst 1, 1) := by decide +kernel
theorem dX4_weave_169 : decode cX4_weave 169 = .ok (.iadd, 1) := by decide +kernel
theorem dX4_weave_170 : decode cX4_weave 170 = .ok (.iastore, 1) := by decide +kernel
theorem dX4_weave_171 : decode cX4_weave 171 = .ok (.iload 4, 2) := by decide +kernel
theorem dX4_weave_173 : decode cX4_weave 173 = .ok (.ireturn, 1) := by decide +kernel
theorem dX4_isUnlike_0 : decode cX4_isUnlike 0 = .ok (.aload_n 0, 1) := by decide +kernel
theorem dX4_isUnlike_1 : decode cX4_isUnlike 1 = .ok (.getfield 71, 3) := by decide +kernel
theorem dX4_isUnlike_4 : decode cX4_isUnlike 4 = .ok (.iload_n 1, 1) := by decide +kernel
theorem dX4_isUnlike_5 : decode cX4_isUnlike 5 = .ok (.iload_n 2, 1) := by decide +kernel
theorem dX4_isUnlike_6 : decode cX4_isUnlike 6 = .ok (.iconst 1, 1) := by decide +kernel
theorem dX4_isUnlike_7 : decode cX4_isUnlike 7 = .ok (.isub, 1) := by decide +kernel
theorem dX4_isUnlike_8 : decode cX4_isUnlike 8 = .ok (.iload_n 3, 1) := by decide +kernel
theorem dX4_isUnlike_9 : decode cX4_isUnlike 9 = .ok (.invokestatic 115, 3) := by decide +kernel
theorem dX4_isUnlike_12 : decode cX4_isUnlike 12 = .ok (.iaload, 1) := by decide +kernel
theorem dX4_isUnlike_13 : decode cX4_isUnlike 13 = .ok (.aload_n 0, 1) := by decide +kernel
theorem dX4_isUnlike_14 : decode cX4_isUnlike 14 = .ok (.getfield 71, 3) := by decide +kernel
theorem dX4_isUnlike_17 : decode cX4_isUnlike 17 = .ok (.iload_n 1, 1) := by decide +kernel
theorem dX4_isUnlike_18 : decode cX4_isUnlike 18 = .ok (.iload_n 2, 1) := by decide +kernel
theorem dX4_isUnlike_19 : decode cX4_isUnlike 19 = .ok (.iload_n 3, 1) := by decide +kernel
theorem dX4_isUnlike_20 : decode cX4_isUnlike 20 = .ok (.invokestatic 115, 3) := by decide +kernel
theorem dX4_isUnlike_23 : decode cX4_isUnlike 23 = .ok (.iaload, 1) := by decide +kernel
theorem dX4_isUnlike_24 : decode cX4_isUnlike 24 = .ok (.if_icmp .eq 7, 3) := by decide +kernel
theorem dX4_isUnlike_27 : decode cX4_isUnlike 27 = .ok (.iconst 1, 1) := by decide +kernel
theorem dX4_isUnlike_28 : decode cX4_isUnlike 28 = .ok (.goto 4, 3) := by decide +kernel
theorem dX4_isUnlike_31 : decode cX4_isUnlike 31 = .ok (.iconst 0, 1) := by decide +kernel
theorem dX4_isUnlike_32 : decode cX4_isUnlike 32 = .ok (.ireturn, 1) := by decide +kernel
theorem dX4_isSlit_0 : decode cX4_isSlit 0 = .ok (.iconst 0, 1) := by decide +kernel
theorem dX4_isSlit_1 : decode cX4_isSlit 1 = .ok (.istore_n 3, 1) := by decide +kernel
theorem dX4_isSlit_2 : decode cX4_isSlit 2 = .ok (.iconst 0, 1) := by decide +kernel
theorem dX4_isSlit_3 : decode cX4_isSlit 3 = .ok (.istore 4, 2) := by decide +kernel
theorem dX4_isSlit_5 : decode cX4_isSlit 5 = .ok (.iconst 0, 1) := by decide +kernel
theorem dX4_isSlit_6 : decode cX4_isSlit 6 = .ok (.istore 5, 2) := by decide +kernel
theorem dX4_isSlit_8 : decode cX4_isSlit 8 = .ok (.iload 5, 2) := by decide +kernel
theorem dX4_isSlit_10 : decode cX4_isSlit 10 = .ok (.aload_n 0, 1) := by decide +kernel
theorem dX4_isSlit_11 : decode cX4_isSlit 11 = .ok (.getfield 47, 3) := by decide +kernel
theorem dX4_isSlit_14 : decode cX4_isSlit 14 = .ok (.iload_n 1, 1) := by decide +kernel
theorem dX4_isSlit_15 : decode cX4_isSlit 15 = .ok (.iaload, 1) := by decide +kernel
theorem dX4_isSlit_16 : decode cX4_isSlit 16 = .ok (.if_icmp .ge 45, 3) := by decide +kernel
theorem dX4_isSlit_19 : decode cX4_isSlit 19 = .ok (.aload_n 0, 1) := by decide +kernel
theorem dX4_isSlit_20 : decode cX4_isSlit 20 = .ok (.iload_n 1, 1) := by decide +kernel
theorem dX4_isSlit_21 : decode cX4_isSlit 21 = .ok (.iload_n 2, 1) := by decide +kernel
theorem dX4_isSlit_22 : decode cX4_isSlit 22 = .ok (.iload 5, 2) := by decide +kernel
theorem dX4_isSlit_24 : decode cX4_isSlit 24 = .ok (.invokevirtual 144, 3) := by decide +kernel
theorem dX4_isSlit_27 : decode cX4_isSlit 27 = .ok (.ifCond .eq 9, 3) := by decide +kernel
theorem dX4_isSlit_30 : decode cX4_isSlit 30 = .ok (.iload_n 3, 1) := by decide +kernel
theorem dX4_isSlit_31 : decode cX4_isSlit 31 = .ok (.iconst 1, 1) := by decide +kernel
theorem dX4_isSlit_32 : decode cX4_isSlit 32 = .ok (.iadd, 1) := by decide +kernel
theorem dX4_isSlit_33 : decode cX4_isSlit 33 = .ok (.goto 4, 3) := by decide +kernel
theorem dX4_isSlit_36 : decode cX4_isSlit 36 = .ok (.iconst 0, 1) := by decide +kernel
theorem dX4_isSlit_37 : decode cX4_isSlit 37 = .ok (.istore_n 3, 1) := by decide +kernel
theorem dX4_isSlit_38 : decode cX4_isSlit 38 = .ok (.iload 4, 2) := by decide +kernel
theorem dX4_isSlit_40 : decode cX4_isSlit 40 = .ok (.ifCond .ne 8, 3) := by decide +kernel
theorem dX4_isSlit_43 : decode cX4_isSlit 43 = .ok (.iload_n 3, 1) := by decide +kernel
theorem dX4_isSlit_44 : decode cX4_isSlit 44 = .ok (.iconst 3, 1) := by decide +kernel
theorem dX4_isSlit_45 : decode cX4_isSlit 45 = .ok (.if_icmp .ne 7, 3) := by decide +kernel
theorem dX4_isSlit_48 : decode cX4_isSlit 48 = .ok (.iconst 1, 1) := by decide +kernel
theorem dX4_isSlit_49 : decode cX4_isSlit 49 = .ok (.goto 4, 3) := by decide +kernel
theorem dX4_isSlit_52 : decode cX4_isSlit 52 = .ok (.iconst 0, 1) := by decide +kernel
theorem dX4_isSlit_53 : decode cX4_isSlit 53 = .ok (.istore 4, 2) := by decide +kernel
theorem dX4_isSlit_55 : decode cX4_isSlit 55 = .ok (.iinc 5 1, 3) := by decide +kernel
theorem dX4_isSlit_58 : decode cX4_isSlit 58 = .ok (.goto (-50), 3) := by decide +kernel
theorem dX4_isSlit_61 : decode cX4_isSlit 61 = .ok (.iload 4, 2) := by decide +kernel
theorem dX4_isSlit_63 : decode cX4_isSlit 63 = .ok (.ifCond .eq 21, 3) := by decide +kernel
theorem dX4_isSlit_66 : decode cX4_isSlit 66 = .ok (.aload_n 0, 1) := by decide +kernel
theorem dX4_isSlit_67 : decode cX4_isSlit 67 = .ok (.getfield 68, 3) := by decide +kernel
theorem dX4_isSlit_70 : decode cX4_isSlit 70 = .ok (.bipush 24, 2) := by decide +kernel
theorem dX4_isSlit_72 : decode cX4_isSlit 72 = .ok (.iload_n 1, 1) := by decide +kernel
theorem dX4_isSlit_73 : decode cX4_isSlit 73 = .ok (.imul, 1) := by decide +kernel
theorem dX4_isSlit_74 : decode cX4_isSlit 74 = .ok (.iload_n 2, 1) := by decide +kernel
theorem dX4_isSlit_75 : decode cX4_isSlit 75 = .ok (.iadd, 1) := by decide +kernel
theorem dX4_isSlit_76 : decode cX4_isSlit 76 = .ok (.baload, 1) := by decide +kernel
theorem dX4_isSlit_77 : decode cX4_isSlit 77 = .ok (.ifCond .ne 7, 3) := by decide +kernel
theorem dX4_isSlit_80 : decode cX4_isSlit 80 = .ok (.iconst 1, 1) := by decide +kernel
theorem dX4_isSlit_81 : decode cX4_isSlit 81 = .ok (.goto 4, 3) := by decide +kernel
theorem dX4_isSlit_84 : decode cX4_isSlit 84 = .ok (.iconst 0, 1) := by decide +kernel
theorem dX4_isSlit_85 : decode cX4_isSlit 85 = .ok (.ireturn, 1) := by decide +kernel
theorem dX4_slits_0 : decode cX4_slits 0 = .ok (.iconst 0, 1) := by decide +kernel
theorem dX4_slits_1 : decode cX4_slits 1 = .ok (.istore_n 2, 1) := by decide +kernel
theorem dX4_slits_2 : decode cX4_slits 2 = .ok (.iconst 1, 1) := by decide +kernel
theorem dX4_slits_3 : decode cX4_slits 3 = .ok (.istore_n 3, 1) := by decide +kernel
theorem dX4_slits_4 : decode cX4_slits 4 = .ok (.iload_n 3, 1) := by decide +kernel
theorem dX4_slits_5 : decode cX4_slits 5 = .ok (.aload_n 0, 1) := by decide +kernel
theorem dX4_slits_6 : decode cX4_slits 6 = .ok (.getfield 44, 3) := by decide +kernel
theorem dX4_slits_9 : decode cX4_slits 9 = .ok (.iload_n 1, 1) := by decide +kernel
theorem dX4_slits_10 : decode cX4_slits 10 = .ok (.iaload, 1) := by decide +kernel
theorem dX4_slits_11 : decode cX4_slits 11 = .ok (.if_icmp .ge 34, 3) := by decide +kernel
theorem dX4_slits_14 : decode cX4_slits 14 = .ok (.aload_n 0, 1) := by decide +kernel
theorem dX4_slits_15 : decode cX4_slits 15 = .ok (.iload_n 1, 1) := by decide +kernel
theorem dX4_slits_16 : decode cX4_slits 16 = .ok (.invokevirtual 147, 3) := by decide +kernel
theorem dX4_slits_19 : decode cX4_slits 19 = .ok (.ifCond .eq 26, 3) := by decide +kernel
theorem dX4_slits_22 : decode cX4_slits 22 = .ok (.iload_n 2, 1) := by decide +kernel
theorem dX4_slits_23 : decode cX4_slits 23 = .ok (.aload_n 0, 1) := by decide +kernel
theorem dX4_slits_24 : decode cX4_slits 24 = .ok (.iload_n 1, 1) := by decide +kernel
theorem dX4_slits_25 : decode cX4_slits 25 = .ok (.iload_n 3, 1) := by decide +kernel
theorem dX4_slits_26 : decode cX4_slits 26 = .ok (.invokevirtual 150, 3) := by decide +kernel
theorem dX4_slits_29 : decode cX4_slits 29 = .ok (.ifCond .eq 7, 3) := by decide +kernel
theorem dX4_slits_32 : decode cX4_slits 32 = .ok (.iconst 1, 1) := by decide +kernel
theorem dX4_slits_33 : decode cX4_slits 33 = .ok (.goto 4, 3) := by decide +kernel
theorem dX4_slits_36 : decode cX4_slits 36 = .ok (.iconst 0, 1) := by decide +kernel
theorem dX4_slits_37 : decode cX4_slits 37 = .ok (.iadd, 1) := by decide +kernel
theorem dX4_slits_38 : decode cX4_slits 38 = .ok (.istore_n 2, 1) := by decide +kernel
theorem dX4_slits_39 : decode cX4_slits 39 = .ok (.iinc 3 1, 3) := by decide +kernel
theorem dX4_slits_42 : decode cX4_slits 42 = .ok (.goto (-38), 3) := by decide +kernel
theorem dX4_slits_45 : decode cX4_slits 45 = .ok (.iload_n 2, 1) := by decide +kernel
theorem dX4_slits_46 : decode cX4_slits 46 = .ok (.ireturn, 1) := by decide +kernel
theorem dX4_shades_0 : decode cX4_shades 0 = .ok (.iconst 0, 1) := by decide +kernel
theorem dX4_shades_1 : decode cX4_shades 1 = .ok (.istore_n 2, 1) := by decide +kernel
theorem dX4_shades_2 : decode cX4_shades 2 = .ok (.iconst 0, 1) := by decide +kernel
theorem dX4_shades_3 : decode cX4_shades 3 = .ok (.istore_n 3, 1) := by decide +kernel
theorem dX4_shades_4 : decode cX4_shades 4 = .ok (.iload_n 3, 1) := by decide +kernel
theorem dX4_shades_5 : decode cX4_shades 5 = .ok (.aload_n 0, 1) := by decide +kernel
theorem dX4_shades_6 : decode cX4_shades 6 = .ok (.getfield 44, 3) := by decide +kernel
theorem dX4_shades_9 : decode cX4_shades 9 = .ok (.iload_n 1, 1) := by decide +kernel
theorem dX4_shades_10 : decode cX4_shades 10 = .ok (.iaload, 1) := by decide +kernel
theorem dX4_shades_11 : decode cX4_shades 11 = .ok (.aload_n 0, 1) := by decide +kernel
theorem dX4_shades_12 : decode cX4_shades 12 = .ok (.getfield 47, 3) := by decide +kernel
theorem dX4_shades_15 : decode cX4_shades 15 = .ok (.iload_n 1, 1) := by decide +kernel
theorem dX4_shades_16 : decode cX4_shades 16 = .ok (.iaload, 1) := by decide +kernel
theorem dX4_shades_17 : decode cX4_shades 17 = .ok (.imul, 1) := by decide +kernel
theorem dX4_shades_18 : decode cX4_shades 18 = .ok (.if_icmp .ge 37, 3) := by decide +kernel
theorem dX4_shades_21 : decode cX4_shades 21 = .ok (.iload_n 2, 1) := by decide +kernel
theorem dX4_shades_22 : decode cX4_shades 22 = .ok (.aload_n 0, 1) := by decide +kernel
theorem dX4_shades_23 : decode cX4_shades 23 = .ok (.getfield 77, 3) := by decide +kernel
theorem dX4_shades_26 : decode cX4_shades 26 = .ok (.iload_n 1, 1) := by decide +kernel
theorem dX4_shades_27 : decode cX4_shades 27 = .ok (.iload_n 3, 1) := by decide +kernel
theorem dX4_shades_28 : decode cX4_shades 28 = .ok (.aload_n 0, 1) := by decide +kernel
theorem dX4_shades_29 : decode cX4_shades 29 = .ok (.getfield 47, 3) := by decide +kernel
theorem dX4_shades_32 : decode cX4_shades 32 = .ok (.iload_n 1, 1) := by decide +kernel
theorem dX4_shades_33 : decode cX4_shades 33 = .ok (.iaload, 1) := by decide +kernel
theorem dX4_shades_34 : decode cX4_shades 34 = .ok (.idiv, 1) := by decide +kernel
theorem dX4_shades_35 : decode cX4_shades 35 = .ok (.iload_n 3, 1) := by decide +kernel
theorem dX4_shades_36 : decode cX4_shades 36 = .ok (.aload_n 0, 1) := by decide +kernel
theorem dX4_shades_37 : decode cX4_shades 37 = .ok (.getfield 47, 3) := by decide +kernel
theorem dX4_shades_40 : decode cX4_shades 40 = .ok (.iload_n 1, 1) := by decide +kernel
theorem dX4_shades_41 : decode cX4_shades 41 = .ok (.iaload, 1) := by decide +kernel
theorem dX4_shades_42 : decode cX4_shades 42 = .ok (.irem, 1) := by decide +kernel
theorem dX4_shades_43 : decode cX4_shades 43 = .ok (.invokestatic 115, 3) := by decide +kernel
theorem dX4_shades_46 : decode cX4_shades 46 = .ok (.iaload, 1) := by decide +kernel
theorem dX4_shades_47 : decode cX4_shades 47 = .ok (.iadd, 1) := by decide +kernel
theorem dX4_shades_48 : decode cX4_shades 48 = .ok (.istore_n 2, 1) := by decide +kernel
theorem dX4_shades_49 : decode cX4_shades 49 = .ok (.iinc 3 1, 3) := by decide +kernel
theorem dX4_shades_52 : decode cX4_shades 52 = .ok (.goto (-48), 3) := by decide +kernel
theorem dX4_shades_55 : decode cX4_shades 55 = .ok (.iload_n 2, 1) := by decide +kernel
theorem dX4_shades_56 : decode cX4_shades 56 = .ok (.ireturn, 1) := by decide +kernel
theorem dX4_wovenIn_0 : decode cX4_wovenIn 0 = .ok (.iconst 0, 1) := by decide +kernel
theorem dX4_wovenIn_1 : decode cX4_wovenIn 1 = .ok (.istore_n 2, 1) := by decide +kernel
theorem dX4_wovenIn_2 : decode cX4_wovenIn 2 = .ok (.iconst 0, 1) := by decide +kernel
theorem dX4_wovenIn_3 : decode cX4_wovenIn 3 = .ok (.istore_n 3, 1) := by decide +kernel
theorem dX4_wovenIn_4 : decode cX4_wovenIn 4 = .ok (.iload_n 3, 1) := by decide +kernel
theorem dX4_wovenIn_5 : decode cX4_wovenIn 5 = .ok (.aload_n 0, 1) := by decide +kernel
theorem dX4_wovenIn_6 : decode cX4_wovenIn 6 = .ok (.getfield 44, 3) := by decide +kernel
theorem dX4_wovenIn_9 : decode cX4_wovenIn 9 = .ok (.iload_n 1, 1) := by decide +kernel
theorem dX4_wovenIn_10 : decode cX4_wovenIn 10 = .ok (.iaload, 1) := by decide +kernel
theorem dX4_wovenIn_11 : decode cX4_wovenIn 11 = .ok (.aload_n 0, 1) := by decide +kernel
theorem dX4_wovenIn_12 : decode cX4_wovenIn 12 = .ok (.getfield 47, 3) := by decide +kernel
theorem dX4_wovenIn_15 : decode cX4_wovenIn 15 = .ok (.iload_n 1, 1) := by decide +kernel
theorem dX4_wovenIn_16 : decode cX4_wovenIn 16 = .ok (.iaload, 1) := by decide +kernel
theorem dX4_wovenIn_17 : decode cX4_wovenIn 17 = .ok (.imul, 1) := by decide +kernel
theorem dX4_wovenIn_18 : decode cX4_wovenIn 18 = .ok (.if_icmp .ge 46, 3) := by decide +kernel
theorem dX4_wovenIn_21 : decode cX4_wovenIn 21 = .ok (.iload_n 2, 1) := by decide +kernel
theorem dX4_wovenIn_22 : decode cX4_wovenIn 22 = .ok (.aload_n 0, 1) := by decide +kernel
theorem dX4_wovenIn_23 : decode cX4_wovenIn 23 = .ok (.getfield 74, 3) := by decide +kernel
theorem dX4_wovenIn_26 : decode cX4_wovenIn 26 = .ok (.iload_n 1, 1) := by decide +kernel
theorem dX4_wovenIn_27 : decode cX4_wovenIn 27 = .ok (.iload_n 3, 1) := by decide +kernel
theorem dX4_wovenIn_28 : decode cX4_wovenIn 28 = .ok (.aload_n 0, 1) := by decide +kernel
theorem dX4_wovenIn_29 : decode cX4_wovenIn 29 = .ok (.getfield 47, 3) := by decide +kernel
theorem dX4_wovenIn_32 : decode cX4_wovenIn 32 = .ok (.iload_n 1, 1) := by decide +kernel
theorem dX4_wovenIn_33 : decode cX4_wovenIn 33 = .ok (.iaload, 1) := by decide +kernel
theorem dX4_wovenIn_34 : decode cX4_wovenIn 34 = .ok (.idiv, 1) := by decide +kernel
theorem dX4_wovenIn_35 : decode cX4_wovenIn 35 = .ok (.iload_n 3, 1) := by decide +kernel
theorem dX4_wovenIn_36 : decode cX4_wovenIn 36 = .ok (.aload_n 0, 1) := by decide +kernel
theorem dX4_wovenIn_37 : decode cX4_wovenIn 37 = .ok (.getfield 47, 3) := by decide +kernel
theorem dX4_wovenIn_40 : decode cX4_wovenIn 40 = .ok (.iload_n 1, 1) := by decide +kernel
theorem dX4_wovenIn_41 : decode cX4_wovenIn 41 = .ok (.iaload, 1) := by decide +kernel
theorem dX4_wovenIn_42 : decode cX4_wovenIn 42 = .ok (.irem, 1) := by decide +kernel
theorem dX4_wovenIn_43 : decode cX4_wovenIn 43 = .ok (.invokestatic 115, 3) := by decide +kernel
theorem dX4_wovenIn_46 : decode cX4_wovenIn 46 = .ok (.iaload, 1) := by decide +kernel
theorem dX4_wovenIn_47 : decode cX4_wovenIn 47 = .ok (.iconst (-1), 1) := by decide +kernel
theorem dX4_wovenIn_48 : decode cX4_wovenIn 48 = .ok (.if_icmp .eq 7, 3) := by decide +kernel
theorem dX4_wovenIn_51 : decode cX4_wovenIn 51 = .ok (.iconst 1, 1) := by decide +kernel
theorem dX4_wovenIn_52 : decode cX4_wovenIn 52 = .ok (.goto 4, 3) := by decide +kernel
theorem dX4_wovenIn_55 : decode cX4_wovenIn 55 = .ok (.iconst 0, 1) := by decide +kernel
theorem dX4_wovenIn_56 : decode cX4_wovenIn 56 = .ok (.iadd, 1) := by decide +kernel
theorem dX4_wovenIn_57 : decode cX4_wovenIn 57 = .ok (.istore_n 2, 1) := by decide +kernel
theorem dX4_wovenIn_58 : decode cX4_wovenIn 58 = .ok (.iinc 3 1, 3) := by decide +kernel
theorem dX4_wovenIn_61 : decode cX4_wovenIn 61 = .ok (.goto (-57), 3) := by decide +kernel
theorem dX4_wovenIn_64 : decode cX4_wovenIn 64 = .ok (.iload_n 2, 1) := by decide +kernel
theorem dX4_wovenIn_65 : decode cX4_wovenIn 65 = .ok (.ireturn, 1) := by decide +kernel
theorem dX4_pieceIs_0 : decode cX4_pieceIs 0 = .ok (.aload_n 0, 1) := by decide +kernel
theorem dX4_pieceIs_1 : decode cX4_pieceIs 1 = .ok (.aload_n 0, 1) := by decide +kernel
theorem dX4_pieceIs_2 : decode cX4_pieceIs 2 = .ok (.iload_n 1, 1) := by decide +kernel
theorem dX4_pieceIs_3 : decode cX4_pieceIs 3 = .ok (.invokevirtual 133, 3) := by decide +kernel
theorem dX4_pieceIs_6 : decode cX4_pieceIs 6 = .ok (.iload_n 2, 1) := by decide +kernel
theorem dX4_pieceIs_7 : decode cX4_pieceIs 7 = .ok (.iconst 0, 1) := by decide +kernel
theorem dX4_pieceIs_8 : decode cX4_pieceIs 8 = .ok (.iconst 5, 1) := by decide +kernel
theorem dX4_pieceIs_9 : decode cX4_pieceIs 9 = .ok (.invokestatic 87, 3) := by decide +kernel
theorem dX4_pieceIs_12 : decode cX4_pieceIs 12 = .ok (.iconst 1, 1) := by decide +kernel
theorem dX4_pieceIs_13 : decode cX4_pieceIs 13 = .ok (.invokevirtual 101, 3) := by decide +kernel
theorem dX4_pieceIs_16 : decode cX4_pieceIs 16 = .ok (.ifCond .ne 5, 3) := by decide +kernel
theorem dX4_pieceIs_19 : decode cX4_pieceIs 19 = .ok (.iconst 0, 1) := by decide +kernel
theorem dX4_pieceIs_20 : decode cX4_pieceIs 20 = .ok (.ireturn, 1) := by decide +kernel
theorem dX4_pieceIs_21 : decode cX4_pieceIs 21 = .ok (.iload_n 2, 1) := by decide +kernel
theorem dX4_pieceIs_22 : decode cX4_pieceIs 22 = .ok (.tableswitch 74 0 4 #[34, 41, 48, 54, 68], 34) := by decide +kernel
theorem dX4_pieceIs_56 : decode cX4_pieceIs 56 = .ok (.aload_n 0, 1) := by decide +kernel
theorem dX4_pieceIs_57 : decode cX4_pieceIs 57 = .ok (.getfield 44, 3) := by decide +kernel
theorem dX4_pieceIs_60 : decode cX4_pieceIs 60 = .ok (.iload_n 1, 1) := by decide +kernel
theorem dX4_pieceIs_61 : decode cX4_pieceIs 61 = .ok (.iaload, 1) := by decide +kernel
theorem dX4_pieceIs_62 : decode cX4_pieceIs 62 = .ok (.ireturn, 1) := by decide +kernel
theorem dX4_pieceIs_63 : decode cX4_pieceIs 63 = .ok (.aload_n 0, 1) := by decide +kernel
theorem dX4_pieceIs_64 : decode cX4_pieceIs 64 = .ok (.getfield 47, 3) := by decide +kernel
theorem dX4_pieceIs_67 : decode cX4_pieceIs 67 = .ok (.iload_n 1, 1) := by decide +kernel
theorem dX4_pieceIs_68 : decode cX4_pieceIs 68 = .ok (.iaload, 1) := by decide +kernel
theorem dX4_pieceIs_69 : decode cX4_pieceIs 69 = .ok (.ireturn, 1) := by decide +kernel
theorem dX4_pieceIs_70 : decode cX4_pieceIs 70 = .ok (.aload_n 0, 1) := by decide +kernel
theorem dX4_pieceIs_71 : decode cX4_pieceIs 71 = .ok (.iload_n 1, 1) := by decide +kernel
theorem dX4_pieceIs_72 : decode cX4_pieceIs 72 = .ok (.invokevirtual 153, 3) := by decide +kernel
theorem dX4_pieceIs_75 : decode cX4_pieceIs 75 = .ok (.ireturn, 1) := by decide +kernel
theorem dX4_pieceIs_76 : decode cX4_pieceIs 76 = .ok (.aload_n 0, 1) := by decide +kernel
theorem dX4_pieceIs_77 : decode cX4_pieceIs 77 = .ok (.iload_n 1, 1) := by decide +kernel
theorem dX4_pieceIs_78 : decode cX4_pieceIs 78 = .ok (.invokevirtual 147, 3) := by decide +kernel
theorem dX4_pieceIs_81 : decode cX4_pieceIs 81 = .ok (.ifCond .eq 7, 3) := by decide +kernel
theorem dX4_pieceIs_84 : decode cX4_pieceIs 84 = .ok (.iconst 1, 1) := by decide +kernel
theorem dX4_pieceIs_85 : decode cX4_pieceIs 85 = .ok (.goto 4, 3) := by decide +kernel
theorem dX4_pieceIs_88 : decode cX4_pieceIs 88 = .ok (.iconst 0, 1) := by decide +kernel
theorem dX4_pieceIs_89 : decode cX4_pieceIs 89 = .ok (.ireturn, 1) := by decide +kernel
theorem dX4_pieceIs_90 : decode cX4_pieceIs 90 = .ok (.aload_n 0, 1) := by decide +kernel
theorem dX4_pieceIs_91 : decode cX4_pieceIs 91 = .ok (.iload_n 1, 1) := by decide +kernel
theorem dX4_pieceIs_92 : decode cX4_pieceIs 92 = .ok (.invokevirtual 156, 3) := by decide +kernel
theorem dX4_pieceIs_95 : decode cX4_pieceIs 95 = .ok (.ireturn, 1) := by decide +kernel
theorem dX4_pieceIs_96 : decode cX4_pieceIs 96 = .ok (.aload_n 0, 1) := by decide +kernel
theorem dX4_pieceIs_97 : decode cX4_pieceIs 97 = .ok (.iload_n 1, 1) := by decide +kernel
theorem dX4_pieceIs_98 : decode cX4_pieceIs 98 = .ok (.invokevirtual 159, 3) := by decide +kernel
theorem dX4_pieceIs_101 : decode cX4_pieceIs 101 = .ok (.ireturn, 1) := by decide +kernel
theorem dX4_cell_0 : decode cX4_cell 0 = .ok (.aload_n 0, 1) := by decide +kernel
theorem dX4_cell_1 : decode cX4_cell 1 = .ok (.iload_n 1, 1) := by decide +kernel
theorem dX4_cell_2 : decode cX4_cell 2 = .ok (.invokevirtual 133, 3) := by decide +kernel
theorem dX4_cell_5 : decode cX4_cell 5 = .ok (.ifCond .eq 63, 3) := by decide +kernel
theorem dX4_cell_8 : decode cX4_cell 8 = .ok (.iload_n 2, 1) := by decide +kernel
theorem dX4_cell_9 : decode cX4_cell 9 = .ok (.iconst 0, 1) := by decide +kernel
theorem dX4_cell_10 : decode cX4_cell 10 = .ok (.aload_n 0, 1) := by decide +kernel
theorem dX4_cell_11 : decode cX4_cell 11 = .ok (.getfield 47, 3) := by decide +kernel
theorem dX4_cell_14 : decode cX4_cell 14 = .ok (.aload_n 0, 1) := by decide +kernel
theorem dX4_cell_15 : decode cX4_cell 15 = .ok (.iload_n 1, 1) := by decide +kernel
theorem dX4_cell_16 : decode cX4_cell 16 = .ok (.invokevirtual 133, 3) := by decide +kernel
theorem dX4_cell_19 : decode cX4_cell 19 = .ok (.ifCond .eq 7, 3) := by decide +kernel
theorem dX4_cell_22 : decode cX4_cell 22 = .ok (.iload_n 1, 1) := by decide +kernel
theorem dX4_cell_23 : decode cX4_cell 23 = .ok (.goto 4, 3) := by decide +kernel
theorem dX4_cell_26 : decode cX4_cell 26 = .ok (.iconst 0, 1) := by decide +kernel
theorem dX4_cell_27 : decode cX4_cell 27 = .ok (.iaload, 1) := by decide +kernel
theorem dX4_cell_28 : decode cX4_cell 28 = .ok (.iconst 1, 1) := by decide +kernel
theorem dX4_cell_29 : decode cX4_cell 29 = .ok (.isub, 1) := by decide +kernel
theorem dX4_cell_30 : decode cX4_cell 30 = .ok (.invokestatic 87, 3) := by decide +kernel
theorem dX4_cell_33 : decode cX4_cell 33 = .ok (.ifCond .eq 35, 3) := by decide +kernel
theorem dX4_cell_36 : decode cX4_cell 36 = .ok (.iload_n 3, 1) := by decide +kernel
theorem dX4_cell_37 : decode cX4_cell 37 = .ok (.iconst 0, 1) := by decide +kernel
theorem dX4_cell_38 : decode cX4_cell 38 = .ok (.aload_n 0, 1) := by decide +kernel
theorem dX4_cell_39 : decode cX4_cell 39 = .ok (.getfield 44, 3) := by decide +kernel
theorem dX4_cell_42 : decode cX4_cell 42 = .ok (.aload_n 0, 1) := by decide +kernel
theorem dX4_cell_43 : decode cX4_cell 43 = .ok (.iload_n 1, 1) := by decide +kernel
theorem dX4_cell_44 : decode cX4_cell 44 = .ok (.invokevirtual 133, 3) := by decide +kernel
theorem dX4_cell_47 : decode cX4_cell 47 = .ok (.ifCond .eq 7, 3) := by decide +kernel
theorem dX4_cell_50 : decode cX4_cell 50 = .ok (.iload_n 1, 1) := by decide +kernel
theorem dX4_cell_51 : decode cX4_cell 51 = .ok (.goto 4, 3) := by decide +kernel
theorem dX4_cell_54 : decode cX4_cell 54 = .ok (.iconst 0, 1) := by decide +kernel
theorem dX4_cell_55 : decode cX4_cell 55 = .ok (.iaload, 1) := by decide +kernel
theorem dX4_cell_56 : decode cX4_cell 56 = .ok (.iconst 1, 1) := by decide +kernel
theorem dX4_cell_57 : decode cX4_cell 57 = .ok (.isub, 1) := by decide +kernel
theorem dX4_cell_58 : decode cX4_cell 58 = .ok (.invokestatic 87, 3) := by decide +kernel
theorem dX4_cell_61 : decode cX4_cell 61 = .ok (.ifCond .eq 7, 3) := by decide +kernel
theorem dX4_cell_64 : decode cX4_cell 64 = .ok (.iconst 1, 1) := by decide +kernel
theorem dX4_cell_65 : decode cX4_cell 65 = .ok (.goto 4, 3) := by decide +kernel
theorem dX4_cell_68 : decode cX4_cell 68 = .ok (.iconst 0, 1) := by decide +kernel
theorem dX4_cell_69 : decode cX4_cell 69 = .ok (.istore 5, 2) := by decide +kernel
theorem dX4_cell_71 : decode cX4_cell 71 = .ok (.aload_n 0, 1) := by decide +kernel
theorem dX4_cell_72 : decode cX4_cell 72 = .ok (.iload 5, 2) := by decide +kernel
theorem dX4_cell_74 : decode cX4_cell 74 = .ok (.iload 4, 2) := by decide +kernel
theorem dX4_cell_76 : decode cX4_cell 76 = .ok (.iconst 0, 1) := by decide +kernel
theorem dX4_cell_77 : decode cX4_cell 77 = .ok (.iconst 2, 1) := by decide +kernel
theorem dX4_cell_78 : decode cX4_cell 78 = .ok (.invokestatic 87, 3) := by decide +kernel
theorem dX4_cell_81 : decode cX4_cell 81 = .ok (.iconst 1, 1) := by decide +kernel
theorem dX4_cell_82 : decode cX4_cell 82 = .ok (.invokevirtual 101, 3) := by decide +kernel
theorem dX4_cell_85 : decode cX4_cell 85 = .ok (.ifCond .ne 5, 3) := by decide +kernel
theorem dX4_cell_88 : decode cX4_cell 88 = .ok (.iconst 0, 1) := by decide +kernel
theorem dX4_cell_89 : decode cX4_cell 89 = .ok (.ireturn, 1) := by decide +kernel
theorem dX4_cell_90 : decode cX4_cell 90 = .ok (.iload_n 1, 1) := by decide +kernel
theorem dX4_cell_91 : decode cX4_cell 91 = .ok (.iload_n 3, 1) := by decide +kernel
theorem dX4_cell_92 : decode cX4_cell 92 = .ok (.iload_n 2, 1) := by decide +kernel
theorem dX4_cell_93 : decode cX4_cell 93 = .ok (.invokestatic 115, 3) := by decide +kernel
theorem dX4_cell_96 : decode cX4_cell 96 = .ok (.istore 6, 2) := by decide +kernel
theorem dX4_cell_98 : decode cX4_cell 98 = .ok (.iload 4, 2) := by decide +kernel
theorem dX4_cell_100 : decode cX4_cell 100 = .ok (.ifCond .ne 13, 3) := by decide +kernel
theorem dX4_cell_103 : decode cX4_cell 103 = .ok (.aload_n 0, 1) := by decide +kernel
theorem dX4_cell_104 : decode cX4_cell 104 = .ok (.getfield 71, 3) := by decide +kernel
theorem dX4_cell_107 : decode cX4_cell 107 = .ok (.iload 6, 2) := by decide +kernel
theorem dX4_cell_109 : decode cX4_cell 109 = .ok (.iaload, 1) := by decide +kernel
theorem dX4_cell_110 : decode cX4_cell 110 = .ok (.goto 26, 3) := by decide +kernel
theorem dX4_cell_113 : decode cX4_cell 113 = .ok (.iload 4, 2) := by decide +kernel
theorem dX4_cell_115 : decode cX4_cell 115 = .ok (.iconst 1, 1) := by decide +kernel
theorem dX4_cell_116 : decode cX4_cell 116 = .ok (.if_icmp .ne 13, 3) := by decide +kernel
theorem dX4_cell_119 : decode cX4_cell 119 = .ok (.aload_n 0, 1) := by decide +kernel
theorem dX4_cell_120 : decode cX4_cell 120 = .ok (.getfield 74, 3) := by decide +kernel
theorem dX4_cell_123 : decode cX4_cell 123 = .ok (.iload 6, 2) := by decide +kernel
theorem dX4_cell_125 : decode cX4_cell 125 = .ok (.iaload, 1) := by decide +kernel
theorem dX4_cell_126 : decode cX4_cell 126 = .ok (.goto 10, 3) := by decide +kernel
theorem dX4_cell_129 : decode cX4_cell 129 = .ok (.aload_n 0, 1) := by decide +kernel
theorem dX4_cell_130 : decode cX4_cell 130 = .ok (.getfield 77, 3) := by decide +kernel
theorem dX4_cell_133 : decode cX4_cell 133 = .ok (.iload 6, 2) := by decide +kernel
theorem dX4_cell_135 : decode cX4_cell 135 = .ok (.iaload, 1) := by decide +kernel
theorem dX4_cell_136 : decode cX4_cell 136 = .ok (.ireturn, 1) := by decide +kernel
theorem dX4_isInner_0 : decode cX4_isInner 0 = .ok (.aload_n 0, 1) := by decide +kernel
theorem dX4_isInner_1 : decode cX4_isInner 1 = .ok (.iload_n 1, 1) := by decide +kernel
theorem dX4_isInner_2 : decode cX4_isInner 2 = .ok (.invokevirtual 133, 3) := by decide +kernel
theorem dX4_isInner_5 : decode cX4_isInner 5 = .ok (.ifCond .eq 35, 3) := by decide +kernel
theorem dX4_isInner_8 : decode cX4_isInner 8 = .ok (.iload_n 2, 1) := by decide +kernel
theorem dX4_isInner_9 : decode cX4_isInner 9 = .ok (.iconst 1, 1) := by decide +kernel
theorem dX4_isInner_10 : decode cX4_isInner 10 = .ok (.aload_n 0, 1) := by decide +kernel
theorem dX4_isInner_11 : decode cX4_isInner 11 = .ok (.getfield 44, 3) := by decide +kernel
theorem dX4_isInner_14 : decode cX4_isInner 14 = .ok (.aload_n 0, 1) := by decide +kernel
theorem dX4_isInner_15 : decode cX4_isInner 15 = .ok (.iload_n 1, 1) := by decide +kernel
theorem dX4_isInner_16 : decode cX4_isInner 16 = .ok (.invokevirtual 133, 3) := by decide +kernel
theorem dX4_isInner_19 : decode cX4_isInner 19 = .ok (.ifCond .eq 7, 3) := by decide +kernel
theorem dX4_isInner_22 : decode cX4_isInner 22 = .ok (.iload_n 1, 1) := by decide +kernel
theorem dX4_isInner_23 : decode cX4_isInner 23 = .ok (.goto 4, 3) := by decide +kernel
theorem dX4_isInner_26 : decode cX4_isInner 26 = .ok (.iconst 0, 1) := by decide +kernel
theorem dX4_isInner_27 : decode cX4_isInner 27 = .ok (.iaload, 1) := by decide +kernel
theorem dX4_isInner_28 : decode cX4_isInner 28 = .ok (.iconst 1, 1) := by decide +kernel
theorem dX4_isInner_29 : decode cX4_isInner 29 = .ok (.isub, 1) := by decide +kernel
theorem dX4_isInner_30 : decode cX4_isInner 30 = .ok (.invokestatic 87, 3) := by decide +kernel
theorem dX4_isInner_33 : decode cX4_isInner 33 = .ok (.ifCond .eq 7, 3) := by decide +kernel
theorem dX4_isInner_36 : decode cX4_isInner 36 = .ok (.iconst 1, 1) := by decide +kernel
theorem dX4_isInner_37 : decode cX4_isInner 37 = .ok (.goto 4, 3) := by decide +kernel
theorem dX4_isInner_40 : decode cX4_isInner 40 = .ok (.iconst 0, 1) := by decide +kernel
theorem dX4_isInner_41 : decode cX4_isInner 41 = .ok (.ireturn, 1) := by decide +kernel
theorem dX4_sew_0 : decode cX4_sew 0 = .ok (.aload_n 0, 1) := by decide +kernel
theorem dX4_sew_1 : decode cX4_sew 1 = .ok (.iload_n 1, 1) := by decide +kernel
theorem dX4_sew_2 : decode cX4_sew 2 = .ok (.iload_n 2, 1) := by decide +kernel
theorem dX4_sew_3 : decode cX4_sew 3 = .ok (.invokevirtual 162, 3) := by decide +kernel
theorem dX4_sew_6 : decode cX4_sew 6 = .ok (.istore_n 3, 1) := by decide +kernel
theorem dX4_sew_7 : decode cX4_sew 7 = .ok (.aload_n 0, 1) := by decide +kernel
theorem dX4_sew_8 : decode cX4_sew 8 = .ok (.iload_n 3, 1) := by decide +kernel
theorem dX4_sew_9 : decode cX4_sew 9 = .ok (.iload_n 3, 1) := by decide +kernel
theorem dX4_sew_10 : decode cX4_sew 10 = .ok (.ifCond .eq 15, 3) := by decide +kernel
theorem dX4_sew_13 : decode cX4_sew 13 = .ok (.aload_n 0, 1) := by decide +kernel
theorem dX4_sew_14 : decode cX4_sew 14 = .ok (.iload_n 1, 1) := by decide +kernel
theorem dX4_sew_15 : decode cX4_sew 15 = .ok (.invokevirtual 147, 3) := by decide +kernel
theorem dX4_sew_18 : decode cX4_sew 18 = .ok (.ifCond .eq 7, 3) := by decide +kernel
theorem dX4_sew_21 : decode cX4_sew 21 = .ok (.iconst 1, 1) := by decide +kernel
theorem dX4_sew_22 : decode cX4_sew 22 = .ok (.goto 4, 3) := by decide +kernel
theorem dX4_sew_25 : decode cX4_sew 25 = .ok (.iconst 0, 1) := by decide +kernel
theorem dX4_sew_26 : decode cX4_sew 26 = .ok (.iconst 1, 1) := by decide +kernel
theorem dX4_sew_27 : decode cX4_sew 27 = .ok (.invokevirtual 101, 3) := by decide +kernel
theorem dX4_sew_30 : decode cX4_sew 30 = .ok (.ifCond .ne 5, 3) := by decide +kernel
theorem dX4_sew_33 : decode cX4_sew 33 = .ok (.iconst 0, 1) := by decide +kernel
theorem dX4_sew_34 : decode cX4_sew 34 = .ok (.ireturn, 1) := by decide +kernel
theorem dX4_sew_35 : decode cX4_sew 35 = .ok (.aload_n 0, 1) := by decide +kernel
theorem dX4_sew_36 : decode cX4_sew 36 = .ok (.iload_n 1, 1) := by decide +kernel
theorem dX4_sew_37 : decode cX4_sew 37 = .ok (.iload_n 2, 1) := by decide +kernel
theorem dX4_sew_38 : decode cX4_sew 38 = .ok (.invokevirtual 150, 3) := by decide +kernel
theorem dX4_sew_41 : decode cX4_sew 41 = .ok (.istore 4, 2) := by decide +kernel
theorem dX4_sew_43 : decode cX4_sew 43 = .ok (.aload_n 0, 1) := by decide +kernel
theorem dX4_sew_44 : decode cX4_sew 44 = .ok (.getfield 68, 3) := by decide +kernel
theorem dX4_sew_47 : decode cX4_sew 47 = .ok (.bipush 24, 2) := by decide +kernel
theorem dX4_sew_49 : decode cX4_sew 49 = .ok (.iload_n 1, 1) := by decide +kernel
theorem dX4_sew_50 : decode cX4_sew 50 = .ok (.imul, 1) := by decide +kernel
theorem dX4_sew_51 : decode cX4_sew 51 = .ok (.iload_n 2, 1) := by decide +kernel
theorem dX4_sew_52 : decode cX4_sew 52 = .ok (.iadd, 1) := by decide +kernel
theorem dX4_sew_53 : decode cX4_sew 53 = .ok (.iconst 1, 1) := by decide +kernel
theorem dX4_sew_54 : decode cX4_sew 54 = .ok (.bastore, 1) := by decide +kernel
theorem dX4_sew_55 : decode cX4_sew 55 = .ok (.iload 4, 2) := by decide +kernel
theorem dX4_sew_57 : decode cX4_sew 57 = .ok (.ireturn, 1) := by decide +kernel
theorem dX4_light_0 : decode cX4_light 0 = .ok (.aload_n 0, 1) := by decide +kernel
theorem dX4_light_1 : decode cX4_light 1 = .ok (.iload_n 1, 1) := by decide +kernel
theorem dX4_light_2 : decode cX4_light 2 = .ok (.invokevirtual 133, 3) := by decide +kernel
theorem dX4_light_5 : decode cX4_light 5 = .ok (.istore_n 3, 1) := by decide +kernel
theorem dX4_light_6 : decode cX4_light 6 = .ok (.aload_n 0, 1) := by decide +kernel
theorem dX4_light_7 : decode cX4_light 7 = .ok (.iload_n 3, 1) := by decide +kernel
theorem dX4_light_8 : decode cX4_light 8 = .ok (.iload_n 2, 1) := by decide +kernel
theorem dX4_light_9 : decode cX4_light 9 = .ok (.iconst 1, 1) := by decide +kernel
theorem dX4_light_10 : decode cX4_light 10 = .ok (.sipush 9999, 3) := by decide +kernel
theorem dX4_light_13 : decode cX4_light 13 = .ok (.invokestatic 87, 3) := by decide +kernel
theorem dX4_light_16 : decode cX4_light 16 = .ok (.iload_n 3, 1) := by decide +kernel
theorem dX4_light_17 : decode cX4_light 17 = .ok (.ifCond .eq 15, 3) := by decide +kernel
theorem dX4_light_20 : decode cX4_light 20 = .ok (.aload_n 0, 1) := by decide +kernel
theorem dX4_light_21 : decode cX4_light 21 = .ok (.iload_n 1, 1) := by decide +kernel
theorem dX4_light_22 : decode cX4_light 22 = .ok (.invokevirtual 147, 3) := by decide +kernel
theorem dX4_light_25 : decode cX4_light 25 = .ok (.ifCond .eq 7, 3) := by decide +kernel
theorem dX4_light_28 : decode cX4_light 28 = .ok (.iconst 1, 1) := by decide +kernel
theorem dX4_light_29 : decode cX4_light 29 = .ok (.goto 4, 3) := by decide +kernel
theorem dX4_light_32 : decode cX4_light 32 = .ok (.iconst 0, 1) := by decide +kernel
theorem dX4_light_33 : decode cX4_light 33 = .ok (.invokevirtual 101, 3) := by decide +kernel
theorem dX4_light_36 : decode cX4_light 36 = .ok (.ifCond .ne 5, 3) := by decide +kernel
theorem dX4_light_39 : decode cX4_light 39 = .ok (.iconst 0, 1) := by decide +kernel
theorem dX4_light_40 : decode cX4_light 40 = .ok (.ireturn, 1) := by decide +kernel
theorem dX4_light_41 : decode cX4_light 41 = .ok (.iconst 0, 1) := by decide +kernel
theorem dX4_light_42 : decode cX4_light 42 = .ok (.istore 4, 2) := by decide +kernel
theorem dX4_light_44 : decode cX4_light 44 = .ok (.iload 4, 2) := by decide +kernel
theorem dX4_light_46 : decode cX4_light 46 = .ok (.aload_n 0, 1) := by decide +kernel
theorem dX4_light_47 : decode cX4_light 47 = .ok (.getfield 44, 3) := by decide +kernel
theorem dX4_light_50 : decode cX4_light 50 = .ok (.iload_n 1, 1) := by decide +kernel
theorem dX4_light_51 : decode cX4_light 51 = .ok (.iaload, 1) := by decide +kernel
theorem dX4_light_52 : decode cX4_light 52 = .ok (.aload_n 0, 1) := by decide +kernel
theorem dX4_light_53 : decode cX4_light 53 = .ok (.getfield 47, 3) := by decide +kernel
theorem dX4_light_56 : decode cX4_light 56 = .ok (.iload_n 1, 1) := by decide +kernel
theorem dX4_light_57 : decode cX4_light 57 = .ok (.iaload, 1) := by decide +kernel
theorem dX4_light_58 : decode cX4_light 58 = .ok (.imul, 1) := by decide +kernel
theorem dX4_light_59 : decode cX4_light 59 = .ok (.if_icmp .ge 85, 3) := by decide +kernel
theorem dX4_light_62 : decode cX4_light 62 = .ok (.iload_n 1, 1) := by decide +kernel
theorem dX4_light_63 : decode cX4_light 63 = .ok (.iload 4, 2) := by decide +kernel
theorem dX4_light_65 : decode cX4_light 65 = .ok (.aload_n 0, 1) := by decide +kernel
theorem dX4_light_66 : decode cX4_light 66 = .ok (.getfield 47, 3) := by decide +kernel
theorem dX4_light_69 : decode cX4_light 69 = .ok (.iload_n 1, 1) := by decide +kernel
theorem dX4_light_70 : decode cX4_light 70 = .ok (.iaload, 1) := by decide +kernel
theorem dX4_light_71 : decode cX4_light 71 = .ok (.idiv, 1) := by decide +kernel
theorem dX4_light_72 : decode cX4_light 72 = .ok (.iload 4, 2) := by decide +kernel
theorem dX4_light_74 : decode cX4_light 74 = .ok (.aload_n 0, 1) := by decide +kernel
theorem dX4_light_75 : decode cX4_light 75 = .ok (.getfield 47, 3) := by decide +kernel
theorem dX4_light_78 : decode cX4_light 78 = .ok (.iload_n 1, 1) := by decide +kernel
theorem dX4_light_79 : decode cX4_light 79 = .ok (.iaload, 1) := by decide +kernel
theorem dX4_light_80 : decode cX4_light 80 = .ok (.irem, 1) := by decide +kernel
theorem dX4_light_81 : decode cX4_light 81 = .ok (.invokestatic 115, 3) := by decide +kernel
theorem dX4_light_84 : decode cX4_light 84 = .ok (.istore 5, 2) := by decide +kernel
theorem dX4_light_86 : decode cX4_light 86 = .ok (.iload_n 2, 1) := by decide +kernel
theorem dX4_light_87 : decode cX4_light 87 = .ok (.aload_n 0, 1) := by decide +kernel
theorem dX4_light_88 : decode cX4_light 88 = .ok (.getfield 37, 3) := by decide +kernel
theorem dX4_light_91 : decode cX4_light 91 = .ok (.aload_n 0, 1) := by decide +kernel
theorem dX4_light_92 : decode cX4_light 92 = .ok (.getfield 74, 3) := by decide +kernel
theorem dX4_light_95 : decode cX4_light 95 = .ok (.iload 5, 2) := by decide +kernel
theorem dX4_light_97 : decode cX4_light 97 = .ok (.iaload, 1) := by decide +kernel
theorem dX4_light_98 : decode cX4_light 98 = .ok (.iaload, 1) := by decide +kernel
theorem dX4_light_99 : decode cX4_light 99 = .ok (.imul, 1) := by decide +kernel
theorem dX4_light_100 : decode cX4_light 100 = .ok (.bipush 100, 2) := by decide +kernel
theorem dX4_light_102 : decode cX4_light 102 = .ok (.idiv, 1) := by decide +kernel
theorem dX4_light_103 : decode cX4_light 103 = .ok (.istore 6, 2) := by decide +kernel
theorem dX4_light_105 : decode cX4_light 105 = .ok (.aload_n 0, 1) := by decide +kernel
theorem dX4_light_106 : decode cX4_light 106 = .ok (.getfield 77, 3) := by decide +kernel
theorem dX4_light_109 : decode cX4_light 109 = .ok (.iload 5, 2) := by decide +kernel
theorem dX4_light_111 : decode cX4_light 111 = .ok (.aload_n 0, 1) := by decide +kernel
theorem dX4_light_112 : decode cX4_light 112 = .ok (.getfield 77, 3) := by decide +kernel
theorem dX4_light_115 : decode cX4_light 115 = .ok (.iload 5, 2) := by decide +kernel
theorem dX4_light_117 : decode cX4_light 117 = .ok (.iaload, 1) := by decide +kernel
theorem dX4_light_118 : decode cX4_light 118 = .ok (.iload 6, 2) := by decide +kernel
theorem dX4_light_120 : decode cX4_light 120 = .ok (.if_icmp .ge 7, 3) := by decide +kernel
theorem dX4_light_123 : decode cX4_light 123 = .ok (.iconst 0, 1) := by decide +kernel
theorem dX4_light_124 : decode cX4_light 124 = .ok (.goto 13, 3) := by decide +kernel
theorem dX4_light_127 : decode cX4_light 127 = .ok (.aload_n 0, 1) := by decide +kernel
theorem dX4_light_128 : decode cX4_light 128 = .ok (.getfield 77, 3) := by decide +kernel
theorem dX4_light_131 : decode cX4_light 131 = .ok (.iload 5, 2) := by decide +kernel
theorem dX4_light_133 : decode cX4_light 133 = .ok (.iaload, 1) := by decide +kernel
theorem dX4_light_134 : decode cX4_light 134 = .ok (.iload 6, 2) := by decide +kernel
theorem dX4_light_136 : decode cX4_light 136 = .ok (.isub, 1) := by decide +kernel
theorem dX4_light_137 : decode cX4_light 137 = .ok (.iastore, 1) := by decide +kernel
theorem dX4_light_138 : decode cX4_light 138 = .ok (.iinc 4 1, 3) := by decide +kernel
theorem dX4_light_141 : decode cX4_light 141 = .ok (.goto (-97), 3) := by decide +kernel
theorem dX4_light_144 : decode cX4_light 144 = .ok (.aload_n 0, 1) := by decide +kernel
theorem dX4_light_145 : decode cX4_light 145 = .ok (.iload_n 1, 1) := by decide +kernel
theorem dX4_light_146 : decode cX4_light 146 = .ok (.invokevirtual 159, 3) := by decide +kernel
theorem dX4_light_149 : decode cX4_light 149 = .ok (.ireturn, 1) := by decide +kernel
theorem dX4_runs_0 : decode cX4_runs 0 = .ok (.iload_n 2, 1) := by decide +kernel
theorem dX4_runs_1 : decode cX4_runs 1 = .ok (.iconst 0, 1) := by decide +kernel
theorem dX4_runs_2 : decode cX4_runs 2 = .ok (.aload_n 0, 1) := by decide +kernel
theorem dX4_runs_3 : decode cX4_runs 3 = .ok (.getfield 44, 3) := by decide +kernel
theorem dX4_runs_6 : decode cX4_runs 6 = .ok (.iload_n 1, 1) := by decide +kernel
theorem dX4_runs_7 : decode cX4_runs 7 = .ok (.iaload, 1) := by decide +kernel
theorem dX4_runs_8 : decode cX4_runs 8 = .ok (.iconst 1, 1) := by decide +kernel
theorem dX4_runs_9 : decode cX4_runs 9 = .ok (.isub, 1) := by decide +kernel
theorem dX4_runs_10 : decode cX4_runs 10 = .ok (.invokestatic 87, 3) := by decide +kernel
theorem dX4_runs_13 : decode cX4_runs 13 = .ok (.ifCond .eq 23, 3) := by decide +kernel
theorem dX4_runs_16 : decode cX4_runs 16 = .ok (.iload_n 3, 1) := by decide +kernel
theorem dX4_runs_17 : decode cX4_runs 17 = .ok (.iconst 0, 1) := by decide +kernel
theorem dX4_runs_18 : decode cX4_runs 18 = .ok (.aload_n 0, 1) := by decide +kernel
theorem dX4_runs_19 : decode cX4_runs 19 = .ok (.getfield 47, 3) := by decide +kernel
theorem dX4_runs_22 : decode cX4_runs 22 = .ok (.iload_n 1, 1) := by decide +kernel
theorem dX4_runs_23 : decode cX4_runs 23 = .ok (.iaload, 1) := by decide +kernel
theorem dX4_runs_24 : decode cX4_runs 24 = .ok (.iconst 1, 1) := by decide +kernel
theorem dX4_runs_25 : decode cX4_runs 25 = .ok (.isub, 1) := by decide +kernel
theorem dX4_runs_26 : decode cX4_runs 26 = .ok (.invokestatic 87, 3) := by decide +kernel
theorem dX4_runs_29 : decode cX4_runs 29 = .ok (.ifCond .eq 7, 3) := by decide +kernel
theorem dX4_runs_32 : decode cX4_runs 32 = .ok (.iconst 1, 1) := by decide +kernel
theorem dX4_runs_33 : decode cX4_runs 33 = .ok (.goto 4, 3) := by decide +kernel
theorem dX4_runs_36 : decode cX4_runs 36 = .ok (.iconst 0, 1) := by decide +kernel
theorem dX4_runs_37 : decode cX4_runs 37 = .ok (.istore 5, 2) := by decide +kernel
theorem dX4_runs_39 : decode cX4_runs 39 = .ok (.iload 5, 2) := by decide +kernel
theorem dX4_runs_41 : decode cX4_runs 41 = .ok (.ifCond .eq 17, 3) := by decide +kernel
theorem dX4_runs_44 : decode cX4_runs 44 = .ok (.aload_n 0, 1) := by decide +kernel
theorem dX4_runs_45 : decode cX4_runs 45 = .ok (.getfield 74, 3) := by decide +kernel
theorem dX4_runs_48 : decode cX4_runs 48 = .ok (.iload_n 1, 1) := by decide +kernel
theorem dX4_runs_49 : decode cX4_runs 49 = .ok (.iload_n 2, 1) := by decide +kernel
theorem dX4_runs_50 : decode cX4_runs 50 = .ok (.iload_n 3, 1) := by decide +kernel
theorem dX4_runs_51 : decode cX4_runs 51 = .ok (.invokestatic 115, 3) := by decide +kernel
theorem dX4_runs_54 : decode cX4_runs 54 = .ok (.iaload, 1) := by decide +kernel
theorem dX4_runs_55 : decode cX4_runs 55 = .ok (.goto 5, 3) := by decide +kernel
theorem dX4_runs_58 : decode cX4_runs 58 = .ok (.iload 4, 2) := by decide +kernel
theorem dX4_runs_60 : decode cX4_runs 60 = .ok (.istore 6, 2) := by decide +kernel
theorem dX4_runs_62 : decode cX4_runs 62 = .ok (.iload 6, 2) := by decide +kernel
theorem dX4_runs_64 : decode cX4_runs 64 = .ok (.iload 4, 2) := by decide +kernel
theorem dX4_runs_66 : decode cX4_runs 66 = .ok (.if_icmp .eq 17, 3) := by decide +kernel
theorem dX4_runs_69 : decode cX4_runs 69 = .ok (.aload_n 0, 1) := by decide +kernel
theorem dX4_runs_70 : decode cX4_runs 70 = .ok (.getfield 40, 3) := by decide +kernel
theorem dX4_runs_73 : decode cX4_runs 73 = .ok (.iload 6, 2) := by decide +kernel
theorem dX4_runs_75 : decode cX4_runs 75 = .ok (.baload, 1) := by decide +kernel
theorem dX4_runs_76 : decode cX4_runs 76 = .ok (.ifCond .eq 7, 3) := by decide +kernel
theorem dX4_runs_79 : decode cX4_runs 79 = .ok (.iconst 5, 1) := by decide +kernel
theorem dX4_runs_80 : decode cX4_runs 80 = .ok (.goto 4, 3) := by decide +kernel
theorem dX4_runs_83 : decode cX4_runs 83 = .ok (.iconst 0, 1) := by decide +kernel
theorem dX4_runs_84 : decode cX4_runs 84 = .ok (.ireturn, 1) := by decide +kernel
theorem dX4_wash_0 : decode cX4_wash 0 = .ok (.aload_n 0, 1) := by decide +kernel
theorem dX4_wash_1 : decode cX4_wash 1 = .ok (.iload_n 1, 1) := by decide +kernel
theorem dX4_wash_2 : decode cX4_wash 2 = .ok (.invokevirtual 133, 3) := by decide +kernel
theorem dX4_wash_5 : decode cX4_wash 5 = .ok (.istore_n 2, 1) := by decide +kernel
theorem dX4_wash_6 : decode cX4_wash 6 = .ok (.aload_n 0, 1) := by decide +kernel
theorem dX4_wash_7 : decode cX4_wash 7 = .ok (.iload_n 2, 1) := by decide +kernel
theorem dX4_wash_8 : decode cX4_wash 8 = .ok (.iload_n 2, 1) := by decide +kernel
theorem dX4_wash_9 : decode cX4_wash 9 = .ok (.ifCond .eq 15, 3) := by decide +kernel
theorem dX4_wash_12 : decode cX4_wash 12 = .ok (.aload_n 0, 1) := by decide +kernel
theorem dX4_wash_13 : decode cX4_wash 13 = .ok (.iload_n 1, 1) := by decide +kernel
theorem dX4_wash_14 : decode cX4_wash 14 = .ok (.invokevirtual 147, 3) := by decide +kernel
theorem dX4_wash_17 : decode cX4_wash 17 = .ok (.ifCond .eq 7, 3) := by decide +kernel
theorem dX4_wash_20 : decode cX4_wash 20 = .ok (.iconst 1, 1) := by decide +kernel
theorem dX4_wash_21 : decode cX4_wash 21 = .ok (.goto 4, 3) := by decide +kernel
theorem dX4_wash_24 : decode cX4_wash 24 = .ok (.iconst 0, 1) := by decide +kernel
theorem dX4_wash_25 : decode cX4_wash 25 = .ok (.iconst 1, 1) := by decide +kernel
theorem dX4_wash_26 : decode cX4_wash 26 = .ok (.invokevirtual 101, 3) := by decide +kernel
theorem dX4_wash_29 : decode cX4_wash 29 = .ok (.ifCond .ne 5, 3) := by decide +kernel
theorem dX4_wash_32 : decode cX4_wash 32 = .ok (.iconst 0, 1) := by decide +kernel
theorem dX4_wash_33 : decode cX4_wash 33 = .ok (.ireturn, 1) := by decide +kernel
theorem dX4_wash_34 : decode cX4_wash 34 = .ok (.iconst 0, 1) := by decide +kernel
theorem dX4_wash_35 : decode cX4_wash 35 = .ok (.istore_n 3, 1) := by decide +kernel
theorem dX4_wash_36 : decode cX4_wash 36 = .ok (.iload_n 3, 1) := by decide +kernel
theorem dX4_wash_37 : decode cX4_wash 37 = .ok (.aload_n 0, 1) := by decide +kernel
theorem dX4_wash_38 : decode cX4_wash 38 = .ok (.getfield 44, 3) := by decide +kernel
theorem dX4_wash_41 : decode cX4_wash 41 = .ok (.iload_n 1, 1) := by decide +kernel
theorem dX4_wash_42 : decode cX4_wash 42 = .ok (.iaload, 1) := by decide +kernel
theorem dX4_wash_43 : decode cX4_wash 43 = .ok (.aload_n 0, 1) := by decide +kernel
theorem dX4_wash_44 : decode cX4_wash 44 = .ok (.getfield 47, 3) := by decide +kernel
theorem dX4_wash_47 : decode cX4_wash 47 = .ok (.iload_n 1, 1) := by decide +kernel
theorem dX4_wash_48 : decode cX4_wash 48 = .ok (.iaload, 1) := by decide +kernel
theorem dX4_wash_49 : decode cX4_wash 49 = .ok (.imul, 1) := by decide +kernel
theorem dX4_wash_50 : decode cX4_wash 50 = .ok (.if_icmp .ge 149, 3) := by decide +kernel
theorem dX4_wash_53 : decode cX4_wash 53 = .ok (.iload_n 3, 1) := by decide +kernel
theorem dX4_wash_54 : decode cX4_wash 54 = .ok (.aload_n 0, 1) := by decide +kernel
theorem dX4_wash_55 : decode cX4_wash 55 = .ok (.getfield 47, 3) := by decide +kernel
theorem dX4_wash_58 : decode cX4_wash 58 = .ok (.iload_n 1, 1) := by decide +kernel
theorem dX4_wash_59 : decode cX4_wash 59 = .ok (.iaload, 1) := by decide +kernel
theorem dX4_wash_60 : decode cX4_wash 60 = .ok (.idiv, 1) := by decide +kernel
theorem dX4_wash_61 : decode cX4_wash 61 = .ok (.istore 4, 2) := by decide +kernel
theorem dX4_wash_63 : decode cX4_wash 63 = .ok (.iload_n 3, 1) := by decide +kernel
theorem dX4_wash_64 : decode cX4_wash 64 = .ok (.aload_n 0, 1) := by decide +kernel
theorem dX4_wash_65 : decode cX4_wash 65 = .ok (.getfield 47, 3) := by decide +kernel
theorem dX4_wash_68 : decode cX4_wash 68 = .ok (.iload_n 1, 1) := by decide +kernel
theorem dX4_wash_69 : decode cX4_wash 69 = .ok (.iaload, 1) := by decide +kernel
theorem dX4_wash_70 : decode cX4_wash 70 = .ok (.irem, 1) := by decide +kernel
theorem dX4_wash_71 : decode cX4_wash 71 = .ok (.istore 5, 2) := by decide +kernel
theorem dX4_wash_73 : decode cX4_wash 73 = .ok (.iload_n 1, 1) := by decide +kernel
theorem dX4_wash_74 : decode cX4_wash 74 = .ok (.iload 4, 2) := by decide +kernel
theorem dX4_wash_76 : decode cX4_wash 76 = .ok (.iload 5, 2) := by decide +kernel
theorem dX4_wash_78 : decode cX4_wash 78 = .ok (.invokestatic 115, 3) := by decide +kernel
theorem dX4_wash_81 : decode cX4_wash 81 = .ok (.istore 6, 2) := by decide +kernel
theorem dX4_wash_83 : decode cX4_wash 83 = .ok (.aload_n 0, 1) := by decide +kernel
theorem dX4_wash_84 : decode cX4_wash 84 = .ok (.iload_n 1, 1) := by decide +kernel
theorem dX4_wash_85 : decode cX4_wash 85 = .ok (.iload 4, 2) := by decide +kernel
theorem dX4_wash_87 : decode cX4_wash 87 = .ok (.iconst 1, 1) := by decide +kernel
theorem dX4_wash_88 : decode cX4_wash 88 = .ok (.isub, 1) := by decide +kernel
theorem dX4_wash_89 : decode cX4_wash 89 = .ok (.iload 5, 2) := by decide +kernel
theorem dX4_wash_91 : decode cX4_wash 91 = .ok (.aload_n 0, 1) := by decide +kernel
theorem dX4_wash_92 : decode cX4_wash 92 = .ok (.getfield 74, 3) := by decide +kernel
theorem dX4_wash_95 : decode cX4_wash 95 = .ok (.iload 6, 2) := by decide +kernel
theorem dX4_wash_97 : decode cX4_wash 97 = .ok (.iaload, 1) := by decide +kernel
theorem dX4_wash_98 : decode cX4_wash 98 = .ok (.invokevirtual 165, 3) := by decide +kernel
theorem dX4_wash_101 : decode cX4_wash 101 = .ok (.aload_n 0, 1) := by decide +kernel
theorem dX4_wash_102 : decode cX4_wash 102 = .ok (.iload_n 1, 1) := by decide +kernel
theorem dX4_wash_103 : decode cX4_wash 103 = .ok (.iload 4, 2) := by decide +kernel
theorem dX4_wash_105 : decode cX4_wash 105 = .ok (.iconst 1, 1) := by decide +kernel
theorem dX4_wash_106 : decode cX4_wash 106 = .ok (.iadd, 1) := by decide +kernel
theorem dX4_wash_107 : decode cX4_wash 107 = .ok (.iload 5, 2) := by decide +kernel
theorem dX4_wash_109 : decode cX4_wash 109 = .ok (.aload_n 0, 1) := by decide +kernel
theorem dX4_wash_110 : decode cX4_wash 110 = .ok (.getfield 74, 3) := by decide +kernel
theorem dX4_wash_113 : decode cX4_wash 113 = .ok (.iload 6, 2) := by decide +kernel
theorem dX4_wash_115 : decode cX4_wash 115 = .ok (.iaload, 1) := by decide +kernel
theorem dX4_wash_116 : decode cX4_wash 116 = .ok (.invokevirtual 165, 3) := by decide +kernel
theorem dX4_wash_119 : decode cX4_wash 119 = .ok (.iadd, 1) := by decide +kernel
theorem dX4_wash_120 : decode cX4_wash 120 = .ok (.aload_n 0, 1) := by decide +kernel
theorem dX4_wash_121 : decode cX4_wash 121 = .ok (.iload_n 1, 1) := by decide +kernel
theorem dX4_wash_122 : decode cX4_wash 122 = .ok (.iload 4, 2) := by decide +kernel
theorem dX4_wash_124 : decode cX4_wash 124 = .ok (.iload 5, 2) := by decide +kernel
theorem dX4_wash_126 : decode cX4_wash 126 = .ok (.iconst 1, 1) := by decide +kernel
theorem dX4_wash_127 : decode cX4_wash 127 = .ok (.isub, 1) := by decide +kernel
theorem dX4_wash_128 : decode cX4_wash 128 = .ok (.aload_n 0, 1) := by decide +kernel
theorem dX4_wash_129 : decode cX4_wash 129 = .ok (.getfield 74, 3) := by decide +kernel
theorem dX4_wash_132 : decode cX4_wash 132 = .ok (.iload 6, 2) := by decide +kernel
theorem dX4_wash_134 : decode cX4_wash 134 = .ok (.iaload, 1) := by decide +kernel
theorem dX4_wash_135 : decode cX4_wash 135 = .ok (.invokevirtual 165, 3) := by decide +kernel
theorem dX4_wash_138 : decode cX4_wash 138 = .ok (.iadd, 1) := by decide +kernel
theorem dX4_wash_139 : decode cX4_wash 139 = .ok (.aload_n 0, 1) := by decide +kernel
theorem dX4_wash_140 : decode cX4_wash 140 = .ok (.iload_n 1, 1) := by decide +kernel
theorem dX4_wash_141 : decode cX4_wash 141 = .ok (.iload 4, 2) := by decide +kernel
theorem dX4_wash_143 : decode cX4_wash 143 = .ok (.iload 5, 2) := by decide +kernel
theorem dX4_wash_145 : decode cX4_wash 145 = .ok (.iconst 1, 1) := by decide +kernel
theorem dX4_wash_146 : decode cX4_wash 146 = .ok (.iadd, 1) := by decide +kernel
theorem dX4_wash_147 : decode cX4_wash 147 = .ok (.aload_n 0, 1) := by decide +kernel
theorem dX4_wash_148 : decode cX4_wash 148 = .ok (.getfield 74, 3) := by decide +kernel
theorem dX4_wash_151 : decode cX4_wash 151 = .ok (.iload 6, 2) := by decide +kernel
theorem dX4_wash_153 : decode cX4_wash 153 = .ok (.iaload, 1) := by decide +kernel
theorem dX4_wash_154 : decode cX4_wash 154 = .ok (.invokevirtual 165, 3) := by decide +kernel
theorem dX4_wash_157 : decode cX4_wash 157 = .ok (.iadd, 1) := by decide +kernel
theorem dX4_wash_158 : decode cX4_wash 158 = .ok (.istore 7, 2) := by decide +kernel
theorem dX4_wash_160 : decode cX4_wash 160 = .ok (.aload_n 0, 1) := by decide +kernel
theorem dX4_wash_161 : decode cX4_wash 161 = .ok (.getfield 77, 3) := by decide +kernel
theorem dX4_wash_164 : decode cX4_wash 164 = .ok (.iload 6, 2) := by decide +kernel
theorem dX4_wash_166 : decode cX4_wash 166 = .ok (.aload_n 0, 1) := by decide +kernel
theorem dX4_wash_167 : decode cX4_wash 167 = .ok (.getfield 77, 3) := by decide +kernel
theorem dX4_wash_170 : decode cX4_wash 170 = .ok (.iload 6, 2) := by decide +kernel
theorem dX4_wash_172 : decode cX4_wash 172 = .ok (.iaload, 1) := by decide +kernel
theorem dX4_wash_173 : decode cX4_wash 173 = .ok (.iload 7, 2) := by decide +kernel
theorem dX4_wash_175 : decode cX4_wash 175 = .ok (.if_icmp .ge 7, 3) := by decide +kernel
theorem dX4_wash_178 : decode cX4_wash 178 = .ok (.iconst 0, 1) := by decide +kernel
theorem dX4_wash_179 : decode cX4_wash 179 = .ok (.goto 13, 3) := by decide +kernel
theorem dX4_wash_182 : decode cX4_wash 182 = .ok (.aload_n 0, 1) := by decide +kernel
theorem dX4_wash_183 : decode cX4_wash 183 = .ok (.getfield 77, 3) := by decide +kernel
theorem dX4_wash_186 : decode cX4_wash 186 = .ok (.iload 6, 2) := by decide +kernel
theorem dX4_wash_188 : decode cX4_wash 188 = .ok (.iaload, 1) := by decide +kernel
theorem dX4_wash_189 : decode cX4_wash 189 = .ok (.iload 7, 2) := by decide +kernel
theorem dX4_wash_191 : decode cX4_wash 191 = .ok (.isub, 1) := by decide +kernel
theorem dX4_wash_192 : decode cX4_wash 192 = .ok (.iastore, 1) := by decide +kernel
theorem dX4_wash_193 : decode cX4_wash 193 = .ok (.iinc 3 1, 3) := by decide +kernel
theorem dX4_wash_196 : decode cX4_wash 196 = .ok (.goto (-160), 3) := by decide +kernel
theorem dX4_wash_199 : decode cX4_wash 199 = .ok (.aload_n 0, 1) := by decide +kernel
theorem dX4_wash_200 : decode cX4_wash 200 = .ok (.iload_n 1, 1) := by decide +kernel
theorem dX4_wash_201 : decode cX4_wash 201 = .ok (.invokevirtual 159, 3) := by decide +kernel
theorem dX4_wash_204 : decode cX4_wash 204 = .ok (.ireturn, 1) := by decide +kernel
theorem dX4_copies_0 : decode cX4_copies 0 = .ok (.iconst 0, 1) := by decide +kernel
theorem dX4_copies_1 : decode cX4_copies 1 = .ok (.istore 5, 2) := by decide +kernel
theorem dX4_copies_3 : decode cX4_copies 3 = .ok (.iload 5, 2) := by decide +kernel
theorem dX4_copies_5 : decode cX4_copies 5 = .ok (.aload_n 0, 1) := by decide +kernel
theorem dX4_copies_6 : decode cX4_copies 6 = .ok (.getfield 47, 3) := by decide +kernel
theorem dX4_copies_9 : decode cX4_copies 9 = .ok (.iload_n 1, 1) := by decide +kernel
theorem dX4_copies_10 : decode cX4_copies 10 = .ok (.iaload, 1) := by decide +kernel
theorem dX4_copies_11 : decode cX4_copies 11 = .ok (.if_icmp .ge 70, 3) := by decide +kernel
theorem dX4_copies_14 : decode cX4_copies 14 = .ok (.iload_n 3, 1) := by decide +kernel
theorem dX4_copies_15 : decode cX4_copies 15 = .ok (.iload 4, 2) := by decide +kernel
theorem dX4_copies_17 : decode cX4_copies 17 = .ok (.iload 5, 2) := by decide +kernel
theorem dX4_copies_19 : decode cX4_copies 19 = .ok (.invokestatic 115, 3) := by decide +kernel
theorem dX4_copies_22 : decode cX4_copies 22 = .ok (.istore 6, 2) := by decide +kernel
theorem dX4_copies_24 : decode cX4_copies 24 = .ok (.iload_n 1, 1) := by decide +kernel
theorem dX4_copies_25 : decode cX4_copies 25 = .ok (.iload_n 2, 1) := by decide +kernel
theorem dX4_copies_26 : decode cX4_copies 26 = .ok (.iload 5, 2) := by decide +kernel
theorem dX4_copies_28 : decode cX4_copies 28 = .ok (.invokestatic 115, 3) := by decide +kernel
theorem dX4_copies_31 : decode cX4_copies 31 = .ok (.istore 7, 2) := by decide +kernel
theorem dX4_copies_33 : decode cX4_copies 33 = .ok (.aload_n 0, 1) := by decide +kernel
theorem dX4_copies_34 : decode cX4_copies 34 = .ok (.getfield 71, 3) := by decide +kernel
theorem dX4_copies_37 : decode cX4_copies 37 = .ok (.iload 6, 2) := by decide +kernel
theorem dX4_copies_39 : decode cX4_copies 39 = .ok (.aload_n 0, 1) := by decide +kernel
theorem dX4_copies_40 : decode cX4_copies 40 = .ok (.getfield 71, 3) := by decide +kernel
theorem dX4_copies_43 : decode cX4_copies 43 = .ok (.iload 7, 2) := by decide +kernel
theorem dX4_copies_45 : decode cX4_copies 45 = .ok (.iaload, 1) := by decide +kernel
theorem dX4_copies_46 : decode cX4_copies 46 = .ok (.iastore, 1) := by decide +kernel
theorem dX4_copies_47 : decode cX4_copies 47 = .ok (.aload_n 0, 1) := by decide +kernel
theorem dX4_copies_48 : decode cX4_copies 48 = .ok (.getfield 74, 3) := by decide +kernel
theorem dX4_copies_51 : decode cX4_copies 51 = .ok (.iload 6, 2) := by decide +kernel
theorem dX4_copies_53 : decode cX4_copies 53 = .ok (.aload_n 0, 1) := by decide +kernel
theorem dX4_copies_54 : decode cX4_copies 54 = .ok (.getfield 74, 3) := by decide +kernel
theorem dX4_copies_57 : decode cX4_copies 57 = .ok (.iload 7, 2) := by decide +kernel
theorem dX4_copies_59 : decode cX4_copies 59 = .ok (.iaload, 1) := by decide +kernel
theorem dX4_copies_60 : decode cX4_copies 60 = .ok (.iastore, 1) := by decide +kernel
theorem dX4_copies_61 : decode cX4_copies 61 = .ok (.aload_n 0, 1) := by decide +kernel
theorem dX4_copies_62 : decode cX4_copies 62 = .ok (.getfield 77, 3) := by decide +kernel
theorem dX4_copies_65 : decode cX4_copies 65 = .ok (.iload 6, 2) := by decide +kernel
theorem dX4_copies_67 : decode cX4_copies 67 = .ok (.aload_n 0, 1) := by decide +kernel
theorem dX4_copies_68 : decode cX4_copies 68 = .ok (.getfield 77, 3) := by decide +kernel
theorem dX4_copies_71 : decode cX4_copies 71 = .ok (.iload 7, 2) := by decide +kernel
theorem dX4_copies_73 : decode cX4_copies 73 = .ok (.iaload, 1) := by decide +kernel
theorem dX4_copies_74 : decode cX4_copies 74 = .ok (.iastore, 1) := by decide +kernel
theorem dX4_copies_75 : decode cX4_copies 75 = .ok (.iinc 5 1, 3) := by decide +kernel
theorem dX4_copies_78 : decode cX4_copies 78 = .ok (.goto (-75), 3) := by decide +kernel
theorem dX4_copies_81 : decode cX4_copies 81 = .ok (.aload_n 0, 1) := by decide +kernel
theorem dX4_copies_82 : decode cX4_copies 82 = .ok (.iload_n 3, 1) := by decide +kernel
theorem dX4_copies_83 : decode cX4_copies 83 = .ok (.iload 4, 2) := by decide +kernel
theorem dX4_copies_85 : decode cX4_copies 85 = .ok (.aload_n 0, 1) := by decide +kernel
theorem dX4_copies_86 : decode cX4_copies 86 = .ok (.getfield 62, 3) := by decide +kernel
theorem dX4_copies_89 : decode cX4_copies 89 = .ok (.bipush 24, 2) := by decide +kernel
theorem dX4_copies_91 : decode cX4_copies 91 = .ok (.iload_n 1, 1) := by decide +kernel
theorem dX4_copies_92 : decode cX4_copies 92 = .ok (.imul, 1) := by decide +kernel
theorem dX4_copies_93 : decode cX4_copies 93 = .ok (.iload_n 2, 1) := by decide +kernel
theorem dX4_copies_94 : decode cX4_copies 94 = .ok (.iadd, 1) := by decide +kernel
theorem dX4_copies_95 : decode cX4_copies 95 = .ok (.iaload, 1) := by decide +kernel
theorem dX4_copies_96 : decode cX4_copies 96 = .ok (.aload_n 0, 1) := by decide +kernel
theorem dX4_copies_97 : decode cX4_copies 97 = .ok (.getfield 65, 3) := by decide +kernel
theorem dX4_copies_100 : decode cX4_copies 100 = .ok (.bipush 24, 2) := by decide +kernel
theorem dX4_copies_102 : decode cX4_copies 102 = .ok (.iload_n 1, 1) := by decide +kernel
theorem dX4_copies_103 : decode cX4_copies 103 = .ok (.imul, 1) := by decide +kernel
theorem dX4_copies_104 : decode cX4_copies 104 = .ok (.iload_n 2, 1) := by decide +kernel
theorem dX4_copies_105 : decode cX4_copies 105 = .ok (.iadd, 1) := by decide +kernel
theorem dX4_copies_106 : decode cX4_copies 106 = .ok (.iaload, 1) := by decide +kernel
theorem dX4_copies_107 : decode cX4_copies 107 = .ok (.invokevirtual 123, 3) := by decide +kernel
theorem dX4_copies_110 : decode cX4_copies 110 = .ok (.aload_n 0, 1) := by decide +kernel
theorem dX4_copies_111 : decode cX4_copies 111 = .ok (.getfield 68, 3) := by decide +kernel
theorem dX4_copies_114 : decode cX4_copies 114 = .ok (.bipush 24, 2) := by decide +kernel
theorem dX4_copies_116 : decode cX4_copies 116 = .ok (.iload_n 3, 1) := by decide +kernel
theorem dX4_copies_117 : decode cX4_copies 117 = .ok (.imul, 1) := by decide +kernel
theorem dX4_copies_118 : decode cX4_copies 118 = .ok (.iload 4, 2) := by decide +kernel
theorem dX4_copies_120 : decode cX4_copies 120 = .ok (.iadd, 1) := by decide +kernel
theorem dX4_copies_121 : decode cX4_copies 121 = .ok (.iload_n 2, 1) := by decide +kernel
theorem dX4_copies_122 : decode cX4_copies 122 = .ok (.ifCond .le 26, 3) := by decide +kernel
theorem dX4_copies_125 : decode cX4_copies 125 = .ok (.iload 4, 2) := by decide +kernel
theorem dX4_copies_127 : decode cX4_copies 127 = .ok (.ifCond .le 21, 3) := by decide +kernel
theorem dX4_copies_130 : decode cX4_copies 130 = .ok (.aload_n 0, 1) := by decide +kernel
theorem dX4_copies_131 : decode cX4_copies 131 = .ok (.getfield 68, 3) := by decide +kernel
theorem dX4_copies_134 : decode cX4_copies 134 = .ok (.bipush 24, 2) := by decide +kernel
theorem dX4_copies_136 : decode cX4_copies 136 = .ok (.iload_n 1, 1) := by decide +kernel
theorem dX4_copies_137 : decode cX4_copies 137 = .ok (.imul, 1) := by decide +kernel
theorem dX4_copies_138 : decode cX4_copies 138 = .ok (.iload_n 2, 1) := by decide +kernel
theorem dX4_copies_139 : decode cX4_copies 139 = .ok (.iadd, 1) := by decide +kernel
theorem dX4_copies_140 : decode cX4_copies 140 = .ok (.baload, 1) := by decide +kernel
theorem dX4_copies_141 : decode cX4_copies 141 = .ok (.ifCond .eq 7, 3) := by decide +kernel
theorem dX4_copies_144 : decode cX4_copies 144 = .ok (.iconst 1, 1) := by decide +kernel
theorem dX4_copies_145 : decode cX4_copies 145 = .ok (.goto 4, 3) := by decide +kernel
theorem dX4_copies_148 : decode cX4_copies 148 = .ok (.iconst 0, 1) := by decide +kernel
theorem dX4_copies_149 : decode cX4_copies 149 = .ok (.bastore, 1) := by decide +kernel
theorem dX4_copies_150 : decode cX4_copies 150 = .ok (.return_, 1) := by decide +kernel
theorem dX4_cut_0 : decode cX4_cut 0 = .ok (.aload_n 0, 1) := by decide +kernel
theorem dX4_cut_1 : decode cX4_cut 1 = .ok (.iload_n 1, 1) := by decide +kernel
theorem dX4_cut_2 : decode cX4_cut 2 = .ok (.iload_n 2, 1) := by decide +kernel
theorem dX4_cut_3 : decode cX4_cut 3 = .ok (.invokevirtual 162, 3) := by decide +kernel
theorem dX4_cut_6 : decode cX4_cut 6 = .ok (.istore_n 3, 1) := by decide +kernel
theorem dX4_cut_7 : decode cX4_cut 7 = .ok (.aload_n 0, 1) := by decide +kernel
theorem dX4_cut_8 : decode cX4_cut 8 = .ok (.iload_n 3, 1) := by decide +kernel
theorem dX4_cut_9 : decode cX4_cut 9 = .ok (.iload_n 3, 1) := by decide +kernel
theorem dX4_cut_10 : decode cX4_cut 10 = .ok (.ifCond .eq 24, 3) := by decide +kernel
theorem dX4_cut_13 : decode cX4_cut 13 = .ok (.aload_n 0, 1) := by decide +kernel
theorem dX4_cut_14 : decode cX4_cut 14 = .ok (.iload_n 1, 1) := by decide +kernel
theorem dX4_cut_15 : decode cX4_cut 15 = .ok (.invokevirtual 147, 3) := by decide +kernel
theorem dX4_cut_18 : decode cX4_cut 18 = .ok (.ifCond .eq 16, 3) := by decide +kernel
theorem dX4_cut_21 : decode cX4_cut 21 = .ok (.aload_n 0, 1) := by decide +kernel
theorem dX4_cut_22 : decode cX4_cut 22 = .ok (.getfield 91, 3) := by decide +kernel
theorem dX4_cut_25 : decode cX4_cut 25 = .ok (.bipush 20, 2) := by decide +kernel
theorem dX4_cut_27 : decode cX4_cut 27 = .ok (.if_icmp .ge 7, 3) := by decide +kernel
theorem dX4_cut_30 : decode cX4_cut 30 = .ok (.iconst 1, 1) := by decide +kernel
theorem dX4_cut_31 : decode cX4_cut 31 = .ok (.goto 4, 3) := by decide +kernel
theorem dX4_cut_34 : decode cX4_cut 34 = .ok (.iconst 0, 1) := by decide +kernel
theorem dX4_cut_35 : decode cX4_cut 35 = .ok (.iconst 1, 1) := by decide +kernel
theorem dX4_cut_36 : decode cX4_cut 36 = .ok (.invokevirtual 101, 3) := by decide +kernel
theorem dX4_cut_39 : decode cX4_cut 39 = .ok (.ifCond .ne 5, 3) := by decide +kernel
theorem dX4_cut_42 : decode cX4_cut 42 = .ok (.iconst 0, 1) := by decide +kernel
theorem dX4_cut_43 : decode cX4_cut 43 = .ok (.ireturn, 1) := by decide +kernel
theorem dX4_cut_44 : decode cX4_cut 44 = .ok (.aload_n 0, 1) := by decide +kernel
theorem dX4_cut_45 : decode cX4_cut 45 = .ok (.getfield 47, 3) := by decide +kernel
theorem dX4_cut_48 : decode cX4_cut 48 = .ok (.aload_n 0, 1) := by decide +kernel
theorem dX4_cut_49 : decode cX4_cut 49 = .ok (.getfield 91, 3) := by decide +kernel
theorem dX4_cut_52 : decode cX4_cut 52 = .ok (.aload_n 0, 1) := by decide +kernel
theorem dX4_cut_53 : decode cX4_cut 53 = .ok (.getfield 47, 3) := by decide +kernel
theorem dX4_cut_56 : decode cX4_cut 56 = .ok (.iload_n 1, 1) := by decide +kernel
theorem dX4_cut_57 : decode cX4_cut 57 = .ok (.iaload, 1) := by decide +kernel
theorem dX4_cut_58 : decode cX4_cut 58 = .ok (.iastore, 1) := by decide +kernel
theorem dX4_cut_59 : decode cX4_cut 59 = .ok (.aload_n 0, 1) := by decide +kernel
theorem dX4_cut_60 : decode cX4_cut 60 = .ok (.getfield 44, 3) := by decide +kernel
theorem dX4_cut_63 : decode cX4_cut 63 = .ok (.aload_n 0, 1) := by decide +kernel
theorem dX4_cut_64 : decode cX4_cut 64 = .ok (.getfield 91, 3) := by decide +kernel
theorem dX4_cut_67 : decode cX4_cut 67 = .ok (.aload_n 0, 1) := by decide +kernel
theorem dX4_cut_68 : decode cX4_cut 68 = .ok (.getfield 44, 3) := by decide +kernel
theorem dX4_cut_71 : decode cX4_cut 71 = .ok (.iload_n 1, 1) := by decide +kernel
theorem dX4_cut_72 : decode cX4_cut 72 = .ok (.iaload, 1) := by decide +kernel
theorem dX4_cut_73 : decode cX4_cut 73 = .ok (.iload_n 2, 1) := by decide +kernel
theorem dX4_cut_74 : decode cX4_cut 74 = .ok (.isub, 1) := by decide +kernel
theorem dX4_cut_75 : decode cX4_cut 75 = .ok (.iastore, 1) := by decide +kernel
theorem dX4_cut_76 : decode cX4_cut 76 = .ok (.iload_n 2, 1) := by decide +kernel
theorem dX4_cut_77 : decode cX4_cut 77 = .ok (.istore 4, 2) := by decide +kernel
theorem dX4_cut_79 : decode cX4_cut 79 = .ok (.iload 4, 2) := by decide +kernel
theorem dX4_cut_81 : decode cX4_cut 81 = .ok (.aload_n 0, 1) := by decide +kernel
theorem dX4_cut_82 : decode cX4_cut 82 = .ok (.getfield 44, 3) := by decide +kernel
theorem dX4_cut_85 : decode cX4_cut 85 = .ok (.iload_n 1, 1) := by decide +kernel
theorem dX4_cut_86 : decode cX4_cut 86 = .ok (.iaload, 1) := by decide +kernel
theorem dX4_cut_87 : decode cX4_cut 87 = .ok (.if_icmp .ge 24, 3) := by decide +kernel
theorem dX4_cut_90 : decode cX4_cut 90 = .ok (.aload_n 0, 1) := by decide +kernel
theorem dX4_cut_91 : decode cX4_cut 91 = .ok (.iload_n 1, 1) := by decide +kernel
theorem dX4_cut_92 : decode cX4_cut 92 = .ok (.iload 4, 2) := by decide +kernel
theorem dX4_cut_94 : decode cX4_cut 94 = .ok (.aload_n 0, 1) := by decide +kernel
theorem dX4_cut_95 : decode cX4_cut 95 = .ok (.getfield 91, 3) := by decide +kernel
theorem dX4_cut_98 : decode cX4_cut 98 = .ok (.iload 4, 2) := by decide +kernel
theorem dX4_cut_100 : decode cX4_cut 100 = .ok (.iload_n 2, 1) := by decide +kernel
theorem dX4_cut_101 : decode cX4_cut 101 = .ok (.isub, 1) := by decide +kernel
theorem dX4_cut_102 : decode cX4_cut 102 = .ok (.invokevirtual 169, 3) := by decide +kernel
theorem dX4_cut_105 : decode cX4_cut 105 = .ok (.iinc 4 1, 3) := by decide +kernel
theorem dX4_cut_108 : decode cX4_cut 108 = .ok (.goto (-29), 3) := by decide +kernel
theorem dX4_cut_111 : decode cX4_cut 111 = .ok (.aload_n 0, 1) := by decide +kernel
theorem dX4_cut_112 : decode cX4_cut 112 = .ok (.getfield 44, 3) := by decide +kernel
theorem dX4_cut_115 : decode cX4_cut 115 = .ok (.iload_n 1, 1) := by decide +kernel
theorem dX4_cut_116 : decode cX4_cut 116 = .ok (.iload_n 2, 1) := by decide +kernel
theorem dX4_cut_117 : decode cX4_cut 117 = .ok (.iastore, 1) := by decide +kernel
theorem dX4_cut_118 : decode cX4_cut 118 = .ok (.aload_n 0, 1) := by decide +kernel
theorem dX4_cut_119 : decode cX4_cut 119 = .ok (.dup, 1) := by decide +kernel
theorem dX4_cut_120 : decode cX4_cut 120 = .ok (.getfield 91, 3) := by decide +kernel
theorem dX4_cut_123 : decode cX4_cut 123 = .ok (.iconst 1, 1) := by decide +kernel
theorem dX4_cut_124 : decode cX4_cut 124 = .ok (.iadd, 1) := by decide +kernel
theorem dX4_cut_125 : decode cX4_cut 125 = .ok (.putfield 91, 3) := by decide +kernel
theorem dX4_cut_128 : decode cX4_cut 128 = .ok (.aload_n 0, 1) := by decide +kernel
theorem dX4_cut_129 : decode cX4_cut 129 = .ok (.getfield 91, 3) := by decide +kernel
theorem dX4_cut_132 : decode cX4_cut 132 = .ok (.iconst 1, 1) := by decide +kernel
theorem dX4_cut_133 : decode cX4_cut 133 = .ok (.isub, 1) := by decide +kernel
theorem dX4_cut_134 : decode cX4_cut 134 = .ok (.ireturn, 1) := by decide +kernel
theorem dX4_match_0 : decode cX4_match 0 = .ok (.aload_n 0, 1) := by decide +kernel
theorem dX4_match_1 : decode cX4_match 1 = .ok (.iload_n 1, 1) := by decide +kernel
theorem dX4_match_2 : decode cX4_match 2 = .ok (.invokevirtual 133, 3) := by decide +kernel
theorem dX4_match_5 : decode cX4_match 5 = .ok (.ifCond .eq 15, 3) := by decide +kernel
theorem dX4_match_8 : decode cX4_match 8 = .ok (.aload_n 0, 1) := by decide +kernel
theorem dX4_match_9 : decode cX4_match 9 = .ok (.iload_n 2, 1) := by decide +kernel
theorem dX4_match_10 : decode cX4_match 10 = .ok (.invokevirtual 133, 3) := by decide +kernel
theorem dX4_match_13 : decode cX4_match 13 = .ok (.ifCond .eq 7, 3) := by decide +kernel
theorem dX4_match_16 : decode cX4_match 16 = .ok (.iconst 1, 1) := by decide +kernel
theorem dX4_match_17 : decode cX4_match 17 = .ok (.goto 4, 3) := by decide +kernel
theorem dX4_match_20 : decode cX4_match 20 = .ok (.iconst 0, 1) := by decide +kernel
theorem dX4_match_21 : decode cX4_match 21 = .ok (.istore_n 3, 1) := by decide +kernel
theorem dX4_match_22 : decode cX4_match 22 = .ok (.aload_n 0, 1) := by decide +kernel
theorem dX4_match_23 : decode cX4_match 23 = .ok (.iload_n 3, 1) := by decide +kernel
theorem dX4_match_24 : decode cX4_match 24 = .ok (.iload_n 1, 1) := by decide +kernel
theorem dX4_match_25 : decode cX4_match 25 = .ok (.iload_n 2, 1) := by decide +kernel
theorem dX4_match_26 : decode cX4_match 26 = .ok (.if_icmp .eq 7, 3) := by decide +kernel
theorem dX4_match_29 : decode cX4_match 29 = .ok (.iconst 1, 1) := by decide +kernel
theorem dX4_match_30 : decode cX4_match 30 = .ok (.goto 4, 3) := by decide +kernel
theorem dX4_match_33 : decode cX4_match 33 = .ok (.iconst 0, 1) := by decide +kernel
theorem dX4_match_34 : decode cX4_match 34 = .ok (.iload_n 3, 1) := by decide +kernel
theorem dX4_match_35 : decode cX4_match 35 = .ok (.ifCond .eq 23, 3) := by decide +kernel
theorem dX4_match_38 : decode cX4_match 38 = .ok (.aload_n 0, 1) := by decide +kernel
theorem dX4_match_39 : decode cX4_match 39 = .ok (.iload_n 1, 1) := by decide +kernel
theorem dX4_match_40 : decode cX4_match 40 = .ok (.invokevirtual 147, 3) := by decide +kernel
theorem dX4_match_43 : decode cX4_match 43 = .ok (.ifCond .eq 15, 3) := by decide +kernel
theorem dX4_match_46 : decode cX4_match 46 = .ok (.aload_n 0, 1) := by decide +kernel
theorem dX4_match_47 : decode cX4_match 47 = .ok (.iload_n 2, 1) := by decide +kernel
theorem dX4_match_48 : decode cX4_match 48 = .ok (.invokevirtual 147, 3) := by decide +kernel
theorem dX4_match_51 : decode cX4_match 51 = .ok (.ifCond .eq 7, 3) := by decide +kernel
theorem dX4_match_54 : decode cX4_match 54 = .ok (.iconst 1, 1) := by decide +kernel
theorem dX4_match_55 : decode cX4_match 55 = .ok (.goto 4, 3) := by decide +kernel
theorem dX4_match_58 : decode cX4_match 58 = .ok (.iconst 0, 1) := by decide +kernel
theorem dX4_match_59 : decode cX4_match 59 = .ok (.invokevirtual 101, 3) := by decide +kernel
theorem dX4_match_62 : decode cX4_match 62 = .ok (.ifCond .ne 5, 3) := by decide +kernel
theorem dX4_match_65 : decode cX4_match 65 = .ok (.iconst 0, 1) := by decide +kernel
theorem dX4_match_66 : decode cX4_match 66 = .ok (.ireturn, 1) := by decide +kernel
theorem dX4_match_67 : decode cX4_match 67 = .ok (.iconst 0, 1) := by decide +kernel
theorem dX4_match_68 : decode cX4_match 68 = .ok (.istore 4, 2) := by decide +kernel
theorem dX4_match_70 : decode cX4_match 70 = .ok (.iconst 0, 1) := by decide +kernel
theorem dX4_match_71 : decode cX4_match 71 = .ok (.istore 5, 2) := by decide +kernel
theorem dX4_match_73 : decode cX4_match 73 = .ok (.iload 5, 2) := by decide +kernel
theorem dX4_match_75 : decode cX4_match 75 = .ok (.aload_n 0, 1) := by decide +kernel
theorem dX4_match_76 : decode cX4_match 76 = .ok (.getfield 47, 3) := by decide +kernel
theorem dX4_match_79 : decode cX4_match 79 = .ok (.iload_n 1, 1) := by decide +kernel
theorem dX4_match_80 : decode cX4_match 80 = .ok (.iaload, 1) := by decide +kernel
theorem dX4_match_81 : decode cX4_match 81 = .ok (.if_icmp .ge 53, 3) := by decide +kernel
theorem dX4_match_84 : decode cX4_match 84 = .ok (.iload 4, 2) := by decide +kernel
theorem dX4_match_86 : decode cX4_match 86 = .ok (.aload_n 0, 1) := by decide +kernel
theorem dX4_match_87 : decode cX4_match 87 = .ok (.getfield 74, 3) := by decide +kernel
theorem dX4_match_90 : decode cX4_match 90 = .ok (.iload_n 1, 1) := by decide +kernel
theorem dX4_match_91 : decode cX4_match 91 = .ok (.aload_n 0, 1) := by decide +kernel
theorem dX4_match_92 : decode cX4_match 92 = .ok (.getfield 44, 3) := by decide +kernel
theorem dX4_match_95 : decode cX4_match 95 = .ok (.iload_n 1, 1) := by decide +kernel
theorem dX4_match_96 : decode cX4_match 96 = .ok (.iaload, 1) := by decide +kernel
theorem dX4_match_97 : decode cX4_match 97 = .ok (.iconst 1, 1) := by decide +kernel
theorem dX4_match_98 : decode cX4_match 98 = .ok (.isub, 1) := by decide +kernel
theorem dX4_match_99 : decode cX4_match 99 = .ok (.iload 5, 2) := by decide +kernel
theorem dX4_match_101 : decode cX4_match 101 = .ok (.invokestatic 115, 3) := by decide +kernel
theorem dX4_match_104 : decode cX4_match 104 = .ok (.iaload, 1) := by decide +kernel
theorem dX4_match_105 : decode cX4_match 105 = .ok (.aload_n 0, 1) := by decide +kernel
theorem dX4_match_106 : decode cX4_match 106 = .ok (.getfield 74, 3) := by decide +kernel
theorem dX4_match_109 : decode cX4_match 109 = .ok (.iload_n 2, 1) := by decide +kernel
theorem dX4_match_110 : decode cX4_match 110 = .ok (.iconst 0, 1) := by decide +kernel
theorem dX4_match_111 : decode cX4_match 111 = .ok (.iload 5, 2) := by decide +kernel
theorem dX4_match_113 : decode cX4_match 113 = .ok (.invokestatic 115, 3) := by decide +kernel
theorem dX4_match_116 : decode cX4_match 116 = .ok (.iaload, 1) := by decide +kernel
theorem dX4_match_117 : decode cX4_match 117 = .ok (.if_icmp .ne 7, 3) := by decide +kernel
theorem dX4_match_120 : decode cX4_match 120 = .ok (.iconst 1, 1) := by decide +kernel
theorem dX4_match_121 : decode cX4_match 121 = .ok (.goto 4, 3) := by decide +kernel
theorem dX4_match_124 : decode cX4_match 124 = .ok (.iconst 0, 1) := by decide +kernel
theorem dX4_match_125 : decode cX4_match 125 = .ok (.iadd, 1) := by decide +kernel
theorem dX4_match_126 : decode cX4_match 126 = .ok (.istore 4, 2) := by decide +kernel
theorem dX4_match_128 : decode cX4_match 128 = .ok (.iinc 5 1, 3) := by decide +kernel
theorem dX4_match_131 : decode cX4_match 131 = .ok (.goto (-58), 3) := by decide +kernel
theorem dX4_match_134 : decode cX4_match 134 = .ok (.aload_n 0, 1) := by decide +kernel
theorem dX4_match_135 : decode cX4_match 135 = .ok (.getfield 47, 3) := by decide +kernel
theorem dX4_match_138 : decode cX4_match 138 = .ok (.iload_n 1, 1) := by decide +kernel
theorem dX4_match_139 : decode cX4_match 139 = .ok (.iaload, 1) := by decide +kernel
theorem dX4_match_140 : decode cX4_match 140 = .ok (.aload_n 0, 1) := by decide +kernel
theorem dX4_match_141 : decode cX4_match 141 = .ok (.getfield 47, 3) := by decide +kernel
theorem dX4_match_144 : decode cX4_match 144 = .ok (.iload_n 2, 1) := by decide +kernel
theorem dX4_match_145 : decode cX4_match 145 = .ok (.iaload, 1) := by decide +kernel
theorem dX4_match_146 : decode cX4_match 146 = .ok (.if_icmp .ne 8, 3) := by decide +kernel
theorem dX4_match_149 : decode cX4_match 149 = .ok (.iload 4, 2) := by decide +kernel
theorem dX4_match_151 : decode cX4_match 151 = .ok (.goto 4, 3) := by decide +kernel
theorem dX4_match_154 : decode cX4_match 154 = .ok (.iconst (-1), 1) := by decide +kernel
theorem dX4_match_155 : decode cX4_match 155 = .ok (.ireturn, 1) := by decide +kernel
theorem dX4_isRight_0 : decode cX4_isRight 0 = .ok (.bipush 24, 2) := by decide +kernel
theorem dX4_isRight_2 : decode cX4_isRight 2 = .ok (.iload_n 1, 1) := by decide +kernel
theorem dX4_isRight_3 : decode cX4_isRight 3 = .ok (.imul, 1) := by decide +kernel
theorem dX4_isRight_4 : decode cX4_isRight 4 = .ok (.iload_n 2, 1) := by decide +kernel
theorem dX4_isRight_5 : decode cX4_isRight 5 = .ok (.iadd, 1) := by decide +kernel
theorem dX4_isRight_6 : decode cX4_isRight 6 = .ok (.istore_n 3, 1) := by decide +kernel
theorem dX4_isRight_7 : decode cX4_isRight 7 = .ok (.aload_n 0, 1) := by decide +kernel
theorem dX4_isRight_8 : decode cX4_isRight 8 = .ok (.getfield 62, 3) := by decide +kernel
theorem dX4_isRight_11 : decode cX4_isRight 11 = .ok (.iload_n 3, 1) := by decide +kernel
theorem dX4_isRight_12 : decode cX4_isRight 12 = .ok (.iconst 1, 1) := by decide +kernel
theorem dX4_isRight_13 : decode cX4_isRight 13 = .ok (.isub, 1) := by decide +kernel
theorem dX4_isRight_14 : decode cX4_isRight 14 = .ok (.iaload, 1) := by decide +kernel
theorem dX4_isRight_15 : decode cX4_isRight 15 = .ok (.aload_n 0, 1) := by decide +kernel
theorem dX4_isRight_16 : decode cX4_isRight 16 = .ok (.getfield 62, 3) := by decide +kernel
theorem dX4_isRight_19 : decode cX4_isRight 19 = .ok (.iload_n 3, 1) := by decide +kernel
theorem dX4_isRight_20 : decode cX4_isRight 20 = .ok (.iaload, 1) := by decide +kernel
theorem dX4_isRight_21 : decode cX4_isRight 21 = .ok (.if_icmp .ne 26, 3) := by decide +kernel
theorem dX4_isRight_24 : decode cX4_isRight 24 = .ok (.aload_n 0, 1) := by decide +kernel
theorem dX4_isRight_25 : decode cX4_isRight 25 = .ok (.getfield 65, 3) := by decide +kernel
theorem dX4_isRight_28 : decode cX4_isRight 28 = .ok (.iload_n 3, 1) := by decide +kernel
theorem dX4_isRight_29 : decode cX4_isRight 29 = .ok (.iconst 1, 1) := by decide +kernel
theorem dX4_isRight_30 : decode cX4_isRight 30 = .ok (.isub, 1) := by decide +kernel
theorem dX4_isRight_31 : decode cX4_isRight 31 = .ok (.iaload, 1) := by decide +kernel
theorem dX4_isRight_32 : decode cX4_isRight 32 = .ok (.iconst 1, 1) := by decide +kernel
theorem dX4_isRight_33 : decode cX4_isRight 33 = .ok (.iadd, 1) := by decide +kernel
theorem dX4_isRight_34 : decode cX4_isRight 34 = .ok (.aload_n 0, 1) := by decide +kernel
theorem dX4_isRight_35 : decode cX4_isRight 35 = .ok (.getfield 65, 3) := by decide +kernel
theorem dX4_isRight_38 : decode cX4_isRight 38 = .ok (.iload_n 3, 1) := by decide +kernel
theorem dX4_isRight_39 : decode cX4_isRight 39 = .ok (.iaload, 1) := by decide +kernel
theorem dX4_isRight_40 : decode cX4_isRight 40 = .ok (.if_icmp .ne 7, 3) := by decide +kernel
theorem dX4_isRight_43 : decode cX4_isRight 43 = .ok (.iconst 1, 1) := by decide +kernel
theorem dX4_isRight_44 : decode cX4_isRight 44 = .ok (.goto 4, 3) := by decide +kernel
theorem dX4_isRight_47 : decode cX4_isRight 47 = .ok (.iconst 0, 1) := by decide +kernel
theorem dX4_isRight_48 : decode cX4_isRight 48 = .ok (.ireturn, 1) := by decide +kernel
theorem dX4_join_0 : decode cX4_join 0 = .ok (.aload_n 0, 1) := by decide +kernel
theorem dX4_join_1 : decode cX4_join 1 = .ok (.iload_n 1, 1) := by decide +kernel
theorem dX4_join_2 : decode cX4_join 2 = .ok (.invokevirtual 133, 3) := by decide +kernel
theorem dX4_join_5 : decode cX4_join 5 = .ok (.ifCond .eq 15, 3) := by decide +kernel
theorem dX4_join_8 : decode cX4_join 8 = .ok (.aload_n 0, 1) := by decide +kernel
theorem dX4_join_9 : decode cX4_join 9 = .ok (.iload_n 2, 1) := by decide +kernel
theorem dX4_join_10 : decode cX4_join 10 = .ok (.invokevirtual 133, 3) := by decide +kernel
theorem dX4_join_13 : decode cX4_join 13 = .ok (.ifCond .eq 7, 3) := by decide +kernel
theorem dX4_join_16 : decode cX4_join 16 = .ok (.iconst 1, 1) := by decide +kernel
theorem dX4_join_17 : decode cX4_join 17 = .ok (.goto 4, 3) := by decide +kernel
theorem dX4_join_20 : decode cX4_join 20 = .ok (.iconst 0, 1) := by decide +kernel
theorem dX4_join_21 : decode cX4_join 21 = .ok (.istore_n 3, 1) := by decide +kernel
theorem dX4_join_22 : decode cX4_join 22 = .ok (.iload_n 3, 1) := by decide +kernel
theorem dX4_join_23 : decode cX4_join 23 = .ok (.ifCond .eq 56, 3) := by decide +kernel
theorem dX4_join_26 : decode cX4_join 26 = .ok (.aload_n 0, 1) := by decide +kernel
theorem dX4_join_27 : decode cX4_join 27 = .ok (.iload_n 1, 1) := by decide +kernel
theorem dX4_join_28 : decode cX4_join 28 = .ok (.invokevirtual 147, 3) := by decide +kernel
theorem dX4_join_31 : decode cX4_join 31 = .ok (.ifCond .eq 48, 3) := by decide +kernel
theorem dX4_join_34 : decode cX4_join 34 = .ok (.aload_n 0, 1) := by decide +kernel
theorem dX4_join_35 : decode cX4_join 35 = .ok (.iload_n 2, 1) := by decide +kernel
theorem dX4_join_36 : decode cX4_join 36 = .ok (.invokevirtual 147, 3) := by decide +kernel
theorem dX4_join_39 : decode cX4_join 39 = .ok (.ifCond .eq 40, 3) := by decide +kernel
theorem dX4_join_42 : decode cX4_join 42 = .ok (.aload_n 0, 1) := by decide +kernel
theorem dX4_join_43 : decode cX4_join 43 = .ok (.getfield 47, 3) := by decide +kernel
theorem dX4_join_46 : decode cX4_join 46 = .ok (.iload_n 1, 1) := by decide +kernel
theorem dX4_join_47 : decode cX4_join 47 = .ok (.iaload, 1) := by decide +kernel
theorem dX4_join_48 : decode cX4_join 48 = .ok (.aload_n 0, 1) := by decide +kernel
theorem dX4_join_49 : decode cX4_join 49 = .ok (.getfield 47, 3) := by decide +kernel
theorem dX4_join_52 : decode cX4_join 52 = .ok (.iload_n 2, 1) := by decide +kernel
theorem dX4_join_53 : decode cX4_join 53 = .ok (.iaload, 1) := by decide +kernel
theorem dX4_join_54 : decode cX4_join 54 = .ok (.if_icmp .ne 25, 3) := by decide +kernel
theorem dX4_join_57 : decode cX4_join 57 = .ok (.aload_n 0, 1) := by decide +kernel
theorem dX4_join_58 : decode cX4_join 58 = .ok (.getfield 44, 3) := by decide +kernel
theorem dX4_join_61 : decode cX4_join 61 = .ok (.iload_n 1, 1) := by decide +kernel
theorem dX4_join_62 : decode cX4_join 62 = .ok (.iaload, 1) := by decide +kernel
theorem dX4_join_63 : decode cX4_join 63 = .ok (.aload_n 0, 1) := by decide +kernel
theorem dX4_join_64 : decode cX4_join 64 = .ok (.getfield 44, 3) := by decide +kernel
theorem dX4_join_67 : decode cX4_join 67 = .ok (.iload_n 2, 1) := by decide +kernel
theorem dX4_join_68 : decode cX4_join 68 = .ok (.iaload, 1) := by decide +kernel
theorem dX4_join_69 : decode cX4_join 69 = .ok (.iadd, 1) := by decide +kernel
theorem dX4_join_70 : decode cX4_join 70 = .ok (.bipush 24, 2) := by decide +kernel
theorem dX4_join_72 : decode cX4_join 72 = .ok (.if_icmp .gt 7, 3) := by decide +kernel
theorem dX4_join_75 : decode cX4_join 75 = .ok (.iconst 1, 1) := by decide +kernel
theorem dX4_join_76 : decode cX4_join 76 = .ok (.goto 4, 3) := by decide +kernel
theorem dX4_join_79 : decode cX4_join 79 = .ok (.iconst 0, 1) := by decide +kernel
theorem dX4_join_80 : decode cX4_join 80 = .ok (.istore 4, 2) := by decide +kernel
theorem dX4_join_82 : decode cX4_join 82 = .ok (.aload_n 0, 1) := by decide +kernel
theorem dX4_join_83 : decode cX4_join 83 = .ok (.iload_n 3, 1) := by decide +kernel
theorem dX4_join_84 : decode cX4_join 84 = .ok (.iload_n 1, 1) := by decide +kernel
theorem dX4_join_85 : decode cX4_join 85 = .ok (.iload_n 2, 1) := by decide +kernel
theorem dX4_join_86 : decode cX4_join 86 = .ok (.if_icmp .eq 7, 3) := by decide +kernel
theorem dX4_join_89 : decode cX4_join 89 = .ok (.iconst 1, 1) := by decide +kernel
theorem dX4_join_90 : decode cX4_join 90 = .ok (.goto 4, 3) := by decide +kernel
theorem dX4_join_93 : decode cX4_join 93 = .ok (.iconst 0, 1) := by decide +kernel
theorem dX4_join_94 : decode cX4_join 94 = .ok (.iload 4, 2) := by decide +kernel
theorem dX4_join_96 : decode cX4_join 96 = .ok (.invokevirtual 101, 3) := by decide +kernel
theorem dX4_join_99 : decode cX4_join 99 = .ok (.ifCond .ne 5, 3) := by decide +kernel
theorem dX4_join_102 : decode cX4_join 102 = .ok (.iconst 0, 1) := by decide +kernel
theorem dX4_join_103 : decode cX4_join 103 = .ok (.ireturn, 1) := by decide +kernel
theorem dX4_join_104 : decode cX4_join 104 = .ok (.aload_n 0, 1) := by decide +kernel
theorem dX4_join_105 : decode cX4_join 105 = .ok (.getfield 44, 3) := by decide +kernel
theorem dX4_join_108 : decode cX4_join 108 = .ok (.iload_n 1, 1) := by decide +kernel
theorem dX4_join_109 : decode cX4_join 109 = .ok (.iaload, 1) := by decide +kernel
theorem dX4_join_110 : decode cX4_join 110 = .ok (.istore 5, 2) := by decide +kernel
theorem dX4_join_112 : decode cX4_join 112 = .ok (.iconst 0, 1) := by decide +kernel
theorem dX4_join_113 : decode cX4_join 113 = .ok (.istore 6, 2) := by decide +kernel
theorem dX4_join_115 : decode cX4_join 115 = .ok (.iload 6, 2) := by decide +kernel
theorem dX4_join_117 : decode cX4_join 117 = .ok (.aload_n 0, 1) := by decide +kernel
theorem dX4_join_118 : decode cX4_join 118 = .ok (.getfield 44, 3) := by decide +kernel
theorem dX4_join_121 : decode cX4_join 121 = .ok (.iload_n 2, 1) := by decide +kernel
theorem dX4_join_122 : decode cX4_join 122 = .ok (.iaload, 1) := by decide +kernel
theorem dX4_join_123 : decode cX4_join 123 = .ok (.if_icmp .ge 22, 3) := by decide +kernel
theorem dX4_join_126 : decode cX4_join 126 = .ok (.aload_n 0, 1) := by decide +kernel
theorem dX4_join_127 : decode cX4_join 127 = .ok (.iload_n 2, 1) := by decide +kernel
theorem dX4_join_128 : decode cX4_join 128 = .ok (.iload 6, 2) := by decide +kernel
theorem dX4_join_130 : decode cX4_join 130 = .ok (.iload_n 1, 1) := by decide +kernel
theorem dX4_join_131 : decode cX4_join 131 = .ok (.iload 5, 2) := by decide +kernel
theorem dX4_join_133 : decode cX4_join 133 = .ok (.iload 6, 2) := by decide +kernel
theorem dX4_join_135 : decode cX4_join 135 = .ok (.iadd, 1) := by decide +kernel
theorem dX4_join_136 : decode cX4_join 136 = .ok (.invokevirtual 169, 3) := by decide +kernel
theorem dX4_join_139 : decode cX4_join 139 = .ok (.iinc 6 1, 3) := by decide +kernel
theorem dX4_join_142 : decode cX4_join 142 = .ok (.goto (-27), 3) := by decide +kernel
theorem dX4_join_145 : decode cX4_join 145 = .ok (.aload_n 0, 1) := by decide +kernel
theorem dX4_join_146 : decode cX4_join 146 = .ok (.getfield 44, 3) := by decide +kernel
theorem dX4_join_149 : decode cX4_join 149 = .ok (.iload_n 1, 1) := by decide +kernel
theorem dX4_join_150 : decode cX4_join 150 = .ok (.dup2, 1) := by decide +kernel
theorem dX4_join_151 : decode cX4_join 151 = .ok (.iaload, 1) := by decide +kernel
theorem dX4_join_152 : decode cX4_join 152 = .ok (.aload_n 0, 1) := by decide +kernel
theorem dX4_join_153 : decode cX4_join 153 = .ok (.getfield 44, 3) := by decide +kernel
theorem dX4_join_156 : decode cX4_join 156 = .ok (.iload_n 2, 1) := by decide +kernel
theorem dX4_join_157 : decode cX4_join 157 = .ok (.iaload, 1) := by decide +kernel
theorem dX4_join_158 : decode cX4_join 158 = .ok (.iadd, 1) := by decide +kernel
theorem dX4_join_159 : decode cX4_join 159 = .ok (.iastore, 1) := by decide +kernel
theorem dX4_join_160 : decode cX4_join 160 = .ok (.aload_n 0, 1) := by decide +kernel
theorem dX4_join_161 : decode cX4_join 161 = .ok (.getfield 53, 3) := by decide +kernel
theorem dX4_join_164 : decode cX4_join 164 = .ok (.iload_n 2, 1) := by decide +kernel
theorem dX4_join_165 : decode cX4_join 165 = .ok (.iconst 1, 1) := by decide +kernel
theorem dX4_join_166 : decode cX4_join 166 = .ok (.bastore, 1) := by decide +kernel
theorem dX4_join_167 : decode cX4_join 167 = .ok (.aload_n 0, 1) := by decide +kernel
theorem dX4_join_168 : decode cX4_join 168 = .ok (.iload_n 1, 1) := by decide +kernel
theorem dX4_join_169 : decode cX4_join 169 = .ok (.iload 5, 2) := by decide +kernel
theorem dX4_join_171 : decode cX4_join 171 = .ok (.invokevirtual 172, 3) := by decide +kernel
theorem dX4_join_174 : decode cX4_join 174 = .ok (.ireturn, 1) := by decide +kernel
theorem dX4_isTrue_0 : decode cX4_isTrue 0 = .ok (.aload_n 0, 1) := by decide +kernel
theorem dX4_isTrue_1 : decode cX4_isTrue 1 = .ok (.aload_n 0, 1) := by decide +kernel
theorem dX4_isTrue_2 : decode cX4_isTrue 2 = .ok (.iload_n 1, 1) := by decide +kernel
theorem dX4_isTrue_3 : decode cX4_isTrue 3 = .ok (.invokevirtual 133, 3) := by decide +kernel
theorem dX4_isTrue_6 : decode cX4_isTrue 6 = .ok (.iconst 1, 1) := by decide +kernel
theorem dX4_isTrue_7 : decode cX4_isTrue 7 = .ok (.iconst 1, 1) := by decide +kernel
theorem dX4_isTrue_8 : decode cX4_isTrue 8 = .ok (.invokevirtual 101, 3) := by decide +kernel
theorem dX4_isTrue_11 : decode cX4_isTrue 11 = .ok (.ifCond .ne 5, 3) := by decide +kernel
theorem dX4_isTrue_14 : decode cX4_isTrue 14 = .ok (.iconst 0, 1) := by decide +kernel
theorem dX4_isTrue_15 : decode cX4_isTrue 15 = .ok (.ireturn, 1) := by decide +kernel
theorem dX4_isTrue_16 : decode cX4_isTrue 16 = .ok (.iconst 1, 1) := by decide +kernel
theorem dX4_isTrue_17 : decode cX4_isTrue 17 = .ok (.istore_n 2, 1) := by decide +kernel
theorem dX4_isTrue_18 : decode cX4_isTrue 18 = .ok (.iconst 1, 1) := by decide +kernel
theorem dX4_isTrue_19 : decode cX4_isTrue 19 = .ok (.istore_n 3, 1) := by decide +kernel
theorem dX4_isTrue_20 : decode cX4_isTrue 20 = .ok (.iload_n 3, 1) := by decide +kernel
theorem dX4_isTrue_21 : decode cX4_isTrue 21 = .ok (.aload_n 0, 1) := by decide +kernel
theorem dX4_isTrue_22 : decode cX4_isTrue 22 = .ok (.getfield 44, 3) := by decide +kernel
theorem dX4_isTrue_25 : decode cX4_isTrue 25 = .ok (.iload_n 1, 1) := by decide +kernel
theorem dX4_isTrue_26 : decode cX4_isTrue 26 = .ok (.iaload, 1) := by decide +kernel
theorem dX4_isTrue_27 : decode cX4_isTrue 27 = .ok (.if_icmp .ge 28, 3) := by decide +kernel
theorem dX4_isTrue_30 : decode cX4_isTrue 30 = .ok (.iload_n 2, 1) := by decide +kernel
theorem dX4_isTrue_31 : decode cX4_isTrue 31 = .ok (.ifCond .eq 16, 3) := by decide +kernel
theorem dX4_isTrue_34 : decode cX4_isTrue 34 = .ok (.aload_n 0, 1) := by decide +kernel
theorem dX4_isTrue_35 : decode cX4_isTrue 35 = .ok (.iload_n 1, 1) := by decide +kernel
theorem dX4_isTrue_36 : decode cX4_isTrue 36 = .ok (.iload_n 3, 1) := by decide +kernel
theorem dX4_isTrue_37 : decode cX4_isTrue 37 = .ok (.invokevirtual 172, 3) := by decide +kernel
theorem dX4_isTrue_40 : decode cX4_isTrue 40 = .ok (.ifCond .eq 7, 3) := by decide +kernel
theorem dX4_isTrue_43 : decode cX4_isTrue 43 = .ok (.iconst 1, 1) := by decide +kernel
theorem dX4_isTrue_44 : decode cX4_isTrue 44 = .ok (.goto 4, 3) := by decide +kernel
theorem dX4_isTrue_47 : decode cX4_isTrue 47 = .ok (.iconst 0, 1) := by decide +kernel
theorem dX4_isTrue_48 : decode cX4_isTrue 48 = .ok (.istore_n 2, 1) := by decide +kernel
theorem dX4_isTrue_49 : decode cX4_isTrue 49 = .ok (.iinc 3 1, 3) := by decide +kernel
theorem dX4_isTrue_52 : decode cX4_isTrue 52 = .ok (.goto (-32), 3) := by decide +kernel
theorem dX4_isTrue_55 : decode cX4_isTrue 55 = .ok (.iload_n 2, 1) := by decide +kernel
theorem dX4_isTrue_56 : decode cX4_isTrue 56 = .ok (.ireturn, 1) := by decide +kernel
theorem dX4_likeness_0 : decode cX4_likeness 0 = .ok (.aload_n 0, 1) := by decide +kernel
theorem dX4_likeness_1 : decode cX4_likeness 1 = .ok (.iload_n 1, 1) := by decide +kernel
theorem dX4_likeness_2 : decode cX4_likeness 2 = .ok (.invokevirtual 133, 3) := by decide +kernel
theorem dX4_likeness_5 : decode cX4_likeness 5 = .ok (.ifCond .eq 15, 3) := by decide +kernel
theorem dX4_likeness_8 : decode cX4_likeness 8 = .ok (.aload_n 0, 1) := by decide +kernel
theorem dX4_likeness_9 : decode cX4_likeness 9 = .ok (.iload_n 2, 1) := by decide +kernel
theorem dX4_likeness_10 : decode cX4_likeness 10 = .ok (.invokevirtual 105, 3) := by decide +kernel
theorem dX4_likeness_13 : decode cX4_likeness 13 = .ok (.ifCond .eq 7, 3) := by decide +kernel
theorem dX4_likeness_16 : decode cX4_likeness 16 = .ok (.iconst 1, 1) := by decide +kernel
theorem dX4_likeness_17 : decode cX4_likeness 17 = .ok (.goto 4, 3) := by decide +kernel
theorem dX4_likeness_20 : decode cX4_likeness 20 = .ok (.iconst 0, 1) := by decide +kernel
theorem dX4_likeness_21 : decode cX4_likeness 21 = .ok (.istore_n 3, 1) := by decide +kernel
theorem dX4_likeness_22 : decode cX4_likeness 22 = .ok (.aload_n 0, 1) := by decide +kernel
theorem dX4_likeness_23 : decode cX4_likeness 23 = .ok (.iload_n 3, 1) := by decide +kernel
theorem dX4_likeness_24 : decode cX4_likeness 24 = .ok (.iconst 1, 1) := by decide +kernel
theorem dX4_likeness_25 : decode cX4_likeness 25 = .ok (.iconst 1, 1) := by decide +kernel
theorem dX4_likeness_26 : decode cX4_likeness 26 = .ok (.invokevirtual 101, 3) := by decide +kernel
theorem dX4_likeness_29 : decode cX4_likeness 29 = .ok (.ifCond .ne 5, 3) := by decide +kernel
theorem dX4_likeness_32 : decode cX4_likeness 32 = .ok (.iconst 0, 1) := by decide +kernel
theorem dX4_likeness_33 : decode cX4_likeness 33 = .ok (.ireturn, 1) := by decide +kernel
theorem dX4_likeness_34 : decode cX4_likeness 34 = .ok (.aload_n 0, 1) := by decide +kernel
theorem dX4_likeness_35 : decode cX4_likeness 35 = .ok (.getfield 44, 3) := by decide +kernel
theorem dX4_likeness_38 : decode cX4_likeness 38 = .ok (.iload_n 1, 1) := by decide +kernel
theorem dX4_likeness_39 : decode cX4_likeness 39 = .ok (.iaload, 1) := by decide +kernel
theorem dX4_likeness_40 : decode cX4_likeness 40 = .ok (.aload_n 0, 1) := by decide +kernel
theorem dX4_likeness_41 : decode cX4_likeness 41 = .ok (.getfield 13, 3) := by decide +kernel
theorem dX4_likeness_44 : decode cX4_likeness 44 = .ok (.iload_n 2, 1) := by decide +kernel
theorem dX4_likeness_45 : decode cX4_likeness 45 = .ok (.iaload, 1) := by decide +kernel
theorem dX4_likeness_46 : decode cX4_likeness 46 = .ok (.if_icmp .ne 18, 3) := by decide +kernel
theorem dX4_likeness_49 : decode cX4_likeness 49 = .ok (.aload_n 0, 1) := by decide +kernel
theorem dX4_likeness_50 : decode cX4_likeness 50 = .ok (.getfield 47, 3) := by decide +kernel
theorem dX4_likeness_53 : decode cX4_likeness 53 = .ok (.iload_n 1, 1) := by decide +kernel
theorem dX4_likeness_54 : decode cX4_likeness 54 = .ok (.iaload, 1) := by decide +kernel
theorem dX4_likeness_55 : decode cX4_likeness 55 = .ok (.aload_n 0, 1) := by decide +kernel
theorem dX4_likeness_56 : decode cX4_likeness 56 = .ok (.getfield 16, 3) := by decide +kernel
theorem dX4_likeness_59 : decode cX4_likeness 59 = .ok (.iload_n 2, 1) := by decide +kernel
theorem dX4_likeness_60 : decode cX4_likeness 60 = .ok (.iaload, 1) := by decide +kernel
theorem dX4_likeness_61 : decode cX4_likeness 61 = .ok (.if_icmp .eq 5, 3) := by decide +kernel
theorem dX4_likeness_64 : decode cX4_likeness 64 = .ok (.iconst (-1), 1) := by decide +kernel
theorem dX4_likeness_65 : decode cX4_likeness 65 = .ok (.ireturn, 1) := by decide +kernel
theorem dX4_likeness_66 : decode cX4_likeness 66 = .ok (.iconst 0, 1) := by decide +kernel
theorem dX4_likeness_67 : decode cX4_likeness 67 = .ok (.istore 4, 2) := by decide +kernel
theorem dX4_likeness_69 : decode cX4_likeness 69 = .ok (.iconst 0, 1) := by decide +kernel
theorem dX4_likeness_70 : decode cX4_likeness 70 = .ok (.istore 5, 2) := by decide +kernel
theorem dX4_likeness_72 : decode cX4_likeness 72 = .ok (.iconst 0, 1) := by decide +kernel
theorem dX4_likeness_73 : decode cX4_likeness 73 = .ok (.istore 6, 2) := by decide +kernel
theorem dX4_likeness_75 : decode cX4_likeness 75 = .ok (.iload 6, 2) := by decide +kernel
theorem dX4_likeness_77 : decode cX4_likeness 77 = .ok (.aload_n 0, 1) := by decide +kernel
theorem dX4_likeness_78 : decode cX4_likeness 78 = .ok (.getfield 44, 3) := by decide +kernel
theorem dX4_likeness_81 : decode cX4_likeness 81 = .ok (.iload_n 1, 1) := by decide +kernel
theorem dX4_likeness_82 : decode cX4_likeness 82 = .ok (.iaload, 1) := by decide +kernel
theorem dX4_likeness_83 : decode cX4_likeness 83 = .ok (.aload_n 0, 1) := by decide +kernel
theorem dX4_likeness_84 : decode cX4_likeness 84 = .ok (.getfield 47, 3) := by decide +kernel
theorem dX4_likeness_87 : decode cX4_likeness 87 = .ok (.iload_n 1, 1) := by decide +kernel
theorem dX4_likeness_88 : decode cX4_likeness 88 = .ok (.iaload, 1) := by decide +kernel
theorem dX4_likeness_89 : decode cX4_likeness 89 = .ok (.imul, 1) := by decide +kernel
theorem dX4_likeness_90 : decode cX4_likeness 90 = .ok (.if_icmp .ge 110, 3) := by decide +kernel
theorem dX4_likeness_93 : decode cX4_likeness 93 = .ok (.iload 6, 2) := by decide +kernel
theorem dX4_likeness_95 : decode cX4_likeness 95 = .ok (.aload_n 0, 1) := by decide +kernel
theorem dX4_likeness_96 : decode cX4_likeness 96 = .ok (.getfield 47, 3) := by decide +kernel
theorem dX4_likeness_99 : decode cX4_likeness 99 = .ok (.iload_n 1, 1) := by decide +kernel
theorem dX4_likeness_100 : decode cX4_likeness 100 = .ok (.iaload, 1) := by decide +kernel
theorem dX4_likeness_101 : decode cX4_likeness 101 = .ok (.idiv, 1) := by decide +kernel
theorem dX4_likeness_102 : decode cX4_likeness 102 = .ok (.istore 7, 2) := by decide +kernel
theorem dX4_likeness_104 : decode cX4_likeness 104 = .ok (.iload 6, 2) := by decide +kernel
theorem dX4_likeness_106 : decode cX4_likeness 106 = .ok (.aload_n 0, 1) := by decide +kernel
theorem dX4_likeness_107 : decode cX4_likeness 107 = .ok (.getfield 47, 3) := by decide +kernel
theorem dX4_likeness_110 : decode cX4_likeness 110 = .ok (.iload_n 1, 1) := by decide +kernel
theorem dX4_likeness_111 : decode cX4_likeness 111 = .ok (.iaload, 1) := by decide +kernel
theorem dX4_likeness_112 : decode cX4_likeness 112 = .ok (.irem, 1) := by decide +kernel
theorem dX4_likeness_113 : decode cX4_likeness 113 = .ok (.istore 8, 2) := by decide +kernel
theorem dX4_likeness_115 : decode cX4_likeness 115 = .ok (.iload 4, 2) := by decide +kernel
theorem dX4_likeness_117 : decode cX4_likeness 117 = .ok (.aload_n 0, 1) := by decide +kernel
theorem dX4_likeness_118 : decode cX4_likeness 118 = .ok (.getfield 71, 3) := by decide +kernel
theorem dX4_likeness_121 : decode cX4_likeness 121 = .ok (.iload_n 1, 1) := by decide +kernel
theorem dX4_likeness_122 : decode cX4_likeness 122 = .ok (.iload 7, 2) := by decide +kernel
theorem dX4_likeness_124 : decode cX4_likeness 124 = .ok (.iload 8, 2) := by decide +kernel
theorem dX4_likeness_126 : decode cX4_likeness 126 = .ok (.invokestatic 115, 3) := by decide +kernel
theorem dX4_likeness_129 : decode cX4_likeness 129 = .ok (.iaload, 1) := by decide +kernel
theorem dX4_likeness_130 : decode cX4_likeness 130 = .ok (.aload_n 0, 1) := by decide +kernel
theorem dX4_likeness_131 : decode cX4_likeness 131 = .ok (.iload_n 2, 1) := by decide +kernel
theorem dX4_likeness_132 : decode cX4_likeness 132 = .ok (.iload 8, 2) := by decide +kernel
theorem dX4_likeness_134 : decode cX4_likeness 134 = .ok (.iload 7, 2) := by decide +kernel
theorem dX4_likeness_136 : decode cX4_likeness 136 = .ok (.invokevirtual 127, 3) := by decide +kernel
theorem dX4_likeness_139 : decode cX4_likeness 139 = .ok (.if_icmp .ne 7, 3) := by decide +kernel
theorem dX4_likeness_142 : decode cX4_likeness 142 = .ok (.iconst 1, 1) := by decide +kernel
theorem dX4_likeness_143 : decode cX4_likeness 143 = .ok (.goto 4, 3) := by decide +kernel
theorem dX4_likeness_146 : decode cX4_likeness 146 = .ok (.iconst 0, 1) := by decide +kernel
theorem dX4_likeness_147 : decode cX4_likeness 147 = .ok (.iadd, 1) := by decide +kernel
theorem dX4_likeness_148 : decode cX4_likeness 148 = .ok (.istore 4, 2) := by decide +kernel
theorem dX4_likeness_150 : decode cX4_likeness 150 = .ok (.iload 5, 2) := by decide +kernel
theorem dX4_likeness_152 : decode cX4_likeness 152 = .ok (.aload_n 0, 1) := by decide +kernel
theorem dX4_likeness_153 : decode cX4_likeness 153 = .ok (.getfield 71, 3) := by decide +kernel
theorem dX4_likeness_156 : decode cX4_likeness 156 = .ok (.iload_n 1, 1) := by decide +kernel
theorem dX4_likeness_157 : decode cX4_likeness 157 = .ok (.iload 7, 2) := by decide +kernel
theorem dX4_likeness_159 : decode cX4_likeness 159 = .ok (.iload 8, 2) := by decide +kernel
theorem dX4_likeness_161 : decode cX4_likeness 161 = .ok (.invokestatic 115, 3) := by decide +kernel
theorem dX4_likeness_164 : decode cX4_likeness 164 = .ok (.iaload, 1) := by decide +kernel
theorem dX4_likeness_165 : decode cX4_likeness 165 = .ok (.aload_n 0, 1) := by decide +kernel
theorem dX4_likeness_166 : decode cX4_likeness 166 = .ok (.iload_n 2, 1) := by decide +kernel
theorem dX4_likeness_167 : decode cX4_likeness 167 = .ok (.iload 8, 2) := by decide +kernel
theorem dX4_likeness_169 : decode cX4_likeness 169 = .ok (.aload_n 0, 1) := by decide +kernel
theorem dX4_likeness_170 : decode cX4_likeness 170 = .ok (.getfield 44, 3) := by decide +kernel
theorem dX4_likeness_173 : decode cX4_likeness 173 = .ok (.iload_n 1, 1) := by decide +kernel
theorem dX4_likeness_174 : decode cX4_likeness 174 = .ok (.iaload, 1) := by decide +kernel
theorem dX4_likeness_175 : decode cX4_likeness 175 = .ok (.iconst 1, 1) := by decide +kernel
theorem dX4_likeness_176 : decode cX4_likeness 176 = .ok (.isub, 1) := by decide +kernel
theorem dX4_likeness_177 : decode cX4_likeness 177 = .ok (.iload 7, 2) := by decide +kernel
theorem dX4_likeness_179 : decode cX4_likeness 179 = .ok (.isub, 1) := by decide +kernel
theorem dX4_likeness_180 : decode cX4_likeness 180 = .ok (.invokevirtual 127, 3) := by decide +kernel
theorem dX4_likeness_183 : decode cX4_likeness 183 = .ok (.if_icmp .ne 7, 3) := by decide +kernel
theorem dX4_likeness_186 : decode cX4_likeness 186 = .ok (.iconst 1, 1) := by decide +kernel
theorem dX4_likeness_187 : decode cX4_likeness 187 = .ok (.goto 4, 3) := by decide +kernel
theorem dX4_likeness_190 : decode cX4_likeness 190 = .ok (.iconst 0, 1) := by decide +kernel
theorem dX4_likeness_191 : decode cX4_likeness 191 = .ok (.iadd, 1) := by decide +kernel
theorem dX4_likeness_192 : decode cX4_likeness 192 = .ok (.istore 5, 2) := by decide +kernel
theorem dX4_likeness_194 : decode cX4_likeness 194 = .ok (.iinc 6 1, 3) := by decide +kernel
theorem dX4_likeness_197 : decode cX4_likeness 197 = .ok (.goto (-122), 3) := by decide +kernel
theorem dX4_likeness_200 : decode cX4_likeness 200 = .ok (.iload 4, 2) := by decide +kernel
theorem dX4_likeness_202 : decode cX4_likeness 202 = .ok (.iload 5, 2) := by decide +kernel
theorem dX4_likeness_204 : decode cX4_likeness 204 = .ok (.if_icmp .ge 8, 3) := by decide +kernel
theorem dX4_likeness_207 : decode cX4_likeness 207 = .ok (.iload 5, 2) := by decide +kernel
theorem dX4_likeness_209 : decode cX4_likeness 209 = .ok (.goto 5, 3) := by decide +kernel
theorem dX4_likeness_212 : decode cX4_likeness 212 = .ok (.iload 4, 2) := by decide +kernel
theorem dX4_likeness_214 : decode cX4_likeness 214 = .ok (.ireturn, 1) := by decide +kernel
theorem dX4_balances_0 : decode cX4_balances 0 = .ok (.aload_n 0, 1) := by decide +kernel
theorem dX4_balances_1 : decode cX4_balances 1 = .ok (.iconst 0, 1) := by decide +kernel
theorem dX4_balances_2 : decode cX4_balances 2 = .ok (.putfield 80, 3) := by decide +kernel
theorem dX4_balances_5 : decode cX4_balances 5 = .ok (.iconst 1, 1) := by decide +kernel
theorem dX4_balances_6 : decode cX4_balances 6 = .ok (.istore_n 1, 1) := by decide +kernel
theorem dX4_balances_7 : decode cX4_balances 7 = .ok (.iconst 0, 1) := by decide +kernel
theorem dX4_balances_8 : decode cX4_balances 8 = .ok (.istore_n 2, 1) := by decide +kernel
theorem dX4_balances_9 : decode cX4_balances 9 = .ok (.iload_n 2, 1) := by decide +kernel
theorem dX4_balances_10 : decode cX4_balances 10 = .ok (.aload_n 0, 1) := by decide +kernel
theorem dX4_balances_11 : decode cX4_balances 11 = .ok (.getfield 112, 3) := by decide +kernel
theorem dX4_balances_14 : decode cX4_balances 14 = .ok (.if_icmp .ge 40, 3) := by decide +kernel
theorem dX4_balances_17 : decode cX4_balances 17 = .ok (.iload_n 1, 1) := by decide +kernel
theorem dX4_balances_18 : decode cX4_balances 18 = .ok (.ifCond .eq 28, 3) := by decide +kernel
theorem dX4_balances_21 : decode cX4_balances 21 = .ok (.aload_n 0, 1) := by decide +kernel
theorem dX4_balances_22 : decode cX4_balances 22 = .ok (.iload_n 2, 1) := by decide +kernel
theorem dX4_balances_23 : decode cX4_balances 23 = .ok (.invokevirtual 119, 3) := by decide +kernel
theorem dX4_balances_26 : decode cX4_balances 26 = .ok (.aload_n 0, 1) := by decide +kernel
theorem dX4_balances_27 : decode cX4_balances 27 = .ok (.getfield 31, 3) := by decide +kernel
theorem dX4_balances_30 : decode cX4_balances 30 = .ok (.iload_n 2, 1) := by decide +kernel
theorem dX4_balances_31 : decode cX4_balances 31 = .ok (.iaload, 1) := by decide +kernel
theorem dX4_balances_32 : decode cX4_balances 32 = .ok (.aload_n 0, 1) := by decide +kernel
theorem dX4_balances_33 : decode cX4_balances 33 = .ok (.getfield 34, 3) := by decide +kernel
theorem dX4_balances_36 : decode cX4_balances 36 = .ok (.iload_n 2, 1) := by decide +kernel
theorem dX4_balances_37 : decode cX4_balances 37 = .ok (.iaload, 1) := by decide +kernel
theorem dX4_balances_38 : decode cX4_balances 38 = .ok (.isub, 1) := by decide +kernel
theorem dX4_balances_39 : decode cX4_balances 39 = .ok (.if_icmp .ne 7, 3) := by decide +kernel
theorem dX4_balances_42 : decode cX4_balances 42 = .ok (.iconst 1, 1) := by decide +kernel
theorem dX4_balances_43 : decode cX4_balances 43 = .ok (.goto 4, 3) := by decide +kernel
theorem dX4_balances_46 : decode cX4_balances 46 = .ok (.iconst 0, 1) := by decide +kernel
theorem dX4_balances_47 : decode cX4_balances 47 = .ok (.istore_n 1, 1) := by decide +kernel
theorem dX4_balances_48 : decode cX4_balances 48 = .ok (.iinc 2 1, 3) := by decide +kernel
theorem dX4_balances_51 : decode cX4_balances 51 = .ok (.goto (-42), 3) := by decide +kernel
theorem dX4_balances_54 : decode cX4_balances 54 = .ok (.iload_n 1, 1) := by decide +kernel
theorem dX4_balances_55 : decode cX4_balances 55 = .ok (.ireturn, 1) := by decide +kernel
theorem dL_type_0 : decode cL_type 0 = .ok (.aload_n 2, 1) := by decide +kernel
theorem dL_type_1 : decode cL_type 1 = .ok (.iconst 0, 1) := by decide +kernel
theorem dL_type_2 : decode cL_type 2 = .ok (.aload_n 0, 1) := by decide +kernel
theorem dL_type_3 : decode cL_type 3 = .ok (.iload_n 1, 1) := by decide +kernel
theorem dL_type_4 : decode cL_type 4 = .ok (.invokevirtual 7, 3) := by decide +kernel
theorem dL_type_7 : decode cL_type 7 = .ok (.i2l, 1) := by decide +kernel
theorem dL_type_8 : decode cL_type 8 = .ok (.lastore, 1) := by decide +kernel
theorem dL_type_9 : decode cL_type 9 = .ok (.goto 9, 3) := by decide +kernel
theorem dL_type_12 : decode cL_type 12 = .ok (.astore_n 3, 1) := by decide +kernel
theorem dL_type_13 : decode cL_type 13 = .ok (.iconst 1, 1) := by decide +kernel
theorem dL_type_14 : decode cL_type 14 = .ok (.ireturn, 1) := by decide +kernel
theorem dL_type_15 : decode cL_type 15 = .ok (.astore_n 3, 1) := by decide +kernel
theorem dL_type_16 : decode cL_type 16 = .ok (.iconst 2, 1) := by decide +kernel
theorem dL_type_17 : decode cL_type 17 = .ok (.ireturn, 1) := by decide +kernel
theorem dL_type_18 : decode cL_type 18 = .ok (.iconst 0, 1) := by decide +kernel
theorem dL_type_19 : decode cL_type 19 = .ok (.ireturn, 1) := by decide +kernel
theorem dL_cartoon_0 : decode cL_cartoon 0 = .ok (.aload_n 2, 1) := by decide +kernel
theorem dL_cartoon_1 : decode cL_cartoon 1 = .ok (.iconst 0, 1) := by decide +kernel
theorem dL_cartoon_2 : decode cL_cartoon 2 = .ok (.aload_n 0, 1) := by decide +kernel
theorem dL_cartoon_3 : decode cL_cartoon 3 = .ok (.iload_n 1, 1) := by decide +kernel
theorem dL_cartoon_4 : decode cL_cartoon 4 = .ok (.invokevirtual 17, 3) := by decide +kernel
theorem dL_cartoon_7 : decode cL_cartoon 7 = .ok (.i2l, 1) := by decide +kernel
theorem dL_cartoon_8 : decode cL_cartoon 8 = .ok (.lastore, 1) := by decide +kernel
theorem dL_cartoon_9 : decode cL_cartoon 9 = .ok (.goto 9, 3) := by decide +kernel
theorem dL_cartoon_12 : decode cL_cartoon 12 = .ok (.astore_n 3, 1) := by decide +kernel
theorem dL_cartoon_13 : decode cL_cartoon 13 = .ok (.iconst 1, 1) := by decide +kernel
theorem dL_cartoon_14 : decode cL_cartoon 14 = .ok (.ireturn, 1) := by decide +kernel
theorem dL_cartoon_15 : decode cL_cartoon 15 = .ok (.astore_n 3, 1) := by decide +kernel
theorem dL_cartoon_16 : decode cL_cartoon 16 = .ok (.iconst 2, 1) := by decide +kernel
theorem dL_cartoon_17 : decode cL_cartoon 17 = .ok (.ireturn, 1) := by decide +kernel
theorem dL_cartoon_18 : decode cL_cartoon 18 = .ok (.iconst 0, 1) := by decide +kernel
theorem dL_cartoon_19 : decode cL_cartoon 19 = .ok (.ireturn, 1) := by decide +kernel
theorem dL_row_0 : decode cL_row 0 = .ok (.aload_n 2, 1) := by decide +kernel
theorem dL_row_1 : decode cL_row 1 = .ok (.iconst 0, 1) := by decide +kernel
theorem dL_row_2 : decode cL_row 2 = .ok (.aload_n 0, 1) := by decide +kernel
theorem dL_row_3 : decode cL_row 3 = .ok (.iload_n 1, 1) := by decide +kernel
theorem dL_row_4 : decode cL_row 4 = .ok (.invokevirtual 21, 3) := by decide +kernel
theorem dL_row_7 : decode cL_row 7 = .ok (.i2l, 1) := by decide +kernel
theorem dL_row_8 : decode cL_row 8 = .ok (.lastore, 1) := by decide +kernel
theorem dL_row_9 : decode cL_row 9 = .ok (.goto 9, 3) := by decide +kernel
theorem dL_row_12 : decode cL_row 12 = .ok (.astore_n 3, 1) := by decide +kernel
theorem dL_row_13 : decode cL_row 13 = .ok (.iconst 1, 1) := by decide +kernel
theorem dL_row_14 : decode cL_row 14 = .ok (.ireturn, 1) := by decide +kernel
theorem dL_row_15 : decode cL_row 15 = .ok (.astore_n 3, 1) := by decide +kernel
theorem dL_row_16 : decode cL_row 16 = .ok (.iconst 2, 1) := by decide +kernel
theorem dL_row_17 : decode cL_row 17 = .ok (.ireturn, 1) := by decide +kernel
theorem dL_row_18 : decode cL_row 18 = .ok (.iconst 0, 1) := by decide +kernel
theorem dL_row_19 : decode cL_row 19 = .ok (.ireturn, 1) := by decide +kernel
theorem dL_hatch_0 : decode cL_hatch 0 = .ok (.aload_n 0, 1) := by decide +kernel
theorem dL_hatch_1 : decode cL_hatch 1 = .ok (.iload_n 1, 1) := by decide +kernel
theorem dL_hatch_2 : decode cL_hatch 2 = .ok (.iload_n 2, 1) := by decide +kernel
theorem dL_hatch_3 : decode cL_hatch 3 = .ok (.iload_n 3, 1) := by decide +kernel
theorem dL_hatch_4 : decode cL_hatch 4 = .ok (.invokevirtual 26, 3) := by decide +kernel
theorem dL_hatch_7 : decode cL_hatch 7 = .ok (.goto 7, 3) := by decide +kernel
theorem dL_hatch_10 : decode cL_hatch 10 = .ok (.astore 4, 2) := by decide +kernel
theorem dL_hatch_12 : decode cL_hatch 12 = .ok (.iconst 1, 1) := by decide +kernel
theorem dL_hatch_13 : decode cL_hatch 13 = .ok (.ireturn, 1) := by decide +kernel
theorem dL_hatch_14 : decode cL_hatch 14 = .ok (.iconst 0, 1) := by decide +kernel
theorem dL_hatch_15 : decode cL_hatch 15 = .ok (.ireturn, 1) := by decide +kernel
theorem dL_dye_0 : decode cL_dye 0 = .ok (.aload 5, 2) := by decide +kernel
theorem dL_dye_2 : decode cL_dye 2 = .ok (.iconst 0, 1) := by decide +kernel
theorem dL_dye_3 : decode cL_dye 3 = .ok (.aload_n 0, 1) := by decide +kernel
theorem dL_dye_4 : decode cL_dye 4 = .ok (.iload_n 1, 1) := by decide +kernel
theorem dL_dye_5 : decode cL_dye 5 = .ok (.iload_n 2, 1) := by decide +kernel
theorem dL_dye_6 : decode cL_dye 6 = .ok (.iload_n 3, 1) := by decide +kernel
theorem dL_dye_7 : decode cL_dye 7 = .ok (.iload 4, 2) := by decide +kernel
theorem dL_dye_9 : decode cL_dye 9 = .ok (.invokevirtual 30, 3) := by decide +kernel
theorem dL_dye_12 : decode cL_dye 12 = .ok (.i2l, 1) := by decide +kernel
theorem dL_dye_13 : decode cL_dye 13 = .ok (.lastore, 1) := by decide +kernel
theorem dL_dye_14 : decode cL_dye 14 = .ok (.goto 15, 3) := by decide +kernel
theorem dL_dye_17 : decode cL_dye 17 = .ok (.astore 6, 2) := by decide +kernel
theorem dL_dye_19 : decode cL_dye 19 = .ok (.iconst 1, 1) := by decide +kernel
theorem dL_dye_20 : decode cL_dye 20 = .ok (.ireturn, 1) := by decide +kernel
theorem dL_dye_21 : decode cL_dye 21 = .ok (.astore 6, 2) := by decide +kernel
theorem dL_dye_23 : decode cL_dye 23 = .ok (.iconst 2, 1) := by decide +kernel
theorem dL_dye_24 : decode cL_dye 24 = .ok (.ireturn, 1) := by decide +kernel
theorem dL_dye_25 : decode cL_dye 25 = .ok (.astore 6, 2) := by decide +kernel
theorem dL_dye_27 : decode cL_dye 27 = .ok (.iconst 3, 1) := by decide +kernel
theorem dL_dye_28 : decode cL_dye 28 = .ok (.ireturn, 1) := by decide +kernel
theorem dL_dye_29 : decode cL_dye 29 = .ok (.iconst 0, 1) := by decide +kernel
theorem dL_dye_30 : decode cL_dye 30 = .ok (.ireturn, 1) := by decide +kernel
theorem dL_left_0 : decode cL_left 0 = .ok (.aload_n 2, 1) := by decide +kernel
theorem dL_left_1 : decode cL_left 1 = .ok (.iconst 0, 1) := by decide +kernel
theorem dL_left_2 : decode cL_left 2 = .ok (.aload_n 0, 1) := by decide +kernel
theorem dL_left_3 : decode cL_left 3 = .ok (.iload_n 1, 1) := by decide +kernel
theorem dL_left_4 : decode cL_left 4 = .ok (.invokevirtual 34, 3) := by decide +kernel
theorem dL_left_7 : decode cL_left 7 = .ok (.i2l, 1) := by decide +kernel
theorem dL_left_8 : decode cL_left 8 = .ok (.lastore, 1) := by decide +kernel
theorem dL_left_9 : decode cL_left 9 = .ok (.goto 6, 3) := by decide +kernel
theorem dL_left_12 : decode cL_left 12 = .ok (.astore_n 3, 1) := by decide +kernel
theorem dL_left_13 : decode cL_left 13 = .ok (.iconst 1, 1) := by decide +kernel
theorem dL_left_14 : decode cL_left 14 = .ok (.ireturn, 1) := by decide +kernel
theorem dL_left_15 : decode cL_left 15 = .ok (.iconst 0, 1) := by decide +kernel
theorem dL_left_16 : decode cL_left 16 = .ok (.ireturn, 1) := by decide +kernel
theorem dL_loom_0 : decode cL_loom 0 = .ok (.aload 4, 2) := by decide +kernel
theorem dL_loom_2 : decode cL_loom 2 = .ok (.iconst 0, 1) := by decide +kernel
theorem dL_loom_3 : decode cL_loom 3 = .ok (.aload_n 0, 1) := by decide +kernel
theorem dL_loom_4 : decode cL_loom 4 = .ok (.iload_n 1, 1) := by decide +kernel
theorem dL_loom_5 : decode cL_loom 5 = .ok (.iload_n 2, 1) := by decide +kernel
theorem dL_loom_6 : decode cL_loom 6 = .ok (.iload_n 3, 1) := by decide +kernel
theorem dL_loom_7 : decode cL_loom 7 = .ok (.invokevirtual 37, 3) := by decide +kernel
theorem dL_loom_10 : decode cL_loom 10 = .ok (.i2l, 1) := by decide +kernel
theorem dL_loom_11 : decode cL_loom 11 = .ok (.lastore, 1) := by decide +kernel
theorem dL_loom_12 : decode cL_loom 12 = .ok (.goto 15, 3) := by decide +kernel
theorem dL_loom_15 : decode cL_loom 15 = .ok (.astore 5, 2) := by decide +kernel
theorem dL_loom_17 : decode cL_loom 17 = .ok (.iconst 1, 1) := by decide +kernel
theorem dL_loom_18 : decode cL_loom 18 = .ok (.ireturn, 1) := by decide +kernel
theorem dL_loom_19 : decode cL_loom 19 = .ok (.astore 5, 2) := by decide +kernel
theorem dL_loom_21 : decode cL_loom 21 = .ok (.iconst 2, 1) := by decide +kernel
theorem dL_loom_22 : decode cL_loom 22 = .ok (.ireturn, 1) := by decide +kernel
theorem dL_loom_23 : decode cL_loom 23 = .ok (.astore 5, 2) := by decide +kernel
theorem dL_loom_25 : decode cL_loom 25 = .ok (.iconst 3, 1) := by decide +kernel
theorem dL_loom_26 : decode cL_loom 26 = .ok (.ireturn, 1) := by decide +kernel
theorem dL_loom_27 : decode cL_loom 27 = .ok (.iconst 0, 1) := by decide +kernel
theorem dL_loom_28 : decode cL_loom 28 = .ok (.ireturn, 1) := by decide +kernel
theorem dL_weave_0 : decode cL_weave 0 = .ok (.aload_n 3, 1) := by decide +kernel
theorem dL_weave_1 : decode cL_weave 1 = .ok (.iconst 0, 1) := by decide +kernel
theorem dL_weave_2 : decode cL_weave 2 = .ok (.aload_n 0, 1) := by decide +kernel
theorem dL_weave_3 : decode cL_weave 3 = .ok (.iload_n 1, 1) := by decide +kernel
theorem dL_weave_4 : decode cL_weave 4 = .ok (.iload_n 2, 1) := by decide +kernel
theorem dL_weave_5 : decode cL_weave 5 = .ok (.invokevirtual 41, 3) := by decide +kernel
theorem dL_weave_8 : decode cL_weave 8 = .ok (.i2l, 1) := by decide +kernel
theorem dL_weave_9 : decode cL_weave 9 = .ok (.lastore, 1) := by decide +kernel
theorem dL_weave_10 : decode cL_weave 10 = .ok (.goto 11, 3) := by decide +kernel
theorem dL_weave_13 : decode cL_weave 13 = .ok (.astore 4, 2) := by decide +kernel
theorem dL_weave_15 : decode cL_weave 15 = .ok (.iconst 1, 1) := by decide +kernel
theorem dL_weave_16 : decode cL_weave 16 = .ok (.ireturn, 1) := by decide +kernel
theorem dL_weave_17 : decode cL_weave 17 = .ok (.astore 4, 2) := by decide +kernel
theorem dL_weave_19 : decode cL_weave 19 = .ok (.iconst 2, 1) := by decide +kernel
theorem dL_weave_20 : decode cL_weave 20 = .ok (.ireturn, 1) := by decide +kernel
theorem dL_weave_21 : decode cL_weave 21 = .ok (.iconst 0, 1) := by decide +kernel
theorem dL_weave_22 : decode cL_weave 22 = .ok (.ireturn, 1) := by decide +kernel
theorem dL_pieceIs_0 : decode cL_pieceIs 0 = .ok (.aload_n 3, 1) := by decide +kernel
theorem dL_pieceIs_1 : decode cL_pieceIs 1 = .ok (.iconst 0, 1) := by decide +kernel
theorem dL_pieceIs_2 : decode cL_pieceIs 2 = .ok (.aload_n 0, 1) := by decide +kernel
theorem dL_pieceIs_3 : decode cL_pieceIs 3 = .ok (.iload_n 1, 1) := by decide +kernel
theorem dL_pieceIs_4 : decode cL_pieceIs 4 = .ok (.iload_n 2, 1) := by decide +kernel
theorem dL_pieceIs_5 : decode cL_pieceIs 5 = .ok (.invokevirtual 45, 3) := by decide +kernel
theorem dL_pieceIs_8 : decode cL_pieceIs 8 = .ok (.i2l, 1) := by decide +kernel
theorem dL_pieceIs_9 : decode cL_pieceIs 9 = .ok (.lastore, 1) := by decide +kernel
theorem dL_pieceIs_10 : decode cL_pieceIs 10 = .ok (.goto 11, 3) := by decide +kernel
theorem dL_pieceIs_13 : decode cL_pieceIs 13 = .ok (.astore 4, 2) := by decide +kernel
theorem dL_pieceIs_15 : decode cL_pieceIs 15 = .ok (.iconst 1, 1) := by decide +kernel
theorem dL_pieceIs_16 : decode cL_pieceIs 16 = .ok (.ireturn, 1) := by decide +kernel
theorem dL_pieceIs_17 : decode cL_pieceIs 17 = .ok (.astore 4, 2) := by decide +kernel
theorem dL_pieceIs_19 : decode cL_pieceIs 19 = .ok (.iconst 2, 1) := by decide +kernel
theorem dL_pieceIs_20 : decode cL_pieceIs 20 = .ok (.ireturn, 1) := by decide +kernel
theorem dL_pieceIs_21 : decode cL_pieceIs 21 = .ok (.iconst 0, 1) := by decide +kernel
theorem dL_pieceIs_22 : decode cL_pieceIs 22 = .ok (.ireturn, 1) := by decide +kernel
theorem dL_cell_0 : decode cL_cell 0 = .ok (.aload 5, 2) := by decide +kernel
theorem dL_cell_2 : decode cL_cell 2 = .ok (.iconst 0, 1) := by decide +kernel
theorem dL_cell_3 : decode cL_cell 3 = .ok (.aload_n 0, 1) := by decide +kernel
theorem dL_cell_4 : decode cL_cell 4 = .ok (.iload_n 1, 1) := by decide +kernel
theorem dL_cell_5 : decode cL_cell 5 = .ok (.iload_n 2, 1) := by decide +kernel
theorem dL_cell_6 : decode cL_cell 6 = .ok (.iload_n 3, 1) := by decide +kernel
theorem dL_cell_7 : decode cL_cell 7 = .ok (.iload 4, 2) := by decide +kernel
theorem dL_cell_9 : decode cL_cell 9 = .ok (.invokevirtual 48, 3) := by decide +kernel
theorem dL_cell_12 : decode cL_cell 12 = .ok (.i2l, 1) := by decide +kernel
theorem dL_cell_13 : decode cL_cell 13 = .ok (.lastore, 1) := by decide +kernel
theorem dL_cell_14 : decode cL_cell 14 = .ok (.goto 11, 3) := by decide +kernel
theorem dL_cell_17 : decode cL_cell 17 = .ok (.astore 6, 2) := by decide +kernel
theorem dL_cell_19 : decode cL_cell 19 = .ok (.iconst 1, 1) := by decide +kernel
theorem dL_cell_20 : decode cL_cell 20 = .ok (.ireturn, 1) := by decide +kernel
theorem dL_cell_21 : decode cL_cell 21 = .ok (.astore 6, 2) := by decide +kernel
theorem dL_cell_23 : decode cL_cell 23 = .ok (.iconst 2, 1) := by decide +kernel
theorem dL_cell_24 : decode cL_cell 24 = .ok (.ireturn, 1) := by decide +kernel
theorem dL_cell_25 : decode cL_cell 25 = .ok (.iconst 0, 1) := by decide +kernel
theorem dL_cell_26 : decode cL_cell 26 = .ok (.ireturn, 1) := by decide +kernel
theorem dL_sew_0 : decode cL_sew 0 = .ok (.aload_n 3, 1) := by decide +kernel
theorem dL_sew_1 : decode cL_sew 1 = .ok (.iconst 0, 1) := by decide +kernel
theorem dL_sew_2 : decode cL_sew 2 = .ok (.aload_n 0, 1) := by decide +kernel
theorem dL_sew_3 : decode cL_sew 3 = .ok (.iload_n 1, 1) := by decide +kernel
theorem dL_sew_4 : decode cL_sew 4 = .ok (.iload_n 2, 1) := by decide +kernel
theorem dL_sew_5 : decode cL_sew 5 = .ok (.invokevirtual 52, 3) := by decide +kernel
theorem dL_sew_8 : decode cL_sew 8 = .ok (.ifCond .eq 7, 3) := by decide +kernel
theorem dL_sew_11 : decode cL_sew 11 = .ok (.lconst 1, 1) := by decide +kernel
theorem dL_sew_12 : decode cL_sew 12 = .ok (.goto 4, 3) := by decide +kernel
theorem dL_sew_15 : decode cL_sew 15 = .ok (.lconst 0, 1) := by decide +kernel
theorem dL_sew_16 : decode cL_sew 16 = .ok (.lastore, 1) := by decide +kernel
theorem dL_sew_17 : decode cL_sew 17 = .ok (.goto 11, 3) := by decide +kernel
theorem dL_sew_20 : decode cL_sew 20 = .ok (.astore 4, 2) := by decide +kernel
theorem dL_sew_22 : decode cL_sew 22 = .ok (.iconst 1, 1) := by decide +kernel
theorem dL_sew_23 : decode cL_sew 23 = .ok (.ireturn, 1) := by decide +kernel
theorem dL_sew_24 : decode cL_sew 24 = .ok (.astore 4, 2) := by decide +kernel
theorem dL_sew_26 : decode cL_sew 26 = .ok (.iconst 2, 1) := by decide +kernel
theorem dL_sew_27 : decode cL_sew 27 = .ok (.ireturn, 1) := by decide +kernel
theorem dL_sew_28 : decode cL_sew 28 = .ok (.iconst 0, 1) := by decide +kernel
theorem dL_sew_29 : decode cL_sew 29 = .ok (.ireturn, 1) := by decide +kernel
theorem dL_light_0 : decode cL_light 0 = .ok (.aload_n 3, 1) := by decide +kernel
theorem dL_light_1 : decode cL_light 1 = .ok (.iconst 0, 1) := by decide +kernel
theorem dL_light_2 : decode cL_light 2 = .ok (.aload_n 0, 1) := by decide +kernel
theorem dL_light_3 : decode cL_light 3 = .ok (.iload_n 1, 1) := by decide +kernel
theorem dL_light_4 : decode cL_light 4 = .ok (.iload_n 2, 1) := by decide +kernel
theorem dL_light_5 : decode cL_light 5 = .ok (.invokevirtual 56, 3) := by decide +kernel
theorem dL_light_8 : decode cL_light 8 = .ok (.i2l, 1) := by decide +kernel
theorem dL_light_9 : decode cL_light 9 = .ok (.lastore, 1) := by decide +kernel
theorem dL_light_10 : decode cL_light 10 = .ok (.goto 15, 3) := by decide +kernel
theorem dL_light_13 : decode cL_light 13 = .ok (.astore 4, 2) := by decide +kernel
theorem dL_light_15 : decode cL_light 15 = .ok (.iconst 1, 1) := by decide +kernel
theorem dL_light_16 : decode cL_light 16 = .ok (.ireturn, 1) := by decide +kernel
theorem dL_light_17 : decode cL_light 17 = .ok (.astore 4, 2) := by decide +kernel
theorem dL_light_19 : decode cL_light 19 = .ok (.iconst 2, 1) := by decide +kernel
theorem dL_light_20 : decode cL_light 20 = .ok (.ireturn, 1) := by decide +kernel
theorem dL_light_21 : decode cL_light 21 = .ok (.astore 4, 2) := by decide +kernel
theorem dL_light_23 : decode cL_light 23 = .ok (.iconst 3, 1) := by decide +kernel
theorem dL_light_24 : decode cL_light 24 = .ok (.ireturn, 1) := by decide +kernel
theorem dL_light_25 : decode cL_light 25 = .ok (.iconst 0, 1) := by decide +kernel
theorem dL_light_26 : decode cL_light 26 = .ok (.ireturn, 1) := by decide +kernel
theorem dL_wash_0 : decode cL_wash 0 = .ok (.aload_n 2, 1) := by decide +kernel
theorem dL_wash_1 : decode cL_wash 1 = .ok (.iconst 0, 1) := by decide +kernel
theorem dL_wash_2 : decode cL_wash 2 = .ok (.aload_n 0, 1) := by decide +kernel
theorem dL_wash_3 : decode cL_wash 3 = .ok (.iload_n 1, 1) := by decide +kernel
theorem dL_wash_4 : decode cL_wash 4 = .ok (.invokevirtual 59, 3) := by decide +kernel
theorem dL_wash_7 : decode cL_wash 7 = .ok (.i2l, 1) := by decide +kernel
theorem dL_wash_8 : decode cL_wash 8 = .ok (.lastore, 1) := by decide +kernel
theorem dL_wash_9 : decode cL_wash 9 = .ok (.goto 9, 3) := by decide +kernel
theorem dL_wash_12 : decode cL_wash 12 = .ok (.astore_n 3, 1) := by decide +kernel
theorem dL_wash_13 : decode cL_wash 13 = .ok (.iconst 1, 1) := by decide +kernel
theorem dL_wash_14 : decode cL_wash 14 = .ok (.ireturn, 1) := by decide +kernel
theorem dL_wash_15 : decode cL_wash 15 = .ok (.astore_n 3, 1) := by decide +kernel
theorem dL_wash_16 : decode cL_wash 16 = .ok (.iconst 2, 1) := by decide +kernel
theorem dL_wash_17 : decode cL_wash 17 = .ok (.ireturn, 1) := by decide +kernel
theorem dL_wash_18 : decode cL_wash 18 = .ok (.iconst 0, 1) := by decide +kernel
theorem dL_wash_19 : decode cL_wash 19 = .ok (.ireturn, 1) := by decide +kernel
theorem dL_cut_0 : decode cL_cut 0 = .ok (.aload_n 3, 1) := by decide +kernel
theorem dL_cut_1 : decode cL_cut 1 = .ok (.iconst 0, 1) := by decide +kernel
theorem dL_cut_2 : decode cL_cut 2 = .ok (.aload_n 0, 1) := by decide +kernel
theorem dL_cut_3 : decode cL_cut 3 = .ok (.iload_n 1, 1) := by decide +kernel
theorem dL_cut_4 : decode cL_cut 4 = .ok (.iload_n 2, 1) := by decide +kernel
theorem dL_cut_5 : decode cL_cut 5 = .ok (.invokevirtual 62, 3) := by decide +kernel
theorem dL_cut_8 : decode cL_cut 8 = .ok (.i2l, 1) := by decide +kernel
theorem dL_cut_9 : decode cL_cut 9 = .ok (.lastore, 1) := by decide +kernel
theorem dL_cut_10 : decode cL_cut 10 = .ok (.goto 11, 3) := by decide +kernel
theorem dL_cut_13 : decode cL_cut 13 = .ok (.astore 4, 2) := by decide +kernel
theorem dL_cut_15 : decode cL_cut 15 = .ok (.iconst 1, 1) := by decide +kernel
theorem dL_cut_16 : decode cL_cut 16 = .ok (.ireturn, 1) := by decide +kernel
theorem dL_cut_17 : decode cL_cut 17 = .ok (.astore 4, 2) := by decide +kernel
theorem dL_cut_19 : decode cL_cut 19 = .ok (.iconst 2, 1) := by decide +kernel
theorem dL_cut_20 : decode cL_cut 20 = .ok (.ireturn, 1) := by decide +kernel
theorem dL_cut_21 : decode cL_cut 21 = .ok (.iconst 0, 1) := by decide +kernel
theorem dL_cut_22 : decode cL_cut 22 = .ok (.ireturn, 1) := by decide +kernel
theorem dL_match_0 : decode cL_match 0 = .ok (.aload_n 3, 1) := by decide +kernel
theorem dL_match_1 : decode cL_match 1 = .ok (.iconst 0, 1) := by decide +kernel
theorem dL_match_2 : decode cL_match 2 = .ok (.aload_n 0, 1) := by decide +kernel
theorem dL_match_3 : decode cL_match 3 = .ok (.iload_n 1, 1) := by decide +kernel
theorem dL_match_4 : decode cL_match 4 = .ok (.iload_n 2, 1) := by decide +kernel
theorem dL_match_5 : decode cL_match 5 = .ok (.invokevirtual 65, 3) := by decide +kernel
theorem dL_match_8 : decode cL_match 8 = .ok (.i2l, 1) := by decide +kernel
theorem dL_match_9 : decode cL_match 9 = .ok (.lastore, 1) := by decide +kernel
theorem dL_match_10 : decode cL_match 10 = .ok (.goto 15, 3) := by decide +kernel
theorem dL_match_13 : decode cL_match 13 = .ok (.astore 4, 2) := by decide +kernel
theorem dL_match_15 : decode cL_match 15 = .ok (.iconst 1, 1) := by decide +kernel
theorem dL_match_16 : decode cL_match 16 = .ok (.ireturn, 1) := by decide +kernel
theorem dL_match_17 : decode cL_match 17 = .ok (.astore 4, 2) := by decide +kernel
theorem dL_match_19 : decode cL_match 19 = .ok (.iconst 2, 1) := by decide +kernel
theorem dL_match_20 : decode cL_match 20 = .ok (.ireturn, 1) := by decide +kernel
theorem dL_match_21 : decode cL_match 21 = .ok (.astore 4, 2) := by decide +kernel
theorem dL_match_23 : decode cL_match 23 = .ok (.iconst 3, 1) := by decide +kernel
theorem dL_match_24 : decode cL_match 24 = .ok (.ireturn, 1) := by decide +kernel
theorem dL_match_25 : decode cL_match 25 = .ok (.iconst 0, 1) := by decide +kernel
theorem dL_match_26 : decode cL_match 26 = .ok (.ireturn, 1) := by decide +kernel
theorem dL_join_0 : decode cL_join 0 = .ok (.aload_n 3, 1) := by decide +kernel
theorem dL_join_1 : decode cL_join 1 = .ok (.iconst 0, 1) := by decide +kernel
theorem dL_join_2 : decode cL_join 2 = .ok (.aload_n 0, 1) := by decide +kernel
theorem dL_join_3 : decode cL_join 3 = .ok (.iload_n 1, 1) := by decide +kernel
theorem dL_join_4 : decode cL_join 4 = .ok (.iload_n 2, 1) := by decide +kernel
theorem dL_join_5 : decode cL_join 5 = .ok (.invokevirtual 68, 3) := by decide +kernel
theorem dL_join_8 : decode cL_join 8 = .ok (.ifCond .eq 7, 3) := by decide +kernel
theorem dL_join_11 : decode cL_join 11 = .ok (.lconst 1, 1) := by decide +kernel
theorem dL_join_12 : decode cL_join 12 = .ok (.goto 4, 3) := by decide +kernel
theorem dL_join_15 : decode cL_join 15 = .ok (.lconst 0, 1) := by decide +kernel
theorem dL_join_16 : decode cL_join 16 = .ok (.lastore, 1) := by decide +kernel
theorem dL_join_17 : decode cL_join 17 = .ok (.goto 15, 3) := by decide +kernel
theorem dL_join_20 : decode cL_join 20 = .ok (.astore 4, 2) := by decide +kernel
theorem dL_join_22 : decode cL_join 22 = .ok (.iconst 1, 1) := by decide +kernel
theorem dL_join_23 : decode cL_join 23 = .ok (.ireturn, 1) := by decide +kernel
theorem dL_join_24 : decode cL_join 24 = .ok (.astore 4, 2) := by decide +kernel
theorem dL_join_26 : decode cL_join 26 = .ok (.iconst 2, 1) := by decide +kernel
theorem dL_join_27 : decode cL_join 27 = .ok (.ireturn, 1) := by decide +kernel
theorem dL_join_28 : decode cL_join 28 = .ok (.astore 4, 2) := by decide +kernel
theorem dL_join_30 : decode cL_join 30 = .ok (.iconst 3, 1) := by decide +kernel
theorem dL_join_31 : decode cL_join 31 = .ok (.ireturn, 1) := by decide +kernel
theorem dL_join_32 : decode cL_join 32 = .ok (.iconst 0, 1) := by decide +kernel
theorem dL_join_33 : decode cL_join 33 = .ok (.ireturn, 1) := by decide +kernel
theorem dL_isTrue_0 : decode cL_isTrue 0 = .ok (.aload_n 2, 1) := by decide +kernel
theorem dL_isTrue_1 : decode cL_isTrue 1 = .ok (.iconst 0, 1) := by decide +kernel
theorem dL_isTrue_2 : decode cL_isTrue 2 = .ok (.aload_n 0, 1) := by decide +kernel
theorem dL_isTrue_3 : decode cL_isTrue 3 = .ok (.iload_n 1, 1) := by decide +kernel
theorem dL_isTrue_4 : decode cL_isTrue 4 = .ok (.invokevirtual 71, 3) := by decide +kernel
theorem dL_isTrue_7 : decode cL_isTrue 7 = .ok (.ifCond .eq 7, 3) := by decide +kernel
theorem dL_isTrue_10 : decode cL_isTrue 10 = .ok (.lconst 1, 1) := by decide +kernel
theorem dL_isTrue_11 : decode cL_isTrue 11 = .ok (.goto 4, 3) := by decide +kernel
theorem dL_isTrue_14 : decode cL_isTrue 14 = .ok (.lconst 0, 1) := by decide +kernel
theorem dL_isTrue_15 : decode cL_isTrue 15 = .ok (.lastore, 1) := by decide +kernel
theorem dL_isTrue_16 : decode cL_isTrue 16 = .ok (.goto 6, 3) := by decide +kernel
theorem dL_isTrue_19 : decode cL_isTrue 19 = .ok (.astore_n 3, 1) := by decide +kernel
theorem dL_isTrue_20 : decode cL_isTrue 20 = .ok (.iconst 1, 1) := by decide +kernel
theorem dL_isTrue_21 : decode cL_isTrue 21 = .ok (.ireturn, 1) := by decide +kernel
theorem dL_isTrue_22 : decode cL_isTrue 22 = .ok (.iconst 0, 1) := by decide +kernel
theorem dL_isTrue_23 : decode cL_isTrue 23 = .ok (.ireturn, 1) := by decide +kernel
theorem dL_likeness_0 : decode cL_likeness 0 = .ok (.aload_n 3, 1) := by decide +kernel
theorem dL_likeness_1 : decode cL_likeness 1 = .ok (.iconst 0, 1) := by decide +kernel
theorem dL_likeness_2 : decode cL_likeness 2 = .ok (.aload_n 0, 1) := by decide +kernel
theorem dL_likeness_3 : decode cL_likeness 3 = .ok (.iload_n 1, 1) := by decide +kernel
theorem dL_likeness_4 : decode cL_likeness 4 = .ok (.iload_n 2, 1) := by decide +kernel
theorem dL_likeness_5 : decode cL_likeness 5 = .ok (.invokevirtual 75, 3) := by decide +kernel
theorem dL_likeness_8 : decode cL_likeness 8 = .ok (.i2l, 1) := by decide +kernel
theorem dL_likeness_9 : decode cL_likeness 9 = .ok (.lastore, 1) := by decide +kernel
theorem dL_likeness_10 : decode cL_likeness 10 = .ok (.goto 7, 3) := by decide +kernel
theorem dL_likeness_13 : decode cL_likeness 13 = .ok (.astore 4, 2) := by decide +kernel
theorem dL_likeness_15 : decode cL_likeness 15 = .ok (.iconst 1, 1) := by decide +kernel
theorem dL_likeness_16 : decode cL_likeness 16 = .ok (.ireturn, 1) := by decide +kernel
theorem dL_likeness_17 : decode cL_likeness 17 = .ok (.iconst 0, 1) := by decide +kernel
theorem dL_likeness_18 : decode cL_likeness 18 = .ok (.ireturn, 1) := by decide +kernel
theorem dL_law_0 : decode cL_law 0 = .ok (.new 8, 3) := by decide +kernel
theorem dL_law_3 : decode cL_law 3 = .ok (.dup, 1) := by decide +kernel
theorem dL_law_4 : decode cL_law 4 = .ok (.invokespecial 78, 3) := by decide +kernel
theorem dL_law_7 : decode cL_law 7 = .ok (.astore_n 1, 1) := by decide +kernel
theorem dL_law_8 : decode cL_law 8 = .ok (.new 79, 3) := by decide +kernel
theorem dL_law_11 : decode cL_law 11 = .ok (.dup, 1) := by decide +kernel
theorem dL_law_12 : decode cL_law 12 = .ok (.invokespecial 81, 3) := by decide +kernel
theorem dL_law_15 : decode cL_law 15 = .ok (.astore_n 2, 1) := by decide +kernel
theorem dL_law_16 : decode cL_law 16 = .ok (.iconst 1, 1) := by decide +kernel
theorem dL_law_17 : decode cL_law 17 = .ok (.newarray .long, 2) := by decide +kernel
theorem dL_law_19 : decode cL_law 19 = .ok (.astore_n 3, 1) := by decide +kernel
theorem dL_law_20 : decode cL_law 20 = .ok (.iconst 0, 1) := by decide +kernel
theorem dL_law_21 : decode cL_law 21 = .ok (.istore 4, 2) := by decide +kernel
theorem dL_law_23 : decode cL_law 23 = .ok (.iload 4, 2) := by decide +kernel
theorem dL_law_25 : decode cL_law 25 = .ok (.aload_n 0, 1) := by decide +kernel
theorem dL_law_26 : decode cL_law 26 = .ok (.arraylength, 1) := by decide +kernel
theorem dL_law_27 : decode cL_law 27 = .ok (.iconst 5, 1) := by decide +kernel
theorem dL_law_28 : decode cL_law 28 = .ok (.isub, 1) := by decide +kernel
theorem dL_law_29 : decode cL_law 29 = .ok (.if_icmp .gt 1411, 3) := by decide +kernel
theorem dL_law_32 : decode cL_law 32 = .ok (.aload_n 0, 1) := by decide +kernel
theorem dL_law_33 : decode cL_law 33 = .ok (.iload 4, 2) := by decide +kernel
theorem dL_law_35 : decode cL_law 35 = .ok (.iaload, 1) := by decide +kernel
theorem dL_law_36 : decode cL_law 36 = .ok (.bipush 31, 2) := by decide +kernel
theorem dL_law_38 : decode cL_law 38 = .ok (.iand, 1) := by decide +kernel
theorem dL_law_39 : decode cL_law 39 = .ok (.tableswitch 1395 0 20 #[97, 155, 168, 224, 280, 340, 448, 504, 517, 613, 681, 749, 841, 916, 984, 1040, 1108, 1176, 1251, 1314, 1382], 97) := by decide +kernel
theorem dL_law_136 : decode cL_law 136 = .ok (.aload_n 1, 1) := by decide +kernel
theorem dL_law_137 : decode cL_law 137 = .ok (.aload_n 0, 1) := by decide +kernel
theorem dL_law_138 : decode cL_law 138 = .ok (.iload 4, 2) := by decide +kernel
theorem dL_law_140 : decode cL_law 140 = .ok (.iconst 1, 1) := by decide +kernel
theorem dL_law_141 : decode cL_law 141 = .ok (.iadd, 1) := by decide +kernel
theorem dL_law_142 : decode cL_law 142 = .ok (.iaload, 1) := by decide +kernel
theorem dL_law_143 : decode cL_law 143 = .ok (.i2c, 1) := by decide +kernel
theorem dL_law_144 : decode cL_law 144 = .ok (.aload_n 3, 1) := by decide +kernel
theorem dL_law_145 : decode cL_law 145 = .ok (.invokestatic 82, 3) := by decide +kernel
theorem dL_law_148 : decode cL_law 148 = .ok (.istore 5, 2) := by decide +kernel
theorem dL_law_150 : decode cL_law 150 = .ok (.aload_n 2, 1) := by decide +kernel
theorem dL_law_151 : decode cL_law 151 = .ok (.aload_n 0, 1) := by decide +kernel
theorem dL_law_152 : decode cL_law 152 = .ok (.iload 4, 2) := by decide +kernel
theorem dL_law_154 : decode cL_law 154 = .ok (.iconst 1, 1) := by decide +kernel
theorem dL_law_155 : decode cL_law 155 = .ok (.iadd, 1) := by decide +kernel
theorem dL_law_156 : decode cL_law 156 = .ok (.iaload, 1) := by decide +kernel
theorem dL_law_157 : decode cL_law 157 = .ok (.i2c, 1) := by decide +kernel
theorem dL_law_158 : decode cL_law 158 = .ok (.invokevirtual 87, 3) := by decide +kernel
theorem dL_law_161 : decode cL_law 161 = .ok (.istore 6, 2) := by decide +kernel
theorem dL_law_163 : decode cL_law 163 = .ok (.aload_n 2, 1) := by decide +kernel
theorem dL_law_164 : decode cL_law 164 = .ok (.invokevirtual 88, 3) := by decide +kernel
theorem dL_law_167 : decode cL_law 167 = .ok (.iload 5, 2) := by decide +kernel
theorem dL_law_169 : decode cL_law 169 = .ok (.if_icmp .eq 5, 3) := by decide +kernel
theorem dL_law_172 : decode cL_law 172 = .ok (.iconst 0, 1) := by decide +kernel
theorem dL_law_173 : decode cL_law 173 = .ok (.ireturn, 1) := by decide +kernel
theorem dL_law_174 : decode cL_law 174 = .ok (.iload 5, 2) := by decide +kernel
theorem dL_law_176 : decode cL_law 176 = .ok (.ifCond .ne 15, 3) := by decide +kernel
theorem dL_law_179 : decode cL_law 179 = .ok (.aload_n 3, 1) := by decide +kernel
theorem dL_law_180 : decode cL_law 180 = .ok (.iconst 0, 1) := by decide +kernel
theorem dL_law_181 : decode cL_law 181 = .ok (.laload, 1) := by decide +kernel
theorem dL_law_182 : decode cL_law 182 = .ok (.iload 6, 2) := by decide +kernel
theorem dL_law_184 : decode cL_law 184 = .ok (.i2l, 1) := by decide +kernel
theorem dL_law_185 : decode cL_law 185 = .ok (.lcmp, 1) := by decide +kernel
theorem dL_law_186 : decode cL_law 186 = .ok (.ifCond .eq 5, 3) := by decide +kernel
theorem dL_law_189 : decode cL_law 189 = .ok (.iconst 0, 1) := by decide +kernel
theorem dL_law_190 : decode cL_law 190 = .ok (.ireturn, 1) := by decide +kernel
theorem dL_law_191 : decode cL_law 191 = .ok (.goto 1243, 3) := by decide +kernel
theorem dL_law_194 : decode cL_law 194 = .ok (.aload_n 1, 1) := by decide +kernel
theorem dL_law_195 : decode cL_law 195 = .ok (.invokevirtual 92, 3) := by decide +kernel
theorem dL_law_198 : decode cL_law 198 = .ok (.aload_n 2, 1) := by decide +kernel
theorem dL_law_199 : decode cL_law 199 = .ok (.invokevirtual 95, 3) := by decide +kernel
theorem dL_law_202 : decode cL_law 202 = .ok (.if_icmp .eq 1232, 3) := by decide +kernel
theorem dL_law_205 : decode cL_law 205 = .ok (.iconst 0, 1) := by decide +kernel
theorem dL_law_206 : decode cL_law 206 = .ok (.ireturn, 1) := by decide +kernel
theorem dL_law_207 : decode cL_law 207 = .ok (.aload_n 1, 1) := by decide +kernel
theorem dL_law_208 : decode cL_law 208 = .ok (.aload_n 0, 1) := by decide +kernel
theorem dL_law_209 : decode cL_law 209 = .ok (.iload 4, 2) := by decide +kernel
theorem dL_law_211 : decode cL_law 211 = .ok (.iconst 1, 1) := by decide +kernel
theorem dL_law_212 : decode cL_law 212 = .ok (.iadd, 1) := by decide +kernel
theorem dL_law_213 : decode cL_law 213 = .ok (.iaload, 1) := by decide +kernel
theorem dL_law_214 : decode cL_law 214 = .ok (.aload_n 3, 1) := by decide +kernel
theorem dL_law_215 : decode cL_law 215 = .ok (.invokestatic 96, 3) := by decide +kernel
theorem dL_law_218 : decode cL_law 218 = .ok (.istore 5, 2) := by decide +kernel
theorem dL_law_220 : decode cL_law 220 = .ok (.aload_n 2, 1) := by decide +kernel
theorem dL_law_221 : decode cL_law 221 = .ok (.aload_n 0, 1) := by decide +kernel
theorem dL_law_222 : decode cL_law 222 = .ok (.iload 4, 2) := by decide +kernel
theorem dL_law_224 : decode cL_law 224 = .ok (.iconst 1, 1) := by decide +kernel
theorem dL_law_225 : decode cL_law 225 = .ok (.iadd, 1) := by decide +kernel
theorem dL_law_226 : decode cL_law 226 = .ok (.iaload, 1) := by decide +kernel
theorem dL_law_227 : decode cL_law 227 = .ok (.invokevirtual 99, 3) := by decide +kernel
theorem dL_law_230 : decode cL_law 230 = .ok (.istore 6, 2) := by decide +kernel
theorem dL_law_232 : decode cL_law 232 = .ok (.aload_n 2, 1) := by decide +kernel
theorem dL_law_233 : decode cL_law 233 = .ok (.invokevirtual 88, 3) := by decide +kernel
theorem dL_law_236 : decode cL_law 236 = .ok (.iload 5, 2) := by decide +kernel
theorem dL_law_238 : decode cL_law 238 = .ok (.if_icmp .eq 5, 3) := by decide +kernel
theorem dL_law_241 : decode cL_law 241 = .ok (.iconst 0, 1) := by decide +kernel
theorem dL_law_242 : decode cL_law 242 = .ok (.ireturn, 1) := by decide +kernel
theorem dL_law_243 : decode cL_law 243 = .ok (.iload 5, 2) := by decide +kernel
theorem dL_law_245 : decode cL_law 245 = .ok (.ifCond .ne 15, 3) := by decide +kernel
theorem dL_law_248 : decode cL_law 248 = .ok (.aload_n 3, 1) := by decide +kernel
theorem dL_law_249 : decode cL_law 249 = .ok (.iconst 0, 1) := by decide +kernel
theorem dL_law_250 : decode cL_law 250 = .ok (.laload, 1) := by decide +kernel
theorem dL_law_251 : decode cL_law 251 = .ok (.iload 6, 2) := by decide +kernel
theorem dL_law_253 : decode cL_law 253 = .ok (.i2l, 1) := by decide +kernel
theorem dL_law_254 : decode cL_law 254 = .ok (.lcmp, 1) := by decide +kernel
theorem dL_law_255 : decode cL_law 255 = .ok (.ifCond .eq 5, 3) := by decide +kernel
theorem dL_law_258 : decode cL_law 258 = .ok (.iconst 0, 1) := by decide +kernel
theorem dL_law_259 : decode cL_law 259 = .ok (.ireturn, 1) := by decide +kernel
theorem dL_law_260 : decode cL_law 260 = .ok (.goto 1174, 3) := by decide +kernel
theorem dL_law_263 : decode cL_law 263 = .ok (.aload_n 1, 1) := by decide +kernel
theorem dL_law_264 : decode cL_law 264 = .ok (.aload_n 0, 1) := by decide +kernel
theorem dL_law_265 : decode cL_law 265 = .ok (.iload 4, 2) := by decide +kernel
theorem dL_law_267 : decode cL_law 267 = .ok (.iconst 1, 1) := by decide +kernel
theorem dL_law_268 : decode cL_law 268 = .ok (.iadd, 1) := by decide +kernel
theorem dL_law_269 : decode cL_law 269 = .ok (.iaload, 1) := by decide +kernel
theorem dL_law_270 : decode cL_law 270 = .ok (.aload_n 3, 1) := by decide +kernel
theorem dL_law_271 : decode cL_law 271 = .ok (.invokestatic 100, 3) := by decide +kernel
theorem dL_law_274 : decode cL_law 274 = .ok (.istore 5, 2) := by decide +kernel
theorem dL_law_276 : decode cL_law 276 = .ok (.aload_n 2, 1) := by decide +kernel
theorem dL_law_277 : decode cL_law 277 = .ok (.aload_n 0, 1) := by decide +kernel
theorem dL_law_278 : decode cL_law 278 = .ok (.iload 4, 2) := by decide +kernel
theorem dL_law_280 : decode cL_law 280 = .ok (.iconst 1, 1) := by decide +kernel
theorem dL_law_281 : decode cL_law 281 = .ok (.iadd, 1) := by decide +kernel
theorem dL_law_282 : decode cL_law 282 = .ok (.iaload, 1) := by decide +kernel
theorem dL_law_283 : decode cL_law 283 = .ok (.invokevirtual 102, 3) := by decide +kernel
theorem dL_law_286 : decode cL_law 286 = .ok (.istore 6, 2) := by decide +kernel
theorem dL_law_288 : decode cL_law 288 = .ok (.aload_n 2, 1) := by decide +kernel
theorem dL_law_289 : decode cL_law 289 = .ok (.invokevirtual 88, 3) := by decide +kernel
theorem dL_law_292 : decode cL_law 292 = .ok (.iload 5, 2) := by decide +kernel
theorem dL_law_294 : decode cL_law 294 = .ok (.if_icmp .eq 5, 3) := by decide +kernel
theorem dL_law_297 : decode cL_law 297 = .ok (.iconst 0, 1) := by decide +kernel
theorem dL_law_298 : decode cL_law 298 = .ok (.ireturn, 1) := by decide +kernel
theorem dL_law_299 : decode cL_law 299 = .ok (.iload 5, 2) := by decide +kernel
theorem dL_law_301 : decode cL_law 301 = .ok (.ifCond .ne 15, 3) := by decide +kernel
theorem dL_law_304 : decode cL_law 304 = .ok (.aload_n 3, 1) := by decide +kernel
theorem dL_law_305 : decode cL_law 305 = .ok (.iconst 0, 1) := by decide +kernel
theorem dL_law_306 : decode cL_law 306 = .ok (.laload, 1) := by decide +kernel
theorem dL_law_307 : decode cL_law 307 = .ok (.iload 6, 2) := by decide +kernel
theorem dL_law_309 : decode cL_law 309 = .ok (.i2l, 1) := by decide +kernel
theorem dL_law_310 : decode cL_law 310 = .ok (.lcmp, 1) := by decide +kernel
theorem dL_law_311 : decode cL_law 311 = .ok (.ifCond .eq 5, 3) := by decide +kernel
theorem dL_law_314 : decode cL_law 314 = .ok (.iconst 0, 1) := by decide +kernel
theorem dL_law_315 : decode cL_law 315 = .ok (.ireturn, 1) := by decide +kernel
theorem dL_law_316 : decode cL_law 316 = .ok (.goto 1118, 3) := by decide +kernel
theorem dL_law_319 : decode cL_law 319 = .ok (.aload_n 1, 1) := by decide +kernel
theorem dL_law_320 : decode cL_law 320 = .ok (.aload_n 0, 1) := by decide +kernel
theorem dL_law_321 : decode cL_law 321 = .ok (.iload 4, 2) := by decide +kernel
theorem dL_law_323 : decode cL_law 323 = .ok (.iconst 1, 1) := by decide +kernel
theorem dL_law_324 : decode cL_law 324 = .ok (.iadd, 1) := by decide +kernel
theorem dL_law_325 : decode cL_law 325 = .ok (.iaload, 1) := by decide +kernel
theorem dL_law_326 : decode cL_law 326 = .ok (.aload_n 0, 1) := by decide +kernel
theorem dL_law_327 : decode cL_law 327 = .ok (.iload 4, 2) := by decide +kernel
theorem dL_law_329 : decode cL_law 329 = .ok (.iconst 2, 1) := by decide +kernel
theorem dL_law_330 : decode cL_law 330 = .ok (.iadd, 1) := by decide +kernel
theorem dL_law_331 : decode cL_law 331 = .ok (.iaload, 1) := by decide +kernel
theorem dL_law_332 : decode cL_law 332 = .ok (.aload_n 0, 1) := by decide +kernel
theorem dL_law_333 : decode cL_law 333 = .ok (.iload 4, 2) := by decide +kernel
theorem dL_law_335 : decode cL_law 335 = .ok (.iconst 3, 1) := by decide +kernel
theorem dL_law_336 : decode cL_law 336 = .ok (.iadd, 1) := by decide +kernel
theorem dL_law_337 : decode cL_law 337 = .ok (.iaload, 1) := by decide +kernel
theorem dL_law_338 : decode cL_law 338 = .ok (.invokestatic 103, 3) := by decide +kernel
theorem dL_law_341 : decode cL_law 341 = .ok (.istore 5, 2) := by decide +kernel
theorem dL_law_343 : decode cL_law 343 = .ok (.aload_n 2, 1) := by decide +kernel
theorem dL_law_344 : decode cL_law 344 = .ok (.aload_n 0, 1) := by decide +kernel
theorem dL_law_345 : decode cL_law 345 = .ok (.iload 4, 2) := by decide +kernel
theorem dL_law_347 : decode cL_law 347 = .ok (.iconst 1, 1) := by decide +kernel
theorem dL_law_348 : decode cL_law 348 = .ok (.iadd, 1) := by decide +kernel
theorem dL_law_349 : decode cL_law 349 = .ok (.iaload, 1) := by decide +kernel
theorem dL_law_350 : decode cL_law 350 = .ok (.aload_n 0, 1) := by decide +kernel
theorem dL_law_351 : decode cL_law 351 = .ok (.iload 4, 2) := by decide +kernel
theorem dL_law_353 : decode cL_law 353 = .ok (.iconst 2, 1) := by decide +kernel
theorem dL_law_354 : decode cL_law 354 = .ok (.iadd, 1) := by decide +kernel
theorem dL_law_355 : decode cL_law 355 = .ok (.iaload, 1) := by decide +kernel
theorem dL_law_356 : decode cL_law 356 = .ok (.aload_n 0, 1) := by decide +kernel
theorem dL_law_357 : decode cL_law 357 = .ok (.iload 4, 2) := by decide +kernel
theorem dL_law_359 : decode cL_law 359 = .ok (.iconst 3, 1) := by decide +kernel
theorem dL_law_360 : decode cL_law 360 = .ok (.iadd, 1) := by decide +kernel
theorem dL_law_361 : decode cL_law 361 = .ok (.iaload, 1) := by decide +kernel
theorem dL_law_362 : decode cL_law 362 = .ok (.invokevirtual 106, 3) := by decide +kernel
theorem dL_law_365 : decode cL_law 365 = .ok (.aload_n 2, 1) := by decide +kernel
theorem dL_law_366 : decode cL_law 366 = .ok (.invokevirtual 88, 3) := by decide +kernel
theorem dL_law_369 : decode cL_law 369 = .ok (.iload 5, 2) := by decide +kernel
theorem dL_law_371 : decode cL_law 371 = .ok (.if_icmp .eq 5, 3) := by decide +kernel
theorem dL_law_374 : decode cL_law 374 = .ok (.iconst 0, 1) := by decide +kernel
theorem dL_law_375 : decode cL_law 375 = .ok (.ireturn, 1) := by decide +kernel
theorem dL_law_376 : decode cL_law 376 = .ok (.goto 1058, 3) := by decide +kernel
theorem dL_law_379 : decode cL_law 379 = .ok (.aload_n 1, 1) := by decide +kernel
theorem dL_law_380 : decode cL_law 380 = .ok (.aload_n 0, 1) := by decide +kernel
theorem dL_law_381 : decode cL_law 381 = .ok (.iload 4, 2) := by decide +kernel
theorem dL_law_383 : decode cL_law 383 = .ok (.iconst 1, 1) := by decide +kernel
theorem dL_law_384 : decode cL_law 384 = .ok (.iadd, 1) := by decide +kernel
theorem dL_law_385 : decode cL_law 385 = .ok (.iaload, 1) := by decide +kernel
theorem dL_law_386 : decode cL_law 386 = .ok (.aload_n 0, 1) := by decide +kernel
theorem dL_law_387 : decode cL_law 387 = .ok (.iload 4, 2) := by decide +kernel
theorem dL_law_389 : decode cL_law 389 = .ok (.iconst 2, 1) := by decide +kernel
theorem dL_law_390 : decode cL_law 390 = .ok (.iadd, 1) := by decide +kernel
theorem dL_law_391 : decode cL_law 391 = .ok (.iaload, 1) := by decide +kernel
theorem dL_law_392 : decode cL_law 392 = .ok (.aload_n 0, 1) := by decide +kernel
theorem dL_law_393 : decode cL_law 393 = .ok (.iload 4, 2) := by decide +kernel
theorem dL_law_395 : decode cL_law 395 = .ok (.iconst 3, 1) := by decide +kernel
theorem dL_law_396 : decode cL_law 396 = .ok (.iadd, 1) := by decide +kernel
theorem dL_law_397 : decode cL_law 397 = .ok (.iaload, 1) := by decide +kernel
theorem dL_law_398 : decode cL_law 398 = .ok (.aload_n 0, 1) := by decide +kernel
theorem dL_law_399 : decode cL_law 399 = .ok (.iload 4, 2) := by decide +kernel
theorem dL_law_401 : decode cL_law 401 = .ok (.iconst 4, 1) := by decide +kernel
theorem dL_law_402 : decode cL_law 402 = .ok (.iadd, 1) := by decide +kernel
theorem dL_law_403 : decode cL_law 403 = .ok (.iaload, 1) := by decide +kernel
theorem dL_law_404 : decode cL_law 404 = .ok (.ifCond .eq 7, 3) := by decide +kernel
theorem dL_law_407 : decode cL_law 407 = .ok (.iconst 1, 1) := by decide +kernel
theorem dL_law_408 : decode cL_law 408 = .ok (.goto 4, 3) := by decide +kernel
theorem dL_law_411 : decode cL_law 411 = .ok (.iconst 0, 1) := by decide +kernel
theorem dL_law_412 : decode cL_law 412 = .ok (.aload_n 3, 1) := by decide +kernel
theorem dL_law_413 : decode cL_law 413 = .ok (.invokestatic 107, 3) := by decide +kernel
theorem dL_law_416 : decode cL_law 416 = .ok (.istore 5, 2) := by decide +kernel
theorem dL_law_418 : decode cL_law 418 = .ok (.aload_n 2, 1) := by decide +kernel
theorem dL_law_419 : decode cL_law 419 = .ok (.aload_n 0, 1) := by decide +kernel
theorem dL_law_420 : decode cL_law 420 = .ok (.iload 4, 2) := by decide +kernel
theorem dL_law_422 : decode cL_law 422 = .ok (.iconst 1, 1) := by decide +kernel
theorem dL_law_423 : decode cL_law 423 = .ok (.iadd, 1) := by decide +kernel
theorem dL_law_424 : decode cL_law 424 = .ok (.iaload, 1) := by decide +kernel
theorem dL_law_425 : decode cL_law 425 = .ok (.aload_n 0, 1) := by decide +kernel
theorem dL_law_426 : decode cL_law 426 = .ok (.iload 4, 2) := by decide +kernel
theorem dL_law_428 : decode cL_law 428 = .ok (.iconst 2, 1) := by decide +kernel
theorem dL_law_429 : decode cL_law 429 = .ok (.iadd, 1) := by decide +kernel
theorem dL_law_430 : decode cL_law 430 = .ok (.iaload, 1) := by decide +kernel
theorem dL_law_431 : decode cL_law 431 = .ok (.aload_n 0, 1) := by decide +kernel
theorem dL_law_432 : decode cL_law 432 = .ok (.iload 4, 2) := by decide +kernel
theorem dL_law_434 : decode cL_law 434 = .ok (.iconst 3, 1) := by decide +kernel
theorem dL_law_435 : decode cL_law 435 = .ok (.iadd, 1) := by decide +kernel
theorem dL_law_436 : decode cL_law 436 = .ok (.iaload, 1) := by decide +kernel
theorem dL_law_437 : decode cL_law 437 = .ok (.aload_n 0, 1) := by decide +kernel
theorem dL_law_438 : decode cL_law 438 = .ok (.iload 4, 2) := by decide +kernel
theorem dL_law_440 : decode cL_law 440 = .ok (.iconst 4, 1) := by decide +kernel
theorem dL_law_441 : decode cL_law 441 = .ok (.iadd, 1) := by decide +kernel
theorem dL_law_442 : decode cL_law 442 = .ok (.iaload, 1) := by decide +kernel
theorem dL_law_443 : decode cL_law 443 = .ok (.ifCond .eq 7, 3) := by decide +kernel
theorem dL_law_446 : decode cL_law 446 = .ok (.iconst 1, 1) := by decide +kernel
theorem dL_law_447 : decode cL_law 447 = .ok (.goto 4, 3) := by decide +kernel
theorem dL_law_450 : decode cL_law 450 = .ok (.iconst 0, 1) := by decide +kernel
theorem dL_law_451 : decode cL_law 451 = .ok (.invokevirtual 110, 3) := by decide +kernel
theorem dL_law_454 : decode cL_law 454 = .ok (.istore 6, 2) := by decide +kernel
theorem dL_law_456 : decode cL_law 456 = .ok (.aload_n 2, 1) := by decide +kernel
theorem dL_law_457 : decode cL_law 457 = .ok (.invokevirtual 88, 3) := by decide +kernel
theorem dL_law_460 : decode cL_law 460 = .ok (.iload 5, 2) := by decide +kernel
theorem dL_law_462 : decode cL_law 462 = .ok (.if_icmp .eq 5, 3) := by decide +kernel
theorem dL_law_465 : decode cL_law 465 = .ok (.iconst 0, 1) := by decide +kernel
theorem dL_law_466 : decode cL_law 466 = .ok (.ireturn, 1) := by decide +kernel
theorem dL_law_467 : decode cL_law 467 = .ok (.iload 5, 2) := by decide +kernel
theorem dL_law_469 : decode cL_law 469 = .ok (.ifCond .ne 15, 3) := by decide +kernel
theorem dL_law_472 : decode cL_law 472 = .ok (.aload_n 3, 1) := by decide +kernel
theorem dL_law_473 : decode cL_law 473 = .ok (.iconst 0, 1) := by decide +kernel
theorem dL_law_474 : decode cL_law 474 = .ok (.laload, 1) := by decide +kernel
theorem dL_law_475 : decode cL_law 475 = .ok (.iload 6, 2) := by decide +kernel
theorem dL_law_477 : decode cL_law 477 = .ok (.i2l, 1) := by decide +kernel
theorem dL_law_478 : decode cL_law 478 = .ok (.lcmp, 1) := by decide +kernel
theorem dL_law_479 : decode cL_law 479 = .ok (.ifCond .eq 5, 3) := by decide +kernel
theorem dL_law_482 : decode cL_law 482 = .ok (.iconst 0, 1) := by decide +kernel
theorem dL_law_483 : decode cL_law 483 = .ok (.ireturn, 1) := by decide +kernel
theorem dL_law_484 : decode cL_law 484 = .ok (.goto 950, 3) := by decide +kernel
theorem dL_law_487 : decode cL_law 487 = .ok (.aload_n 1, 1) := by decide +kernel
theorem dL_law_488 : decode cL_law 488 = .ok (.aload_n 0, 1) := by decide +kernel
theorem dL_law_489 : decode cL_law 489 = .ok (.iload 4, 2) := by decide +kernel
theorem dL_law_491 : decode cL_law 491 = .ok (.iconst 1, 1) := by decide +kernel
theorem dL_law_492 : decode cL_law 492 = .ok (.iadd, 1) := by decide +kernel
theorem dL_law_493 : decode cL_law 493 = .ok (.iaload, 1) := by decide +kernel
theorem dL_law_494 : decode cL_law 494 = .ok (.aload_n 3, 1) := by decide +kernel
theorem dL_law_495 : decode cL_law 495 = .ok (.invokestatic 111, 3) := by decide +kernel
theorem dL_law_498 : decode cL_law 498 = .ok (.istore 5, 2) := by decide +kernel
theorem dL_law_500 : decode cL_law 500 = .ok (.aload_n 2, 1) := by decide +kernel
theorem dL_law_501 : decode cL_law 501 = .ok (.aload_n 0, 1) := by decide +kernel
theorem dL_law_502 : decode cL_law 502 = .ok (.iload 4, 2) := by decide +kernel
theorem dL_law_504 : decode cL_law 504 = .ok (.iconst 1, 1) := by decide +kernel
theorem dL_law_505 : decode cL_law 505 = .ok (.iadd, 1) := by decide +kernel
theorem dL_law_506 : decode cL_law 506 = .ok (.iaload, 1) := by decide +kernel
theorem dL_law_507 : decode cL_law 507 = .ok (.invokevirtual 113, 3) := by decide +kernel
theorem dL_law_510 : decode cL_law 510 = .ok (.istore 6, 2) := by decide +kernel
theorem dL_law_512 : decode cL_law 512 = .ok (.aload_n 2, 1) := by decide +kernel
theorem dL_law_513 : decode cL_law 513 = .ok (.invokevirtual 88, 3) := by decide +kernel
theorem dL_law_516 : decode cL_law 516 = .ok (.iload 5, 2) := by decide +kernel
theorem dL_law_518 : decode cL_law 518 = .ok (.if_icmp .eq 5, 3) := by decide +kernel
theorem dL_law_521 : decode cL_law 521 = .ok (.iconst 0, 1) := by decide +kernel
theorem dL_law_522 : decode cL_law 522 = .ok (.ireturn, 1) := by decide +kernel
theorem dL_law_523 : decode cL_law 523 = .ok (.iload 5, 2) := by decide +kernel
theorem dL_law_525 : decode cL_law 525 = .ok (.ifCond .ne 15, 3) := by decide +kernel
theorem dL_law_528 : decode cL_law 528 = .ok (.aload_n 3, 1) := by decide +kernel
theorem dL_law_529 : decode cL_law 529 = .ok (.iconst 0, 1) := by decide +kernel
theorem dL_law_530 : decode cL_law 530 = .ok (.laload, 1) := by decide +kernel
theorem dL_law_531 : decode cL_law 531 = .ok (.iload 6, 2) := by decide +kernel
theorem dL_law_533 : decode cL_law 533 = .ok (.i2l, 1) := by decide +kernel
theorem dL_law_534 : decode cL_law 534 = .ok (.lcmp, 1) := by decide +kernel
theorem dL_law_535 : decode cL_law 535 = .ok (.ifCond .eq 5, 3) := by decide +kernel
theorem dL_law_538 : decode cL_law 538 = .ok (.iconst 0, 1) := by decide +kernel
theorem dL_law_539 : decode cL_law 539 = .ok (.ireturn, 1) := by decide +kernel
theorem dL_law_540 : decode cL_law 540 = .ok (.goto 894, 3) := by decide +kernel
theorem dL_law_543 : decode cL_law 543 = .ok (.aload_n 1, 1) := by decide +kernel
theorem dL_law_544 : decode cL_law 544 = .ok (.invokevirtual 114, 3) := by decide +kernel
theorem dL_law_547 : decode cL_law 547 = .ok (.aload_n 2, 1) := by decide +kernel
theorem dL_law_548 : decode cL_law 548 = .ok (.invokevirtual 117, 3) := by decide +kernel
theorem dL_law_551 : decode cL_law 551 = .ok (.if_icmp .eq 883, 3) := by decide +kernel
theorem dL_law_554 : decode cL_law 554 = .ok (.iconst 0, 1) := by decide +kernel
theorem dL_law_555 : decode cL_law 555 = .ok (.ireturn, 1) := by decide +kernel
theorem dL_law_556 : decode cL_law 556 = .ok (.aload_n 1, 1) := by decide +kernel
theorem dL_law_557 : decode cL_law 557 = .ok (.aload_n 0, 1) := by decide +kernel
theorem dL_law_558 : decode cL_law 558 = .ok (.iload 4, 2) := by decide +kernel
theorem dL_law_560 : decode cL_law 560 = .ok (.iconst 1, 1) := by decide +kernel
theorem dL_law_561 : decode cL_law 561 = .ok (.iadd, 1) := by decide +kernel
theorem dL_law_562 : decode cL_law 562 = .ok (.iaload, 1) := by decide +kernel
theorem dL_law_563 : decode cL_law 563 = .ok (.aload_n 0, 1) := by decide +kernel
theorem dL_law_564 : decode cL_law 564 = .ok (.iload 4, 2) := by decide +kernel
theorem dL_law_566 : decode cL_law 566 = .ok (.iconst 2, 1) := by decide +kernel
theorem dL_law_567 : decode cL_law 567 = .ok (.iadd, 1) := by decide +kernel
theorem dL_law_568 : decode cL_law 568 = .ok (.iaload, 1) := by decide +kernel
theorem dL_law_569 : decode cL_law 569 = .ok (.aload_n 0, 1) := by decide +kernel
theorem dL_law_570 : decode cL_law 570 = .ok (.iload 4, 2) := by decide +kernel
theorem dL_law_572 : decode cL_law 572 = .ok (.iconst 3, 1) := by decide +kernel
theorem dL_law_573 : decode cL_law 573 = .ok (.iadd, 1) := by decide +kernel
theorem dL_law_574 : decode cL_law 574 = .ok (.iaload, 1) := by decide +kernel
theorem dL_law_575 : decode cL_law 575 = .ok (.ifCond .eq 7, 3) := by decide +kernel
theorem dL_law_578 : decode cL_law 578 = .ok (.iconst 1, 1) := by decide +kernel
theorem dL_law_579 : decode cL_law 579 = .ok (.goto 4, 3) := by decide +kernel
theorem dL_law_582 : decode cL_law 582 = .ok (.iconst 0, 1) := by decide +kernel
theorem dL_law_583 : decode cL_law 583 = .ok (.aload_n 3, 1) := by decide +kernel
theorem dL_law_584 : decode cL_law 584 = .ok (.invokestatic 118, 3) := by decide +kernel
theorem dL_law_587 : decode cL_law 587 = .ok (.istore 5, 2) := by decide +kernel
theorem dL_law_589 : decode cL_law 589 = .ok (.aload_n 2, 1) := by decide +kernel
theorem dL_law_590 : decode cL_law 590 = .ok (.aload_n 0, 1) := by decide +kernel
theorem dL_law_591 : decode cL_law 591 = .ok (.iload 4, 2) := by decide +kernel
theorem dL_law_593 : decode cL_law 593 = .ok (.iconst 1, 1) := by decide +kernel
theorem dL_law_594 : decode cL_law 594 = .ok (.iadd, 1) := by decide +kernel
theorem dL_law_595 : decode cL_law 595 = .ok (.iaload, 1) := by decide +kernel
theorem dL_law_596 : decode cL_law 596 = .ok (.aload_n 0, 1) := by decide +kernel
theorem dL_law_597 : decode cL_law 597 = .ok (.iload 4, 2) := by decide +kernel
theorem dL_law_599 : decode cL_law 599 = .ok (.iconst 2, 1) := by decide +kernel
theorem dL_law_600 : decode cL_law 600 = .ok (.iadd, 1) := by decide +kernel
theorem dL_law_601 : decode cL_law 601 = .ok (.iaload, 1) := by decide +kernel
theorem dL_law_602 : decode cL_law 602 = .ok (.aload_n 0, 1) := by decide +kernel
theorem dL_law_603 : decode cL_law 603 = .ok (.iload 4, 2) := by decide +kernel
theorem dL_law_605 : decode cL_law 605 = .ok (.iconst 3, 1) := by decide +kernel
theorem dL_law_606 : decode cL_law 606 = .ok (.iadd, 1) := by decide +kernel
theorem dL_law_607 : decode cL_law 607 = .ok (.iaload, 1) := by decide +kernel
theorem dL_law_608 : decode cL_law 608 = .ok (.ifCond .eq 7, 3) := by decide +kernel
theorem dL_law_611 : decode cL_law 611 = .ok (.iconst 1, 1) := by decide +kernel
theorem dL_law_612 : decode cL_law 612 = .ok (.goto 4, 3) := by decide +kernel
theorem dL_law_615 : decode cL_law 615 = .ok (.iconst 0, 1) := by decide +kernel
theorem dL_law_616 : decode cL_law 616 = .ok (.invokevirtual 121, 3) := by decide +kernel
theorem dL_law_619 : decode cL_law 619 = .ok (.istore 6, 2) := by decide +kernel
theorem dL_law_621 : decode cL_law 621 = .ok (.aload_n 2, 1) := by decide +kernel
theorem dL_law_622 : decode cL_law 622 = .ok (.invokevirtual 88, 3) := by decide +kernel
theorem dL_law_625 : decode cL_law 625 = .ok (.iload 5, 2) := by decide +kernel
theorem dL_law_627 : decode cL_law 627 = .ok (.if_icmp .eq 5, 3) := by decide +kernel
theorem dL_law_630 : decode cL_law 630 = .ok (.iconst 0, 1) := by decide +kernel
theorem dL_law_631 : decode cL_law 631 = .ok (.ireturn, 1) := by decide +kernel
theorem dL_law_632 : decode cL_law 632 = .ok (.iload 5, 2) := by decide +kernel
theorem dL_law_634 : decode cL_law 634 = .ok (.ifCond .ne 15, 3) := by decide +kernel
theorem dL_law_637 : decode cL_law 637 = .ok (.aload_n 3, 1) := by decide +kernel
theorem dL_law_638 : decode cL_law 638 = .ok (.iconst 0, 1) := by decide +kernel
theorem dL_law_639 : decode cL_law 639 = .ok (.laload, 1) := by decide +kernel
theorem dL_law_640 : decode cL_law 640 = .ok (.iload 6, 2) := by decide +kernel
theorem dL_law_642 : decode cL_law 642 = .ok (.i2l, 1) := by decide +kernel
theorem dL_law_643 : decode cL_law 643 = .ok (.lcmp, 1) := by decide +kernel
theorem dL_law_644 : decode cL_law 644 = .ok (.ifCond .eq 5, 3) := by decide +kernel
theorem dL_law_647 : decode cL_law 647 = .ok (.iconst 0, 1) := by decide +kernel
theorem dL_law_648 : decode cL_law 648 = .ok (.ireturn, 1) := by decide +kernel
theorem dL_law_649 : decode cL_law 649 = .ok (.goto 785, 3) := by decide +kernel
theorem dL_law_652 : decode cL_law 652 = .ok (.aload_n 1, 1) := by decide +kernel
theorem dL_law_653 : decode cL_law 653 = .ok (.aload_n 0, 1) := by decide +kernel
theorem dL_law_654 : decode cL_law 654 = .ok (.iload 4, 2) := by decide +kernel
theorem dL_law_656 : decode cL_law 656 = .ok (.iconst 1, 1) := by decide +kernel
theorem dL_law_657 : decode cL_law 657 = .ok (.iadd, 1) := by decide +kernel
theorem dL_law_658 : decode cL_law 658 = .ok (.iaload, 1) := by decide +kernel
theorem dL_law_659 : decode cL_law 659 = .ok (.aload_n 0, 1) := by decide +kernel
theorem dL_law_660 : decode cL_law 660 = .ok (.iload 4, 2) := by decide +kernel
theorem dL_law_662 : decode cL_law 662 = .ok (.iconst 2, 1) := by decide +kernel
theorem dL_law_663 : decode cL_law 663 = .ok (.iadd, 1) := by decide +kernel
theorem dL_law_664 : decode cL_law 664 = .ok (.iaload, 1) := by decide +kernel
theorem dL_law_665 : decode cL_law 665 = .ok (.aload_n 3, 1) := by decide +kernel
theorem dL_law_666 : decode cL_law 666 = .ok (.invokestatic 122, 3) := by decide +kernel
theorem dL_law_669 : decode cL_law 669 = .ok (.istore 5, 2) := by decide +kernel
theorem dL_law_671 : decode cL_law 671 = .ok (.aload_n 2, 1) := by decide +kernel
theorem dL_law_672 : decode cL_law 672 = .ok (.aload_n 0, 1) := by decide +kernel
theorem dL_law_673 : decode cL_law 673 = .ok (.iload 4, 2) := by decide +kernel
theorem dL_law_675 : decode cL_law 675 = .ok (.iconst 1, 1) := by decide +kernel
theorem dL_law_676 : decode cL_law 676 = .ok (.iadd, 1) := by decide +kernel
theorem dL_law_677 : decode cL_law 677 = .ok (.iaload, 1) := by decide +kernel
theorem dL_law_678 : decode cL_law 678 = .ok (.aload_n 0, 1) := by decide +kernel
theorem dL_law_679 : decode cL_law 679 = .ok (.iload 4, 2) := by decide +kernel
theorem dL_law_681 : decode cL_law 681 = .ok (.iconst 2, 1) := by decide +kernel
theorem dL_law_682 : decode cL_law 682 = .ok (.iadd, 1) := by decide +kernel
theorem dL_law_683 : decode cL_law 683 = .ok (.iaload, 1) := by decide +kernel
theorem dL_law_684 : decode cL_law 684 = .ok (.invokevirtual 125, 3) := by decide +kernel
theorem dL_law_687 : decode cL_law 687 = .ok (.istore 6, 2) := by decide +kernel
theorem dL_law_689 : decode cL_law 689 = .ok (.aload_n 2, 1) := by decide +kernel
theorem dL_law_690 : decode cL_law 690 = .ok (.invokevirtual 88, 3) := by decide +kernel
theorem dL_law_693 : decode cL_law 693 = .ok (.iload 5, 2) := by decide +kernel
theorem dL_law_695 : decode cL_law 695 = .ok (.if_icmp .eq 5, 3) := by decide +kernel
theorem dL_law_698 : decode cL_law 698 = .ok (.iconst 0, 1) := by decide +kernel
theorem dL_law_699 : decode cL_law 699 = .ok (.ireturn, 1) := by decide +kernel
theorem dL_law_700 : decode cL_law 700 = .ok (.iload 5, 2) := by decide +kernel
theorem dL_law_702 : decode cL_law 702 = .ok (.ifCond .ne 15, 3) := by decide +kernel
theorem dL_law_705 : decode cL_law 705 = .ok (.aload_n 3, 1) := by decide +kernel
theorem dL_law_706 : decode cL_law 706 = .ok (.iconst 0, 1) := by decide +kernel
theorem dL_law_707 : decode cL_law 707 = .ok (.laload, 1) := by decide +kernel
theorem dL_law_708 : decode cL_law 708 = .ok (.iload 6, 2) := by decide +kernel
theorem dL_law_710 : decode cL_law 710 = .ok (.i2l, 1) := by decide +kernel
theorem dL_law_711 : decode cL_law 711 = .ok (.lcmp, 1) := by decide +kernel
theorem dL_law_712 : decode cL_law 712 = .ok (.ifCond .eq 5, 3) := by decide +kernel
theorem dL_law_715 : decode cL_law 715 = .ok (.iconst 0, 1) := by decide +kernel
theorem dL_law_716 : decode cL_law 716 = .ok (.ireturn, 1) := by decide +kernel
theorem dL_law_717 : decode cL_law 717 = .ok (.goto 717, 3) := by decide +kernel
theorem dL_law_720 : decode cL_law 720 = .ok (.aload_n 1, 1) := by decide +kernel
theorem dL_law_721 : decode cL_law 721 = .ok (.aload_n 0, 1) := by decide +kernel
theorem dL_law_722 : decode cL_law 722 = .ok (.iload 4, 2) := by decide +kernel
theorem dL_law_724 : decode cL_law 724 = .ok (.iconst 1, 1) := by decide +kernel
theorem dL_law_725 : decode cL_law 725 = .ok (.iadd, 1) := by decide +kernel
theorem dL_law_726 : decode cL_law 726 = .ok (.iaload, 1) := by decide +kernel
theorem dL_law_727 : decode cL_law 727 = .ok (.aload_n 0, 1) := by decide +kernel
theorem dL_law_728 : decode cL_law 728 = .ok (.iload 4, 2) := by decide +kernel
theorem dL_law_730 : decode cL_law 730 = .ok (.iconst 2, 1) := by decide +kernel
theorem dL_law_731 : decode cL_law 731 = .ok (.iadd, 1) := by decide +kernel
theorem dL_law_732 : decode cL_law 732 = .ok (.iaload, 1) := by decide +kernel
theorem dL_law_733 : decode cL_law 733 = .ok (.aload_n 3, 1) := by decide +kernel
theorem dL_law_734 : decode cL_law 734 = .ok (.invokestatic 126, 3) := by decide +kernel
theorem dL_law_737 : decode cL_law 737 = .ok (.istore 5, 2) := by decide +kernel
theorem dL_law_739 : decode cL_law 739 = .ok (.aload_n 2, 1) := by decide +kernel
theorem dL_law_740 : decode cL_law 740 = .ok (.aload_n 0, 1) := by decide +kernel
theorem dL_law_741 : decode cL_law 741 = .ok (.iload 4, 2) := by decide +kernel
theorem dL_law_743 : decode cL_law 743 = .ok (.iconst 1, 1) := by decide +kernel
theorem dL_law_744 : decode cL_law 744 = .ok (.iadd, 1) := by decide +kernel
theorem dL_law_745 : decode cL_law 745 = .ok (.iaload, 1) := by decide +kernel
theorem dL_law_746 : decode cL_law 746 = .ok (.aload_n 0, 1) := by decide +kernel
theorem dL_law_747 : decode cL_law 747 = .ok (.iload 4, 2) := by decide +kernel
theorem dL_law_749 : decode cL_law 749 = .ok (.iconst 2, 1) := by decide +kernel
theorem dL_law_750 : decode cL_law 750 = .ok (.iadd, 1) := by decide +kernel
theorem dL_law_751 : decode cL_law 751 = .ok (.iaload, 1) := by decide +kernel
theorem dL_law_752 : decode cL_law 752 = .ok (.invokevirtual 128, 3) := by decide +kernel
theorem dL_law_755 : decode cL_law 755 = .ok (.istore 6, 2) := by decide +kernel
theorem dL_law_757 : decode cL_law 757 = .ok (.aload_n 2, 1) := by decide +kernel
theorem dL_law_758 : decode cL_law 758 = .ok (.invokevirtual 88, 3) := by decide +kernel
theorem dL_law_761 : decode cL_law 761 = .ok (.iload 5, 2) := by decide +kernel
theorem dL_law_763 : decode cL_law 763 = .ok (.if_icmp .eq 5, 3) := by decide +kernel
theorem dL_law_766 : decode cL_law 766 = .ok (.iconst 0, 1) := by decide +kernel
theorem dL_law_767 : decode cL_law 767 = .ok (.ireturn, 1) := by decide +kernel
theorem dL_law_768 : decode cL_law 768 = .ok (.iload 5, 2) := by decide +kernel
theorem dL_law_770 : decode cL_law 770 = .ok (.ifCond .ne 15, 3) := by decide +kernel
theorem dL_law_773 : decode cL_law 773 = .ok (.aload_n 3, 1) := by decide +kernel
theorem dL_law_774 : decode cL_law 774 = .ok (.iconst 0, 1) := by decide +kernel
theorem dL_law_775 : decode cL_law 775 = .ok (.laload, 1) := by decide +kernel
theorem dL_law_776 : decode cL_law 776 = .ok (.iload 6, 2) := by decide +kernel
theorem dL_law_778 : decode cL_law 778 = .ok (.i2l, 1) := by decide +kernel
theorem dL_law_779 : decode cL_law 779 = .ok (.lcmp, 1) := by decide +kernel
theorem dL_law_780 : decode cL_law 780 = .ok (.ifCond .eq 5, 3) := by decide +kernel
theorem dL_law_783 : decode cL_law 783 = .ok (.iconst 0, 1) := by decide +kernel
theorem dL_law_784 : decode cL_law 784 = .ok (.ireturn, 1) := by decide +kernel
theorem dL_law_785 : decode cL_law 785 = .ok (.goto 649, 3) := by decide +kernel
theorem dL_law_788 : decode cL_law 788 = .ok (.aload_n 1, 1) := by decide +kernel
theorem dL_law_789 : decode cL_law 789 = .ok (.aload_n 0, 1) := by decide +kernel
theorem dL_law_790 : decode cL_law 790 = .ok (.iload 4, 2) := by decide +kernel
theorem dL_law_792 : decode cL_law 792 = .ok (.iconst 1, 1) := by decide +kernel
theorem dL_law_793 : decode cL_law 793 = .ok (.iadd, 1) := by decide +kernel
theorem dL_law_794 : decode cL_law 794 = .ok (.iaload, 1) := by decide +kernel
theorem dL_law_795 : decode cL_law 795 = .ok (.aload_n 0, 1) := by decide +kernel
theorem dL_law_796 : decode cL_law 796 = .ok (.iload 4, 2) := by decide +kernel
theorem dL_law_798 : decode cL_law 798 = .ok (.iconst 2, 1) := by decide +kernel
theorem dL_law_799 : decode cL_law 799 = .ok (.iadd, 1) := by decide +kernel
theorem dL_law_800 : decode cL_law 800 = .ok (.iaload, 1) := by decide +kernel
theorem dL_law_801 : decode cL_law 801 = .ok (.aload_n 0, 1) := by decide +kernel
theorem dL_law_802 : decode cL_law 802 = .ok (.iload 4, 2) := by decide +kernel
theorem dL_law_804 : decode cL_law 804 = .ok (.iconst 3, 1) := by decide +kernel
theorem dL_law_805 : decode cL_law 805 = .ok (.iadd, 1) := by decide +kernel
theorem dL_law_806 : decode cL_law 806 = .ok (.iaload, 1) := by decide +kernel
theorem dL_law_807 : decode cL_law 807 = .ok (.aload_n 0, 1) := by decide +kernel
theorem dL_law_808 : decode cL_law 808 = .ok (.iload 4, 2) := by decide +kernel
theorem dL_law_810 : decode cL_law 810 = .ok (.iconst 4, 1) := by decide +kernel
theorem dL_law_811 : decode cL_law 811 = .ok (.iadd, 1) := by decide +kernel
theorem dL_law_812 : decode cL_law 812 = .ok (.iaload, 1) := by decide +kernel
theorem dL_law_813 : decode cL_law 813 = .ok (.aload_n 3, 1) := by decide +kernel
theorem dL_law_814 : decode cL_law 814 = .ok (.invokestatic 129, 3) := by decide +kernel
theorem dL_law_817 : decode cL_law 817 = .ok (.istore 5, 2) := by decide +kernel
theorem dL_law_819 : decode cL_law 819 = .ok (.aload_n 2, 1) := by decide +kernel
theorem dL_law_820 : decode cL_law 820 = .ok (.aload_n 0, 1) := by decide +kernel
theorem dL_law_821 : decode cL_law 821 = .ok (.iload 4, 2) := by decide +kernel
theorem dL_law_823 : decode cL_law 823 = .ok (.iconst 1, 1) := by decide +kernel
theorem dL_law_824 : decode cL_law 824 = .ok (.iadd, 1) := by decide +kernel
theorem dL_law_825 : decode cL_law 825 = .ok (.iaload, 1) := by decide +kernel
theorem dL_law_826 : decode cL_law 826 = .ok (.aload_n 0, 1) := by decide +kernel
theorem dL_law_827 : decode cL_law 827 = .ok (.iload 4, 2) := by decide +kernel
theorem dL_law_829 : decode cL_law 829 = .ok (.iconst 2, 1) := by decide +kernel
theorem dL_law_830 : decode cL_law 830 = .ok (.iadd, 1) := by decide +kernel
theorem dL_law_831 : decode cL_law 831 = .ok (.iaload, 1) := by decide +kernel
theorem dL_law_832 : decode cL_law 832 = .ok (.aload_n 0, 1) := by decide +kernel
theorem dL_law_833 : decode cL_law 833 = .ok (.iload 4, 2) := by decide +kernel
theorem dL_law_835 : decode cL_law 835 = .ok (.iconst 3, 1) := by decide +kernel
theorem dL_law_836 : decode cL_law 836 = .ok (.iadd, 1) := by decide +kernel
theorem dL_law_837 : decode cL_law 837 = .ok (.iaload, 1) := by decide +kernel
theorem dL_law_838 : decode cL_law 838 = .ok (.aload_n 0, 1) := by decide +kernel
theorem dL_law_839 : decode cL_law 839 = .ok (.iload 4, 2) := by decide +kernel
theorem dL_law_841 : decode cL_law 841 = .ok (.iconst 4, 1) := by decide +kernel
theorem dL_law_842 : decode cL_law 842 = .ok (.iadd, 1) := by decide +kernel
theorem dL_law_843 : decode cL_law 843 = .ok (.iaload, 1) := by decide +kernel
theorem dL_law_844 : decode cL_law 844 = .ok (.invokevirtual 132, 3) := by decide +kernel
theorem dL_law_847 : decode cL_law 847 = .ok (.istore 6, 2) := by decide +kernel
theorem dL_law_849 : decode cL_law 849 = .ok (.aload_n 2, 1) := by decide +kernel
theorem dL_law_850 : decode cL_law 850 = .ok (.invokevirtual 88, 3) := by decide +kernel
theorem dL_law_853 : decode cL_law 853 = .ok (.iload 5, 2) := by decide +kernel
theorem dL_law_855 : decode cL_law 855 = .ok (.if_icmp .eq 5, 3) := by decide +kernel
theorem dL_law_858 : decode cL_law 858 = .ok (.iconst 0, 1) := by decide +kernel
theorem dL_law_859 : decode cL_law 859 = .ok (.ireturn, 1) := by decide +kernel
theorem dL_law_860 : decode cL_law 860 = .ok (.iload 5, 2) := by decide +kernel
theorem dL_law_862 : decode cL_law 862 = .ok (.ifCond .ne 15, 3) := by decide +kernel
theorem dL_law_865 : decode cL_law 865 = .ok (.aload_n 3, 1) := by decide +kernel
theorem dL_law_866 : decode cL_law 866 = .ok (.iconst 0, 1) := by decide +kernel
theorem dL_law_867 : decode cL_law 867 = .ok (.laload, 1) := by decide +kernel
theorem dL_law_868 : decode cL_law 868 = .ok (.iload 6, 2) := by decide +kernel
theorem dL_law_870 : decode cL_law 870 = .ok (.i2l, 1) := by decide +kernel
theorem dL_law_871 : decode cL_law 871 = .ok (.lcmp, 1) := by decide +kernel
theorem dL_law_872 : decode cL_law 872 = .ok (.ifCond .eq 5, 3) := by decide +kernel
theorem dL_law_875 : decode cL_law 875 = .ok (.iconst 0, 1) := by decide +kernel
theorem dL_law_876 : decode cL_law 876 = .ok (.ireturn, 1) := by decide +kernel
theorem dL_law_877 : decode cL_law 877 = .ok (.goto 557, 3) := by decide +kernel
theorem dL_law_880 : decode cL_law 880 = .ok (.aload_n 1, 1) := by decide +kernel
theorem dL_law_881 : decode cL_law 881 = .ok (.aload_n 0, 1) := by decide +kernel
theorem dL_law_882 : decode cL_law 882 = .ok (.iload 4, 2) := by decide +kernel
theorem dL_law_884 : decode cL_law 884 = .ok (.iconst 1, 1) := by decide +kernel
theorem dL_law_885 : decode cL_law 885 = .ok (.iadd, 1) := by decide +kernel
theorem dL_law_886 : decode cL_law 886 = .ok (.iaload, 1) := by decide +kernel
theorem dL_law_887 : decode cL_law 887 = .ok (.aload_n 0, 1) := by decide +kernel
theorem dL_law_888 : decode cL_law 888 = .ok (.iload 4, 2) := by decide +kernel
theorem dL_law_890 : decode cL_law 890 = .ok (.iconst 2, 1) := by decide +kernel
theorem dL_law_891 : decode cL_law 891 = .ok (.iadd, 1) := by decide +kernel
theorem dL_law_892 : decode cL_law 892 = .ok (.iaload, 1) := by decide +kernel
theorem dL_law_893 : decode cL_law 893 = .ok (.aload_n 3, 1) := by decide +kernel
theorem dL_law_894 : decode cL_law 894 = .ok (.invokestatic 133, 3) := by decide +kernel
theorem dL_law_897 : decode cL_law 897 = .ok (.istore 5, 2) := by decide +kernel
theorem dL_law_899 : decode cL_law 899 = .ok (.aload_n 2, 1) := by decide +kernel
theorem dL_law_900 : decode cL_law 900 = .ok (.aload_n 0, 1) := by decide +kernel
theorem dL_law_901 : decode cL_law 901 = .ok (.iload 4, 2) := by decide +kernel
theorem dL_law_903 : decode cL_law 903 = .ok (.iconst 1, 1) := by decide +kernel
theorem dL_law_904 : decode cL_law 904 = .ok (.iadd, 1) := by decide +kernel
theorem dL_law_905 : decode cL_law 905 = .ok (.iaload, 1) := by decide +kernel
theorem dL_law_906 : decode cL_law 906 = .ok (.aload_n 0, 1) := by decide +kernel
theorem dL_law_907 : decode cL_law 907 = .ok (.iload 4, 2) := by decide +kernel
theorem dL_law_909 : decode cL_law 909 = .ok (.iconst 2, 1) := by decide +kernel
theorem dL_law_910 : decode cL_law 910 = .ok (.iadd, 1) := by decide +kernel
theorem dL_law_911 : decode cL_law 911 = .ok (.iaload, 1) := by decide +kernel
theorem dL_law_912 : decode cL_law 912 = .ok (.invokevirtual 135, 3) := by decide +kernel
theorem dL_law_915 : decode cL_law 915 = .ok (.istore 6, 2) := by decide +kernel
theorem dL_law_917 : decode cL_law 917 = .ok (.aload_n 2, 1) := by decide +kernel
theorem dL_law_918 : decode cL_law 918 = .ok (.invokevirtual 88, 3) := by decide +kernel
theorem dL_law_921 : decode cL_law 921 = .ok (.iload 5, 2) := by decide +kernel
theorem dL_law_923 : decode cL_law 923 = .ok (.if_icmp .eq 5, 3) := by decide +kernel
theorem dL_law_926 : decode cL_law 926 = .ok (.iconst 0, 1) := by decide +kernel
theorem dL_law_927 : decode cL_law 927 = .ok (.ireturn, 1) := by decide +kernel
theorem dL_law_928 : decode cL_law 928 = .ok (.iload 5, 2) := by decide +kernel
theorem dL_law_930 : decode cL_law 930 = .ok (.ifCond .ne 22, 3) := by decide +kernel
theorem dL_law_933 : decode cL_law 933 = .ok (.aload_n 3, 1) := by decide +kernel
theorem dL_law_934 : decode cL_law 934 = .ok (.iconst 0, 1) := by decide +kernel
theorem dL_law_935 : decode cL_law 935 = .ok (.laload, 1) := by decide +kernel
theorem dL_law_936 : decode cL_law 936 = .ok (.iload 6, 2) := by decide +kernel
theorem dL_law_938 : decode cL_law 938 = .ok (.ifCond .eq 7, 3) := by decide +kernel
theorem dL_law_941 : decode cL_law 941 = .ok (.lconst 1, 1) := by decide +kernel
theorem dL_law_942 : decode cL_law 942 = .ok (.goto 4, 3) := by decide +kernel
theorem dL_law_945 : decode cL_law 945 = .ok (.lconst 0, 1) := by decide +kernel
theorem dL_law_946 : decode cL_law 946 = .ok (.lcmp, 1) := by decide +kernel
theorem dL_law_947 : decode cL_law 947 = .ok (.ifCond .eq 5, 3) := by decide +kernel
theorem dL_law_950 : decode cL_law 950 = .ok (.iconst 0, 1) := by decide +kernel
theorem dL_law_951 : decode cL_law 951 = .ok (.ireturn, 1) := by decide +kernel
theorem dL_law_952 : decode cL_law 952 = .ok (.goto 482, 3) := by decide +kernel
theorem dL_law_955 : decode cL_law 955 = .ok (.aload_n 1, 1) := by decide +kernel
theorem dL_law_956 : decode cL_law 956 = .ok (.aload_n 0, 1) := by decide +kernel
theorem dL_law_957 : decode cL_law 957 = .ok (.iload 4, 2) := by decide +kernel
theorem dL_law_959 : decode cL_law 959 = .ok (.iconst 1, 1) := by decide +kernel
theorem dL_law_960 : decode cL_law 960 = .ok (.iadd, 1) := by decide +kernel
theorem dL_law_961 : decode cL_law 961 = .ok (.iaload, 1) := by decide +kernel
theorem dL_law_962 : decode cL_law 962 = .ok (.aload_n 0, 1) := by decide +kernel
theorem dL_law_963 : decode cL_law 963 = .ok (.iload 4, 2) := by decide +kernel
theorem dL_law_965 : decode cL_law 965 = .ok (.iconst 2, 1) := by decide +kernel
theorem dL_law_966 : decode cL_law 966 = .ok (.iadd, 1) := by decide +kernel
theorem dL_law_967 : decode cL_law 967 = .ok (.iaload, 1) := by decide +kernel
theorem dL_law_968 : decode cL_law 968 = .ok (.aload_n 3, 1) := by decide +kernel
theorem dL_law_969 : decode cL_law 969 = .ok (.invokestatic 136, 3) := by decide +kernel
theorem dL_law_972 : decode cL_law 972 = .ok (.istore 5, 2) := by decide +kernel
theorem dL_law_974 : decode cL_law 974 = .ok (.aload_n 2, 1) := by decide +kernel
theorem dL_law_975 : decode cL_law 975 = .ok (.aload_n 0, 1) := by decide +kernel
theorem dL_law_976 : decode cL_law 976 = .ok (.iload 4, 2) := by decide +kernel
theorem dL_law_978 : decode cL_law 978 = .ok (.iconst 1, 1) := by decide +kernel
theorem dL_law_979 : decode cL_law 979 = .ok (.iadd, 1) := by decide +kernel
theorem dL_law_980 : decode cL_law 980 = .ok (.iaload, 1) := by decide +kernel
theorem dL_law_981 : decode cL_law 981 = .ok (.aload_n 0, 1) := by decide +kernel
theorem dL_law_982 : decode cL_law 982 = .ok (.iload 4, 2) := by decide +kernel
theorem dL_law_984 : decode cL_law 984 = .ok (.iconst 2, 1) := by decide +kernel
theorem dL_law_985 : decode cL_law 985 = .ok (.iadd, 1) := by decide +kernel
theorem dL_law_986 : decode cL_law 986 = .ok (.iaload, 1) := by decide +kernel
theorem dL_law_987 : decode cL_law 987 = .ok (.invokevirtual 138, 3) := by decide +kernel
theorem dL_law_990 : decode cL_law 990 = .ok (.istore 6, 2) := by decide +kernel
theorem dL_law_992 : decode cL_law 992 = .ok (.aload_n 2, 1) := by decide +kernel
theorem dL_law_993 : decode cL_law 993 = .ok (.invokevirtual 88, 3) := by decide +kernel
theorem dL_law_996 : decode cL_law 996 = .ok (.iload 5, 2) := by decide +kernel
theorem dL_law_998 : decode cL_law 998 = .ok (.if_icmp .eq 5, 3) := by decide +kernel
theorem dL_law_1001 : decode cL_law 1001 = .ok (.iconst 0, 1) := by decide +kernel
theorem dL_law_1002 : decode cL_law 1002 = .ok (.ireturn, 1) := by decide +kernel
theorem dL_law_1003 : decode cL_law 1003 = .ok (.iload 5, 2) := by decide +kernel
theorem dL_law_1005 : decode cL_law 1005 = .ok (.ifCond .ne 15, 3) := by decide +kernel
theorem dL_law_1008 : decode cL_law 1008 = .ok (.aload_n 3, 1) := by decide +kernel
theorem dL_law_1009 : decode cL_law 1009 = .ok (.iconst 0, 1) := by decide +kernel
theorem dL_law_1010 : decode cL_law 1010 = .ok (.laload, 1) := by decide +kernel
theorem dL_law_1011 : decode cL_law 1011 = .ok (.iload 6, 2) := by decide +kernel
theorem dL_law_1013 : decode cL_law 1013 = .ok (.i2l, 1) := by decide +kernel
theorem dL_law_1014 : decode cL_law 1014 = .ok (.lcmp, 1) := by decide +kernel
theorem dL_law_1015 : decode cL_law 1015 = .ok (.ifCond .eq 5, 3) := by decide +kernel
theorem dL_law_1018 : decode cL_law 1018 = .ok (.iconst 0, 1) := by decide +kernel
theorem dL_law_1019 : decode cL_law 1019 = .ok (.ireturn, 1) := by decide +kernel
theorem dL_law_1020 : decode cL_law 1020 = .ok (.goto 414, 3) := by decide +kernel
theorem dL_law_1023 : decode cL_law 1023 = .ok (.aload_n 1, 1) := by decide +kernel
theorem dL_law_1024 : decode cL_law 1024 = .ok (.aload_n 0, 1) := by decide +kernel
theorem dL_law_1025 : decode cL_law 1025 = .ok (.iload 4, 2) := by decide +kernel
theorem dL_law_1027 : decode cL_law 1027 = .ok (.iconst 1, 1) := by decide +kernel
theorem dL_law_1028 : decode cL_law 1028 = .ok (.iadd, 1) := by decide +kernel
theorem dL_law_1029 : decode cL_law 1029 = .ok (.iaload, 1) := by decide +kernel
theorem dL_law_1030 : decode cL_law 1030 = .ok (.aload_n 3, 1) := by decide +kernel
theorem dL_law_1031 : decode cL_law 1031 = .ok (.invokestatic 139, 3) := by decide +kernel
theorem dL_law_1034 : decode cL_law 1034 = .ok (.istore 5, 2) := by decide +kernel
theorem dL_law_1036 : decode cL_law 1036 = .ok (.aload_n 2, 1) := by decide +kernel
theorem dL_law_1037 : decode cL_law 1037 = .ok (.aload_n 0, 1) := by decide +kernel
theorem dL_law_1038 : decode cL_law 1038 = .ok (.iload 4, 2) := by decide +kernel
theorem dL_law_1040 : decode cL_law 1040 = .ok (.iconst 1, 1) := by decide +kernel
theorem dL_law_1041 : decode cL_law 1041 = .ok (.iadd, 1) := by decide +kernel
theorem dL_law_1042 : decode cL_law 1042 = .ok (.iaload, 1) := by decide +kernel
theorem dL_law_1043 : decode cL_law 1043 = .ok (.invokevirtual 141, 3) := by decide +kernel
theorem dL_law_1046 : decode cL_law 1046 = .ok (.istore 6, 2) := by decide +kernel
theorem dL_law_1048 : decode cL_law 1048 = .ok (.aload_n 2, 1) := by decide +kernel
theorem dL_law_1049 : decode cL_law 1049 = .ok (.invokevirtual 88, 3) := by decide +kernel
theorem dL_law_1052 : decode cL_law 1052 = .ok (.iload 5, 2) := by decide +kernel
theorem dL_law_1054 : decode cL_law 1054 = .ok (.if_icmp .eq 5, 3) := by decide +kernel
theorem dL_law_1057 : decode cL_law 1057 = .ok (.iconst 0, 1) := by decide +kernel
theorem dL_law_1058 : decode cL_law 1058 = .ok (.ireturn, 1) := by decide +kernel
theorem dL_law_1059 : decode cL_law 1059 = .ok (.iload 5, 2) := by decide +kernel
theorem dL_law_1061 : decode cL_law 1061 = .ok (.ifCond .ne 15, 3) := by decide +kernel
theorem dL_law_1064 : decode cL_law 1064 = .ok (.aload_n 3, 1) := by decide +kernel
theorem dL_law_1065 : decode cL_law 1065 = .ok (.iconst 0, 1) := by decide +kernel
theorem dL_law_1066 : decode cL_law 1066 = .ok (.laload, 1) := by decide +kernel
theorem dL_law_1067 : decode cL_law 1067 = .ok (.iload 6, 2) := by decide +kernel
theorem dL_law_1069 : decode cL_law 1069 = .ok (.i2l, 1) := by decide +kernel
theorem dL_law_1070 : decode cL_law 1070 = .ok (.lcmp, 1) := by decide +kernel
theorem dL_law_1071 : decode cL_law 1071 = .ok (.ifCond .eq 5, 3) := by decide +kernel
theorem dL_law_1074 : decode cL_law 1074 = .ok (.iconst 0, 1) := by decide +kernel
theorem dL_law_1075 : decode cL_law 1075 = .ok (.ireturn, 1) := by decide +kernel
theorem dL_law_1076 : decode cL_law 1076 = .ok (.goto 358, 3) := by decide +kernel
theorem dL_law_1079 : decode cL_law 1079 = .ok (.aload_n 1, 1) := by decide +kernel
theorem dL_law_1080 : decode cL_law 1080 = .ok (.aload_n 0, 1) := by decide +kernel
theorem dL_law_1081 : decode cL_law 1081 = .ok (.iload 4, 2) := by decide +kernel
theorem dL_law_1083 : decode cL_law 1083 = .ok (.iconst 1, 1) := by decide +kernel
theorem dL_law_1084 : decode cL_law 1084 = .ok (.iadd, 1) := by decide +kernel
theorem dL_law_1085 : decode cL_law 1085 = .ok (.iaload, 1) := by decide +kernel
theorem dL_law_1086 : decode cL_law 1086 = .ok (.aload_n 0, 1) := by decide +kernel
theorem dL_law_1087 : decode cL_law 1087 = .ok (.iload 4, 2) := by decide +kernel
theorem dL_law_1089 : decode cL_law 1089 = .ok (.iconst 2, 1) := by decide +kernel
theorem dL_law_1090 : decode cL_law 1090 = .ok (.iadd, 1) := by decide +kernel
theorem dL_law_1091 : decode cL_law 1091 = .ok (.iaload, 1) := by decide +kernel
theorem dL_law_1092 : decode cL_law 1092 = .ok (.aload_n 3, 1) := by decide +kernel
theorem dL_law_1093 : decode cL_law 1093 = .ok (.invokestatic 142, 3) := by decide +kernel
theorem dL_law_1096 : decode cL_law 1096 = .ok (.istore 5, 2) := by decide +kernel
theorem dL_law_1098 : decode cL_law 1098 = .ok (.aload_n 2, 1) := by decide +kernel
theorem dL_law_1099 : decode cL_law 1099 = .ok (.aload_n 0, 1) := by decide +kernel
theorem dL_law_1100 : decode cL_law 1100 = .ok (.iload 4, 2) := by decide +kernel
theorem dL_law_1102 : decode cL_law 1102 = .ok (.iconst 1, 1) := by decide +kernel
theorem dL_law_1103 : decode cL_law 1103 = .ok (.iadd, 1) := by decide +kernel
theorem dL_law_1104 : decode cL_law 1104 = .ok (.iaload, 1) := by decide +kernel
theorem dL_law_1105 : decode cL_law 1105 = .ok (.aload_n 0, 1) := by decide +kernel
theorem dL_law_1106 : decode cL_law 1106 = .ok (.iload 4, 2) := by decide +kernel
theorem dL_law_1108 : decode cL_law 1108 = .ok (.iconst 2, 1) := by decide +kernel
theorem dL_law_1109 : decode cL_law 1109 = .ok (.iadd, 1) := by decide +kernel
theorem dL_law_1110 : decode cL_law 1110 = .ok (.iaload, 1) := by decide +kernel
theorem dL_law_1111 : decode cL_law 1111 = .ok (.invokevirtual 144, 3) := by decide +kernel
theorem dL_law_1114 : decode cL_law 1114 = .ok (.istore 6, 2) := by decide +kernel
theorem dL_law_1116 : decode cL_law 1116 = .ok (.aload_n 2, 1) := by decide +kernel
theorem dL_law_1117 : decode cL_law 1117 = .ok (.invokevirtual 88, 3) := by decide +kernel
theorem dL_law_1120 : decode cL_law 1120 = .ok (.iload 5, 2) := by decide +kernel
theorem dL_law_1122 : decode cL_law 1122 = .ok (.if_icmp .eq 5, 3) := by decide +kernel
theorem dL_law_1125 : decode cL_law 1125 = .ok (.iconst 0, 1) := by decide +kernel
theorem dL_law_1126 : decode cL_law 1126 = .ok (.ireturn, 1) := by decide +kernel
theorem dL_law_1127 : decode cL_law 1127 = .ok (.iload 5, 2) := by decide +kernel
theorem dL_law_1129 : decode cL_law 1129 = .ok (.ifCond .ne 15, 3) := by decide +kernel
theorem dL_law_1132 : decode cL_law 1132 = .ok (.aload_n 3, 1) := by decide +kernel
theorem dL_law_1133 : decode cL_law 1133 = .ok (.iconst 0, 1) := by decide +kernel
theorem dL_law_1134 : decode cL_law 1134 = .ok (.laload, 1) := by decide +kernel
theorem dL_law_1135 : decode cL_law 1135 = .ok (.iload 6, 2) := by decide +kernel
theorem dL_law_1137 : decode cL_law 1137 = .ok (.i2l, 1) := by decide +kernel
theorem dL_law_1138 : decode cL_law 1138 = .ok (.lcmp, 1) := by decide +kernel
theorem dL_law_1139 : decode cL_law 1139 = .ok (.ifCond .eq 5, 3) := by decide +kernel
theorem dL_law_1142 : decode cL_law 1142 = .ok (.iconst 0, 1) := by decide +kernel
theorem dL_law_1143 : decode cL_law 1143 = .ok (.ireturn, 1) := by decide +kernel
theorem dL_law_1144 : decode cL_law 1144 = .ok (.goto 290, 3) := by decide +kernel
theorem dL_law_1147 : decode cL_law 1147 = .ok (.aload_n 1, 1) := by decide +kernel
theorem dL_law_1148 : decode cL_law 1148 = .ok (.aload_n 0, 1) := by decide +kernel
theorem dL_law_1149 : decode cL_law 1149 = .ok (.iload 4, 2) := by decide +kernel
theorem dL_law_1151 : decode cL_law 1151 = .ok (.iconst 1, 1) := by decide +kernel
theorem dL_law_1152 : decode cL_law 1152 = .ok (.iadd, 1) := by decide +kernel
theorem dL_law_1153 : decode cL_law 1153 = .ok (.iaload, 1) := by decide +kernel
theorem dL_law_1154 : decode cL_law 1154 = .ok (.aload_n 0, 1) := by decide +kernel
theorem dL_law_1155 : decode cL_law 1155 = .ok (.iload 4, 2) := by decide +kernel
theorem dL_law_1157 : decode cL_law 1157 = .ok (.iconst 2, 1) := by decide +kernel
theorem dL_law_1158 : decode cL_law 1158 = .ok (.iadd, 1) := by decide +kernel
theorem dL_law_1159 : decode cL_law 1159 = .ok (.iaload, 1) := by decide +kernel
theorem dL_law_1160 : decode cL_law 1160 = .ok (.aload_n 3, 1) := by decide +kernel
theorem dL_law_1161 : decode cL_law 1161 = .ok (.invokestatic 145, 3) := by decide +kernel
theorem dL_law_1164 : decode cL_law 1164 = .ok (.istore 5, 2) := by decide +kernel
theorem dL_law_1166 : decode cL_law 1166 = .ok (.aload_n 2, 1) := by decide +kernel
theorem dL_law_1167 : decode cL_law 1167 = .ok (.aload_n 0, 1) := by decide +kernel
theorem dL_law_1168 : decode cL_law 1168 = .ok (.iload 4, 2) := by decide +kernel
theorem dL_law_1170 : decode cL_law 1170 = .ok (.iconst 1, 1) := by decide +kernel
theorem dL_law_1171 : decode cL_law 1171 = .ok (.iadd, 1) := by decide +kernel
theorem dL_law_1172 : decode cL_law 1172 = .ok (.iaload, 1) := by decide +kernel
theorem dL_law_1173 : decode cL_law 1173 = .ok (.aload_n 0, 1) := by decide +kernel
theorem dL_law_1174 : decode cL_law 1174 = .ok (.iload 4, 2) := by decide +kernel
theorem dL_law_1176 : decode cL_law 1176 = .ok (.iconst 2, 1) := by decide +kernel
theorem dL_law_1177 : decode cL_law 1177 = .ok (.iadd, 1) := by decide +kernel
theorem dL_law_1178 : decode cL_law 1178 = .ok (.iaload, 1) := by decide +kernel
theorem dL_law_1179 : decode cL_law 1179 = .ok (.invokevirtual 147, 3) := by decide +kernel
theorem dL_law_1182 : decode cL_law 1182 = .ok (.istore 6, 2) := by decide +kernel
theorem dL_law_1184 : decode cL_law 1184 = .ok (.aload_n 2, 1) := by decide +kernel
theorem dL_law_1185 : decode cL_law 1185 = .ok (.invokevirtual 88, 3) := by decide +kernel
theorem dL_law_1188 : decode cL_law 1188 = .ok (.iload 5, 2) := by decide +kernel
theorem dL_law_1190 : decode cL_law 1190 = .ok (.if_icmp .eq 5, 3) := by decide +kernel
theorem dL_law_1193 : decode cL_law 1193 = .ok (.iconst 0, 1) := by decide +kernel
theorem dL_law_1194 : decode cL_law 1194 = .ok (.ireturn, 1) := by decide +kernel
theorem dL_law_1195 : decode cL_law 1195 = .ok (.iload 5, 2) := by decide +kernel
theorem dL_law_1197 : decode cL_law 1197 = .ok (.ifCond .ne 15, 3) := by decide +kernel
theorem dL_law_1200 : decode cL_law 1200 = .ok (.aload_n 3, 1) := by decide +kernel
theorem dL_law_1201 : decode cL_law 1201 = .ok (.iconst 0, 1) := by decide +kernel
theorem dL_law_1202 : decode cL_law 1202 = .ok (.laload, 1) := by decide +kernel
theorem dL_law_1203 : decode cL_law 1203 = .ok (.iload 6, 2) := by decide +kernel
theorem dL_law_1205 : decode cL_law 1205 = .ok (.i2l, 1) := by decide +kernel
theorem dL_law_1206 : decode cL_law 1206 = .ok (.lcmp, 1) := by decide +kernel
theorem dL_law_1207 : decode cL_law 1207 = .ok (.ifCond .eq 5, 3) := by decide +kernel
theorem dL_law_1210 : decode cL_law 1210 = .ok (.iconst 0, 1) := by decide +kernel
theorem dL_law_1211 : decode cL_law 1211 = .ok (.ireturn, 1) := by decide +kernel
theorem dL_law_1212 : decode cL_law 1212 = .ok (.goto 222, 3) := by decide +kernel
theorem dL_law_1215 : decode cL_law 1215 = .ok (.aload_n 1, 1) := by decide +kernel
theorem dL_law_1216 : decode cL_law 1216 = .ok (.aload_n 0, 1) := by decide +kernel
theorem dL_law_1217 : decode cL_law 1217 = .ok (.iload 4, 2) := by decide +kernel
theorem dL_law_1219 : decode cL_law 1219 = .ok (.iconst 1, 1) := by decide +kernel
theorem dL_law_1220 : decode cL_law 1220 = .ok (.iadd, 1) := by decide +kernel
theorem dL_law_1221 : decode cL_law 1221 = .ok (.iaload, 1) := by decide +kernel
theorem dL_law_1222 : decode cL_law 1222 = .ok (.aload_n 0, 1) := by decide +kernel
theorem dL_law_1223 : decode cL_law 1223 = .ok (.iload 4, 2) := by decide +kernel
theorem dL_law_1225 : decode cL_law 1225 = .ok (.iconst 2, 1) := by decide +kernel
theorem dL_law_1226 : decode cL_law 1226 = .ok (.iadd, 1) := by decide +kernel
theorem dL_law_1227 : decode cL_law 1227 = .ok (.iaload, 1) := by decide +kernel
theorem dL_law_1228 : decode cL_law 1228 = .ok (.aload_n 3, 1) := by decide +kernel
theorem dL_law_1229 : decode cL_law 1229 = .ok (.invokestatic 148, 3) := by decide +kernel
theorem dL_law_1232 : decode cL_law 1232 = .ok (.istore 5, 2) := by decide +kernel
theorem dL_law_1234 : decode cL_law 1234 = .ok (.aload_n 2, 1) := by decide +kernel
theorem dL_law_1235 : decode cL_law 1235 = .ok (.aload_n 0, 1) := by decide +kernel
theorem dL_law_1236 : decode cL_law 1236 = .ok (.iload 4, 2) := by decide +kernel
theorem dL_law_1238 : decode cL_law 1238 = .ok (.iconst 1, 1) := by decide +kernel
theorem dL_law_1239 : decode cL_law 1239 = .ok (.iadd, 1) := by decide +kernel
theorem dL_law_1240 : decode cL_law 1240 = .ok (.iaload, 1) := by decide +kernel
theorem dL_law_1241 : decode cL_law 1241 = .ok (.aload_n 0, 1) := by decide +kernel
theorem dL_law_1242 : decode cL_law 1242 = .ok (.iload 4, 2) := by decide +kernel
theorem dL_law_1244 : decode cL_law 1244 = .ok (.iconst 2, 1) := by decide +kernel
theorem dL_law_1245 : decode cL_law 1245 = .ok (.iadd, 1) := by decide +kernel
theorem dL_law_1246 : decode cL_law 1246 = .ok (.iaload, 1) := by decide +kernel
theorem dL_law_1247 : decode cL_law 1247 = .ok (.invokevirtual 150, 3) := by decide +kernel
theorem dL_law_1250 : decode cL_law 1250 = .ok (.istore 6, 2) := by decide +kernel
theorem dL_law_1252 : decode cL_law 1252 = .ok (.aload_n 2, 1) := by decide +kernel
theorem dL_law_1253 : decode cL_law 1253 = .ok (.invokevirtual 88, 3) := by decide +kernel
theorem dL_law_1256 : decode cL_law 1256 = .ok (.iload 5, 2) := by decide +kernel
theorem dL_law_1258 : decode cL_law 1258 = .ok (.if_icmp .eq 5, 3) := by decide +kernel
theorem dL_law_1261 : decode cL_law 1261 = .ok (.iconst 0, 1) := by decide +kernel
theorem dL_law_1262 : decode cL_law 1262 = .ok (.ireturn, 1) := by decide +kernel
theorem dL_law_1263 : decode cL_law 1263 = .ok (.iload 5, 2) := by decide +kernel
theorem dL_law_1265 : decode cL_law 1265 = .ok (.ifCond .ne 22, 3) := by decide +kernel
theorem dL_law_1268 : decode cL_law 1268 = .ok (.aload_n 3, 1) := by decide +kernel
theorem dL_law_1269 : decode cL_law 1269 = .ok (.iconst 0, 1) := by decide +kernel
theorem dL_law_1270 : decode cL_law 1270 = .ok (.laload, 1) := by decide +kernel
theorem dL_law_1271 : decode cL_law 1271 = .ok (.iload 6, 2) := by decide +kernel
theorem dL_law_1273 : decode cL_law 1273 = .ok (.ifCond .eq 7, 3) := by decide +kernel
theorem dL_law_1276 : decode cL_law 1276 = .ok (.lconst 1, 1) := by decide +kernel
theorem dL_law_1277 : decode cL_law 1277 = .ok (.goto 4, 3) := by decide +kernel
theorem dL_law_1280 : decode cL_law 1280 = .ok (.lconst 0, 1) := by decide +kernel
theorem dL_law_1281 : decode cL_law 1281 = .ok (.lcmp, 1) := by decide +kernel
theorem dL_law_1282 : decode cL_law 1282 = .ok (.ifCond .eq 5, 3) := by decide +kernel
theorem dL_law_1285 : decode cL_law 1285 = .ok (.iconst 0, 1) := by decide +kernel
theorem dL_law_1286 : decode cL_law 1286 = .ok (.ireturn, 1) := by decide +kernel
theorem dL_law_1287 : decode cL_law 1287 = .ok (.goto 147, 3) := by decide +kernel
theorem dL_law_1290 : decode cL_law 1290 = .ok (.aload_n 1, 1) := by decide +kernel
theorem dL_law_1291 : decode cL_law 1291 = .ok (.aload_n 0, 1) := by decide +kernel
theorem dL_law_1292 : decode cL_law 1292 = .ok (.iload 4, 2) := by decide +kernel
theorem dL_law_1294 : decode cL_law 1294 = .ok (.iconst 1, 1) := by decide +kernel
theorem dL_law_1295 : decode cL_law 1295 = .ok (.iadd, 1) := by decide +kernel
theorem dL_law_1296 : decode cL_law 1296 = .ok (.iaload, 1) := by decide +kernel
theorem dL_law_1297 : decode cL_law 1297 = .ok (.aload_n 3, 1) := by decide +kernel
theorem dL_law_1298 : decode cL_law 1298 = .ok (.invokestatic 151, 3) := by decide +kernel
theorem dL_law_1301 : decode cL_law 1301 = .ok (.istore 5, 2) := by decide +kernel
theorem dL_law_1303 : decode cL_law 1303 = .ok (.aload_n 2, 1) := by decide +kernel
theorem dL_law_1304 : decode cL_law 1304 = .ok (.aload_n 0, 1) := by decide +kernel
theorem dL_law_1305 : decode cL_law 1305 = .ok (.iload 4, 2) := by decide +kernel
theorem dL_law_1307 : decode cL_law 1307 = .ok (.iconst 1, 1) := by decide +kernel
theorem dL_law_1308 : decode cL_law 1308 = .ok (.iadd, 1) := by decide +kernel
theorem dL_law_1309 : decode cL_law 1309 = .ok (.iaload, 1) := by decide +kernel
theorem dL_law_1310 : decode cL_law 1310 = .ok (.invokevirtual 153, 3) := by decide +kernel
theorem dL_law_1313 : decode cL_law 1313 = .ok (.istore 6, 2) := by decide +kernel
theorem dL_law_1315 : decode cL_law 1315 = .ok (.aload_n 2, 1) := by decide +kernel
theorem dL_law_1316 : decode cL_law 1316 = .ok (.invokevirtual 88, 3) := by decide +kernel
theorem dL_law_1319 : decode cL_law 1319 = .ok (.iload 5, 2) := by decide +kernel
theorem dL_law_1321 : decode cL_law 1321 = .ok (.if_icmp .eq 5, 3) := by decide +kernel
theorem dL_law_1324 : decode cL_law 1324 = .ok (.iconst 0, 1) := by decide +kernel
theorem dL_law_1325 : decode cL_law 1325 = .ok (.ireturn, 1) := by decide +kernel
theorem dL_law_1326 : decode cL_law 1326 = .ok (.iload 5, 2) := by decide +kernel
theorem dL_law_1328 : decode cL_law 1328 = .ok (.ifCond .ne 22, 3) := by decide +kernel
theorem dL_law_1331 : decode cL_law 1331 = .ok (.aload_n 3, 1) := by decide +kernel
theorem dL_law_1332 : decode cL_law 1332 = .ok (.iconst 0, 1) := by decide +kernel
theorem dL_law_1333 : decode cL_law 1333 = .ok (.laload, 1) := by decide +kernel
theorem dL_law_1334 : decode cL_law 1334 = .ok (.iload 6, 2) := by decide +kernel
theorem dL_law_1336 : decode cL_law 1336 = .ok (.ifCond .eq 7, 3) := by decide +kernel
theorem dL_law_1339 : decode cL_law 1339 = .ok (.lconst 1, 1) := by decide +kernel
theorem dL_law_1340 : decode cL_law 1340 = .ok (.goto 4, 3) := by decide +kernel
theorem dL_law_1343 : decode cL_law 1343 = .ok (.lconst 0, 1) := by decide +kernel
theorem dL_law_1344 : decode cL_law 1344 = .ok (.lcmp, 1) := by decide +kernel
theorem dL_law_1345 : decode cL_law 1345 = .ok (.ifCond .eq 5, 3) := by decide +kernel
theorem dL_law_1348 : decode cL_law 1348 = .ok (.iconst 0, 1) := by decide +kernel
theorem dL_law_1349 : decode cL_law 1349 = .ok (.ireturn, 1) := by decide +kernel
theorem dL_law_1350 : decode cL_law 1350 = .ok (.goto 84, 3) := by decide +kernel
theorem dL_law_1353 : decode cL_law 1353 = .ok (.aload_n 1, 1) := by decide +kernel
theorem dL_law_1354 : decode cL_law 1354 = .ok (.aload_n 0, 1) := by decide +kernel
theorem dL_law_1355 : decode cL_law 1355 = .ok (.iload 4, 2) := by decide +kernel
theorem dL_law_1357 : decode cL_law 1357 = .ok (.iconst 1, 1) := by decide +kernel
theorem dL_law_1358 : decode cL_law 1358 = .ok (.iadd, 1) := by decide +kernel
theorem dL_law_1359 : decode cL_law 1359 = .ok (.iaload, 1) := by decide +kernel
theorem dL_law_1360 : decode cL_law 1360 = .ok (.aload_n 0, 1) := by decide +kernel
theorem dL_law_1361 : decode cL_law 1361 = .ok (.iload 4, 2) := by decide +kernel
theorem dL_law_1363 : decode cL_law 1363 = .ok (.iconst 2, 1) := by decide +kernel
theorem dL_law_1364 : decode cL_law 1364 = .ok (.iadd, 1) := by decide +kernel
theorem dL_law_1365 : decode cL_law 1365 = .ok (.iaload, 1) := by decide +kernel
theorem dL_law_1366 : decode cL_law 1366 = .ok (.aload_n 3, 1) := by decide +kernel
theorem dL_law_1367 : decode cL_law 1367 = .ok (.invokestatic 154, 3) := by decide +kernel
theorem dL_law_1370 : decode cL_law 1370 = .ok (.istore 5, 2) := by decide +kernel
theorem dL_law_1372 : decode cL_law 1372 = .ok (.aload_n 2, 1) := by decide +kernel
theorem dL_law_1373 : decode cL_law 1373 = .ok (.aload_n 0, 1) := by decide +kernel
theorem dL_law_1374 : decode cL_law 1374 = .ok (.iload 4, 2) := by decide +kernel
theorem dL_law_1376 : decode cL_law 1376 = .ok (.iconst 1, 1) := by decide +kernel
theorem dL_law_1377 : decode cL_law 1377 = .ok (.iadd, 1) := by decide +kernel
theorem dL_law_1378 : decode cL_law 1378 = .ok (.iaload, 1) := by decide +kernel
theorem dL_law_1379 : decode cL_law 1379 = .ok (.aload_n 0, 1) := by decide +kernel
theorem dL_law_1380 : decode cL_law 1380 = .ok (.iload 4, 2) := by decide +kernel
theorem dL_law_1382 : decode cL_law 1382 = .ok (.iconst 2, 1) := by decide +kernel
theorem dL_law_1383 : decode cL_law 1383 = .ok (.iadd, 1) := by decide +kernel
theorem dL_law_1384 : decode cL_law 1384 = .ok (.iaload, 1) := by decide +kernel
theorem dL_law_1385 : decode cL_law 1385 = .ok (.invokevirtual 156, 3) := by decide +kernel
theorem dL_law_1388 : decode cL_law 1388 = .ok (.istore 6, 2) := by decide +kernel
theorem dL_law_1390 : decode cL_law 1390 = .ok (.aload_n 2, 1) := by decide +kernel
theorem dL_law_1391 : decode cL_law 1391 = .ok (.invokevirtual 88, 3) := by decide +kernel
theorem dL_law_1394 : decode cL_law 1394 = .ok (.iload 5, 2) := by decide +kernel
theorem dL_law_1396 : decode cL_law 1396 = .ok (.if_icmp .eq 5, 3) := by decide +kernel
theorem dL_law_1399 : decode cL_law 1399 = .ok (.iconst 0, 1) := by decide +kernel
theorem dL_law_1400 : decode cL_law 1400 = .ok (.ireturn, 1) := by decide +kernel
theorem dL_law_1401 : decode cL_law 1401 = .ok (.iload 5, 2) := by decide +kernel
theorem dL_law_1403 : decode cL_law 1403 = .ok (.ifCond .ne 15, 3) := by decide +kernel
theorem dL_law_1406 : decode cL_law 1406 = .ok (.aload_n 3, 1) := by decide +kernel
theorem dL_law_1407 : decode cL_law 1407 = .ok (.iconst 0, 1) := by decide +kernel
theorem dL_law_1408 : decode cL_law 1408 = .ok (.laload, 1) := by decide +kernel
theorem dL_law_1409 : decode cL_law 1409 = .ok (.iload 6, 2) := by decide +kernel
theorem dL_law_1411 : decode cL_law 1411 = .ok (.i2l, 1) := by decide +kernel
theorem dL_law_1412 : decode cL_law 1412 = .ok (.lcmp, 1) := by decide +kernel
theorem dL_law_1413 : decode cL_law 1413 = .ok (.ifCond .eq 5, 3) := by decide +kernel
theorem dL_law_1416 : decode cL_law 1416 = .ok (.iconst 0, 1) := by decide +kernel
theorem dL_law_1417 : decode cL_law 1417 = .ok (.ireturn, 1) := by decide +kernel
theorem dL_law_1418 : decode cL_law 1418 = .ok (.goto 16, 3) := by decide +kernel
theorem dL_law_1421 : decode cL_law 1421 = .ok (.aload_n 1, 1) := by decide +kernel
theorem dL_law_1422 : decode cL_law 1422 = .ok (.invokevirtual 157, 3) := by decide +kernel
theorem dL_law_1425 : decode cL_law 1425 = .ok (.aload_n 2, 1) := by decide +kernel
theorem dL_law_1426 : decode cL_law 1426 = .ok (.invokevirtual 161, 3) := by decide +kernel
theorem dL_law_1429 : decode cL_law 1429 = .ok (.if_icmp .eq 5, 3) := by decide +kernel
theorem dL_law_1432 : decode cL_law 1432 = .ok (.iconst 0, 1) := by decide +kernel
theorem dL_law_1433 : decode cL_law 1433 = .ok (.ireturn, 1) := by decide +kernel
theorem dL_law_1434 : decode cL_law 1434 = .ok (.iinc 4 5, 3) := by decide +kernel
theorem dL_law_1437 : decode cL_law 1437 = .ok (.goto (-1414), 3) := by decide +kernel
theorem dL_law_1440 : decode cL_law 1440 = .ok (.iconst 1, 1) := by decide +kernel
theorem dL_law_1441 : decode cL_law 1441 = .ok (.ireturn, 1) := by decide +kernel
end
section
/-! ===== numbers: an int of the machine, written as an integer ===== -/
def i32 (z : Int) : Int32 := Int32.ofInt z
def rng (z : Int) : Prop := -2147483648 ≤ z ∧ z < 2147483648
theorem i32_toInt {z : Int} (h : rng z) : (i32 z).toInt = z := Int32.toInt_ofInt_of_le (by have := h.1; omega) (by have := h.2; omega)
theorem i32_of (x : Int32) : ∃ z, rng z ∧ x = i32 z := ⟨x.toInt, ⟨by have := x.le_toInt; omega, by have := x.toInt_lt; omega⟩, (Int32.ofInt_toInt x).symm⟩
theorem i32_add (a b : Int) : i32 a + i32 b = i32 (a + b) := (Int32.ofInt_add a b).symm
theorem i32_sub (a b : Int) : i32 a - i32 b = i32 (a - b) := (Int32.ofInt_sub a b).symm
theorem i32_mul (a b : Int) : i32 a * i32 b = i32 (a * b) := (Int32.ofInt_mul a b).symm
theorem i32_lt {a b : Int} (ha : rng a) (hb : rng b) : i32 a < i32 b ↔ a < b := by rw [Int32.lt_iff_toInt_lt, i32_toInt ha, i32_toInt hb]
theorem i32_le {a b : Int} (ha : rng a) (hb : rng b) : i32 a ≤ i32 b ↔ a ≤ b := by rw [Int32.le_iff_toInt_le, i32_toInt ha, i32_toInt hb]
theorem i32_inj {a b : Int} (ha : rng a) (hb : rng b) : i32 a = i32 b ↔ a = b := by rw [← Int32.toInt_inj, i32_toInt ha, i32_toInt hb]
theorem i32_0 : i32 0 = 0 := rfl
theorem rng_0 : rng 0 := ⟨by decide, by decide⟩
theorem i32_ofInt (n : Int) : Int32.ofInt n = i32 n := rfl
theorem i32_div {a b : Int} (ha : 0 ≤ a) (ha2 : a < 2147483648) (hb : 0 < b) (hb2 : b < 2147483648) : i32 a / i32 b = i32 (a / b) := by
  have h1 : 0 ≤ a / b := Int.ediv_nonneg ha (by omega)
  have h2 : a / b ≤ a := Int.ediv_le_self b ha
  refine Int32.toInt_inj.mp ?_
  rw [Int32.toInt_div_of_ne_right _ _ (fun h => ?_), i32_toInt ⟨by omega, ha2⟩, i32_toInt ⟨by omega, hb2⟩, i32_toInt ⟨by omega, by omega⟩, Int.tdiv_eq_ediv_of_nonneg ha]
  have h3 := congrArg Int32.toInt h
  rw [i32_toInt ⟨by omega, hb2⟩] at h3
  have h4 : (-1 : Int32).toInt = -1 := by decide
  omega
theorem i32_rem {a b : Int} (ha : 0 ≤ a) (ha2 : a < 2147483648) (hb : 0 < b) (hb2 : b < 2147483648) : i32 a - i32 a / i32 b * i32 b = i32 (a % b) := by
  rw [i32_div ha ha2 hb hb2, i32_mul, i32_sub]
  congr 1
  have := Int.emod_add_mul_ediv a b
  rw [Int.mul_comm] at this
  omega
theorem i32_clamp {z : Int} (h0 : 0 ≤ z) (h : z < 2147483648) : (i32 z).toNatClampNeg = z.toNat := by
  rw [← Int32.toNat_toInt, i32_toInt ⟨by omega, h⟩]
theorem i32_in {z : Int} {n : Nat} (h0 : 0 ≤ z) (h : z < n) (hn : n < 2147483648) : vp_in (i32 z) n := by
  have hr : rng z := ⟨by omega, by omega⟩
  refine vp_in_iff.mpr ⟨?_, ?_⟩ <;> rw [i32_toInt hr] <;> omega
theorem i32_nI (n : Nat) : nI n = i32 n := (Int32.ofInt_eq_ofNat (n := n)).symm
def i64 (z : Int) : Int64 := Int64.ofInt z
theorem i64_of32 {z : Int} (h : rng z) : (i32 z).toInt64 = i64 z := by
  refine Int64.toInt_inj.mp ?_
  rw [Int32.toInt_toInt64, i32_toInt h]
  exact (Int64.toInt_ofInt_of_le (by have := h.1; omega) (by have := h.2; omega)).symm
theorem i64_toInt {z : Int} (h : rng z) : (i64 z).toInt = z := Int64.toInt_ofInt_of_le (by have := h.1; omega) (by have := h.2; omega)
theorem i64_inj {a b : Int} (ha : rng a) (hb : rng b) : i64 a = i64 b ↔ a = b := by rw [← Int64.toInt_inj, i64_toInt ha, i64_toInt hb]
/-! ===== the state: for each object and each of its rows (0: its own fields; k + 1: the array in its field k) what stands at each place; at place -1 of row 0: 1, if the object is there ===== -/
abbrev St : Type := Nat → Nat → Int → Int
def ud (f : Int → Int) (j v : Int) : Int → Int := fun x => if x = j then v else f x
def stR (S : St) (o r : Nat) (f : Int → Int) : St := fun x y => if x = o ∧ y = r then f else S x y
def st (S : St) (o r : Nat) (j v : Int) : St := stR S o r (ud (S o r) j v)
theorem st_at (S : St) (o r : Nat) (j v : Int) (o' r' : Nat) (j' : Int) : st S o r j v o' r' j' = if o' = o ∧ r' = r ∧ j' = j then v else S o' r' j' := by
  unfold st stR ud
  by_cases h : o' = o ∧ r' = r
  · obtain ⟨rfl, rfl⟩ := h
    by_cases h2 : j' = j <;> simp [h2]
  · rw [if_neg h, if_neg (fun q => h ⟨q.1, q.2.1⟩)]
/-- what the machine's classes of arrays are: of ints, booleans, longs, Cartoons, Pieces -/
abbrev GT : Type := va_G × (ClassId × ClassId × ClassId × ClassId × ClassId)
def tys (g : GT) : List (ClassId × FieldType) := [(g.2.1, .int), (g.2.2.1, .boolean), (g.2.2.2.1, .long), (g.2.2.2.2.1, .object RX0), (g.2.2.2.2.2, .object RX2)]
/-- the kinds: 0 the reference, 1 the class's object, 2 its lots, 3 the law's row of longs, 4 a cartoon, 5 a piece -/
def kd (o : Nat) : Nat := if o < 4 then o else if o < 10 then 4 else 5
/-- the arrays: for a kind and a row its sort (0 int, 1 boolean, 2 long, 3 Cartoon, 4 Piece) and length -/
def arK (k r : Nat) : Option (Nat × Nat) := match k, r with
  | 0, 2 => some (0, 12)
  | 0, 4 => some (0, 5)
  | 0, 5 => some (0, 5)
  | 0, 6 => some (0, 5)
  | 0, 7 => some (0, 5)
  | 0, 8 => some (0, 600)
  | 0, 10 => some (0, 20)
  | 0, 11 => some (0, 20)
  | 0, 12 => some (0, 20)
  | 0, 13 => some (0, 20)
  | 0, 14 => some (1, 20)
  | 0, 16 => some (0, 20)
  | 0, 17 => some (0, 20)
  | 0, 18 => some (0, 20)
  | 0, 19 => some (1, 20)
  | 0, 20 => some (0, 80)
  | 0, 21 => some (0, 20)
  | 0, 22 => some (0, 480)
  | 0, 23 => some (0, 480)
  | 0, 24 => some (1, 480)
  | 0, 25 => some (0, 4800)
  | 0, 26 => some (0, 4800)
  | 0, 27 => some (0, 4800)
  | 1, 1 => some (0, 12)
  | 1, 3 => some (3, 5)
  | 1, 6 => some (4, 20)
  | 1, 8 => some (0, 20)
  | 2, 2 => some (0, 20)
  | 2, 3 => some (0, 20)
  | 2, 4 => some (0, 20)
  | 2, 5 => some (0, 20)
  | 2, 6 => some (1, 20)
  | 3, 1 => some (2, 1)
  | 4, 3 => some (0, 120)
  | 5, 4 => some (0, 4)
  | 5, 5 => some (0, 240)
  | 5, 6 => some (0, 240)
  | 5, 7 => some (0, 240)
  | 5, 8 => some (0, 24)
  | 5, 9 => some (1, 24)
  | _, _ => none
def fldsK (k : Nat) (ad : Nat → Nat → Nat) (o : Nat) (f : Int → Int) : List Value := match k with
  | 0 => [.int (i32 (f 0)), .ref (ad o 2), .int (i32 (f 2)), .ref (ad o 4), .ref (ad o 5), .ref (ad o 6), .ref (ad o 7), .ref (ad o 8), .int (i32 (f 8)), .ref (ad o 10), .ref (ad o 11), .ref (ad o 12), .ref (ad o 13), .ref (ad o 14), .int (i32 (f 14)), .ref (ad o 16), .ref (ad o 17), .ref (ad o 18), .ref (ad o 19), .ref (ad o 20), .ref (ad o 21), .ref (ad o 22), .ref (ad o 23), .ref (ad o 24), .ref (ad o 25), .ref (ad o 26), .ref (ad o 27), .int (i32 (f 27))]
  | 1 => [.ref (ad o 1), .int (i32 (f 1)), .ref (ad o 3), .int (i32 (f 3)), .ref (ad 2 0), .ref (ad o 6), .int (i32 (f 6)), .ref (ad o 8)]
  | 2 => [.int (i32 (f 0)), .ref (ad o 2), .ref (ad o 3), .ref (ad o 4), .ref (ad o 5), .ref (ad o 6)]
  | 4 => [.int (i32 (f 0)), .int (i32 (f 1)), .ref (ad o 3), .int (i32 (f 3)), .int (i32 (f 4))]
  | 5 => [.int (i32 (f 0)), .int (i32 (f 1)), .int (i32 (f 2)), .ref (ad o 4), .ref (ad o 5), .ref (ad o 6), .ref (ad o 7), .ref (ad o 8), .ref (ad o 9)]
  | _ => []
def clsK (k : Nat) : Nat := match k with
  | 0 => 4
  | 1 => 3
  | 2 => 1
  | 4 => 0
  | _ => 2
def okr (k r : Nat) : Bool := (r == 0 && k != 3) || (arK k r).isSome
def arCell (g : GT) (ad : Nat → Nat → Nat) (f : Int → Int) (x : Nat × Nat) : va_E := match x.1 with
  | 0 => .inl (g.2.1, x.2, .inl (fun j => i32 (f j)))
  | 1 => .inl (g.2.2.1, x.2, .inl (fun j => i32 (f j)))
  | 2 => .inl (g.2.2.2.1, x.2, .inr (.inl (fun j => i64 (f j))))
  | 3 => .inl (g.2.2.2.2.1, x.2, .inr (.inr (.inr (.inr (fun j => if f j = 1 then some (ad (4 + j) 0) else none)))))
  | _ => .inl (g.2.2.2.2.2, x.2, .inr (.inr (.inr (.inr (fun j => if f j = 1 then some (ad (10 + j) 0) else none)))))
def cellK (g : GT) (ad : Nat → Nat → Nat) (k o r : Nat) (f : Int → Int) : va_E :=
  if r = 0 then .inr (clsK k, fldsK k ad o f) else match arK k r with
  | some x => arCell g ad f x
  | none => .inr (0, [])
def pic (g : GT) (base : Nat) (ad : Nat → Nat → Nat) (S : St) (H : Heap) : Prop :=
  (∀ o r, S o 0 (-1) = 1 → okr (kd o) r = true → va_at g.1 vwCl (ad o r, cellK g ad (kd o) o r (S o r)) H ∧ base ≤ ad o r) ∧
  (∀ o r o' r', S o 0 (-1) = 1 → okr (kd o) r = true → S o' 0 (-1) = 1 → okr (kd o') r' = true → ad o r = ad o' r' → o = o' ∧ r = r') ∧
  base ≤ H.size ∧ ∀ o r j, rng (S o r j)
/-! ===== what the tables say, carried along ===== -/
def kw (w : Cond) : Bool := w.onTables && (w.keeps || match w with
  | .castable .. => true
  | .declares .. => true
  | .methodLinkNest .. => true
  | _ => false)
theorem kw_warm {w : Cond} (hk : kw w = true) {s U : State} (hW : s.WarmedH U.vm) (h : va_Nw w s) : va_Nw w U := by
  simp only [kw, Bool.and_eq_true, Bool.or_eq_true] at hk
  obtain ⟨h1, h2 | h2⟩ := hk
  · exact word_at hW (Or.inl (by rw [h1, h2]; rfl)) h
  · cases w <;> first | exact va_Nw.warmC hW h | exact va_Nw.warmD hW h | exact va_Nw.warmM hW h | exact absurd h2 (by simp)
/-- pairs of classes of exceptions of which the first is none of the second -/
def ncs : List (String × String) := [("java/lang/IllegalStateException", "java/lang/IllegalArgumentException"), ("java/lang/IndexOutOfBoundsException", "java/lang/IllegalArgumentException"), ("java/lang/IllegalArgumentException", "java/lang/IllegalStateException"), ("java/lang/IndexOutOfBoundsException", "java/lang/IllegalStateException"), ("java/lang/IllegalArgumentException", "java/lang/IndexOutOfBoundsException"), ("java/lang/IllegalStateException", "java/lang/IndexOutOfBoundsException")]
def KK (g : GT) (U : State) : Prop :=
  va_K g.1 vwCl (tys g) U ∧ (∀ (i : Nat) (w : Cond), lw_tbl[i]? = some w → kw w = true → va_Nw w U) ∧
  (∀ (i : Nat) (own : String) (k : Nat) (tx : String), lw_tbl[i]? = some (Cond.stringRef own k tx) → ∃ a, vk_R own k tx a U) ∧
  (∀ ty : FieldType, Cond.arrayClass ty ∈ lw_tbl → (Cond.arrayClass ty).before #[] U = true) ∧ va_AO RX0 U ∧ va_AO RX2 U ∧ ∀ q ∈ ncs, va_Nc q.1 q.2 U
theorem KK.warm {g : GT} {s U : State} (hW : s.WarmedH U.vm) (h : KK g s) : KK g U :=
  ⟨va_K.moved hW.alike h.1, fun i w hi hk => kw_warm hk hW (h.2.1 i w hi hk), fun i own k tx hi => by
    obtain ⟨a, ha⟩ := h.2.2.1 i own k tx hi
    exact ⟨a, vk_R.warm hW ha⟩, fun ty hty => word_at hW (Or.inr ⟨ty, rfl⟩) (h.2.2.2.1 ty hty), h.2.2.2.2.1.moved hW.alike, h.2.2.2.2.2.1.moved hW.alike, fun q hq => (h.2.2.2.2.2.2 q hq).moved hW.alike⟩
theorem KK.same {g : GT} {s U : State} (hv : s.vm = U.vm) (h : KK g s) : KK g U := by
  have hA : s.vm.Alike U.vm := by rw [hv]; exact Vm.Alike.refl _
  refine ⟨va_K.moved hA h.1, fun i w hi hk => ?_, fun i own k tx hi => ?_, fun ty hty => ?_, h.2.2.2.2.1.moved hA, h.2.2.2.2.2.1.moved hA, fun q hq => (h.2.2.2.2.2.2 q hq).moved hA⟩
  · have h1 : w.onTables = true := by
      simp only [kw, Bool.and_eq_true] at hk
      exact hk.1
    exact va_Nw.same h1 hv (h.2.1 i w hi hk)
  · obtain ⟨a, ha⟩ := h.2.2.1 i own k tx hi
    exact ⟨a, vk_R.same hv.symm ha⟩
  · have := h.2.2.2.1 ty hty
    simp only [Cond.before, Cond.holds, Cond.value, hv] at this ⊢
    exact this
theorem KK.b {g : GT} {s : State} {args : Array Value} {w : Cond} (h : KK g s) (i : Nat) (hi : lw_tbl[i]? = some w) (hk : kw w = true) : w.before args s = true := by
  have h1 : w.onTables = true := by
    simp only [kw, Bool.and_eq_true] at hk
    exact hk.1
  exact va_Nw.use h1 (h.2.1 i w hi hk)
/-- the statics that a throw reads -/
def ZZ (base : Nat) (U : State) (H : Heap) : Prop := vx_Zq Bundle.tN "UNASSIGNED_STACK" Bundle.steD (fun q => base ≤ q) U H ∧ vx_Zq Bundle.tN "SUPPRESSED_SENTINEL" Bundle.listD (fun q => base ≤ q) U H
theorem ZZ.go {base : Nat} {s U : State} {H H1 : Heap} (hA : s.vm.Alike U.vm) (hq : ∀ a : Nat, a < H.size → ¬ base ≤ a → H1[a]? = H[a]?) (h : ZZ base s H) : ZZ base U H1 := ⟨(h.1.moved hA).kept hq, (h.2.moved hA).kept hq⟩
def PK (g : GT) (base : Nat) (ad : Nat → Nat → Nat) (S : St) (U : State) : Prop := KK g U ∧ ZZ base U U.heap ∧ pic g base ad S U.heap
theorem PK_blind {g : GT} {base : Nat} {ad : Nat → Nat → Nat} {S : St} {av : List Value} : FrameBlind (va_Pc av (PK g base ad S)) := by
  intro a U f mk h
  obtain ⟨h1, h2, h3, h4⟩ := h
  refine ⟨h1, KK.same (s := U) (U := U.calling f mk a) rfl h2, ?_, h4⟩
  exact ZZ.go (s := U) (U := U.calling f mk a) (H := U.heap) (H1 := (U.calling f mk a).heap) (Vm.Alike.refl U.vm) (fun _ _ _ => rfl) h3
/-- how a method ends: with an answer, addresses and a state that P allows -/
def gQ (g : GT) (base : Nat) (P : Option Value → (Nat → Nat → Nat) → St → Prop) : Array Value → State → Outcome → State → Prop := fun _ s o t =>
  (∃ (r : Option Value) (ad' : Nat → Nat → Nat) (S' : St), o = .returned r ∧ P r ad' S' ∧ pic g base ad' S' t.heap) ∧ va_F (fun q => base ≤ q) s t
/-- .. it answers v, the state is S' -/
abbrev an (v : Option Value) (ad : Nat → Nat → Nat) (S : St) : Option Value → (Nat → Nat → Nat) → St → Prop := fun r ad' S' => r = v ∧ ad' = ad ∧ S' = S
abbrev ani (v : Int) (ad : Nat → Nat → Nat) (S : St) : Option Value → (Nat → Nat → Nat) → St → Prop := an (some (.int (i32 v))) ad S
theorem mk_met {l : Launch} {y : MethodName} {cc : ByteArray} {maxL : Nat} {ret : Option FieldType} {own : String} {g : GT} {base : Nat} {ad : Nat → Nat → Nat} {S : St} {av : List Value} {lv0 : List (Nat × Value)} {rm : Room} {Qc : Array Value → State → Outcome → State → Prop} {mc ms : Nat}
    (hy : plainName y.cls = true) (ho : y.cls = own) (hn : (lg_sl av).length ≤ maxL) (hlv : lv_args 0 av = lv0)
    (body : ∀ (p : Program) (e : Env) (s : State) (m : MethodId) (below : List Frame) (meth : Method) (c : Code), p.tables.exec = Jvm.exec → c.code = cc → meth.sig.returnType = ret → c.maxLocals = maxL → s.vm.findClass own = some m.cls → meth.locks = false → meth.name = y.name → KK g s → ZZ base s s.heap → pic g base ad S s.heap → ∀ ls : Array Slot, lv_has ls maxL lv0 →
      W p l e rm s m av.toArray below meth c s.heap [] 0 0 (MQ below Qc av.toArray s mc ms (fun q => base ≤ q)) (F0 m 0 ls [])) :
    Met l y [Cond.code y cc maxL ret] rm (va_Pc av (PK g base ad S)) Qc mc ms (fun q => base ≤ q) := by
  refine Met.ofW (cc := cc) (maxL := maxL) (ret := ret) hy rfl ?_
  intro p e s m args below meth c s₁ B hml hv
  obtain ⟨rfl, hK, hZ, hP⟩ := hv
  have hown : s.vm.findClass own = some m.cls := by rw [← ho]; exact findClass_of_methodNamed B.named
  rw [lg_entry_eq]
  exact body p e s m below meth c B.exec B.bytes B.returns hml hown B.notSynchronized (name_of_methodNamed B.named B.method).1 hK hZ hP _ (hlv ▸ lv_entry av hn)
section MS
variable {p : Program} {l : Launch} {e : Env} {R : Room} {s : State} {m : MethodId} {args : Array Value} {below : List Frame} {meth : Method} {c : Code} {H : Heap} {locs : List Loc} {cells slots : Nat} {Q : State → Prop}
variable {cc : ByteArray} {pc : Nat} {ls : Array Slot} {rest st0 : List Value} {g : GT} {base : Nat} {ad : Nat → Nat → Nat} {S : St} {own : String}
theorem pic.cell (h : pic g base ad S H) {o r k : Nat} (hal : S o 0 (-1) = 1) (hk : kd o = k) (hok : okr k r = true) : va_at g.1 vwCl (ad o r, cellK g ad k o r (S o r)) H := by
  subst hk
  exact (h.1 o r hal hok).1
theorem pic.one (h : pic g base ad S H) {o r k : Nat} (hal : S o 0 (-1) = 1) (hk : kd o = k) (hok : okr k r = true) {x : va_E} (hx : cellK g ad k o r (S o r) = x) : va_P g.1 vwCl [(ad o r, x)] H := by
  intro i q hq
  cases i with
  | zero => cases hq; rw [← hx]; exact h.cell hal hk hok
  | succ i => cases hq
theorem pic.rg (h : pic g base ad S H) (o r : Nat) (j : Int) : rng (S o r j) := h.2.2.2 o r j
/-- a field is read -/
theorem p_get (hx : p.tables.exec = Jvm.exec) (hb : c.code = cc) (hown : s.vm.findClass own = some m.cls) (hK : KK g s) (hP : pic g base ad S H) {o k : Nat} (hal : S o 0 (-1) = 1) (hk : kd o = k) (hok : okr k 0 = true) {C ref : String} {T : u_T} {N index : Nat} (hc : vwCl[clsK k]? = some (C, T, N)) (hts : ∀ w ∈ u_ws C T N, w.before args s = true) (i il : Nat) (hi : i < N) (hl : lw_tbl[il]? = some (.fieldLink own index ref (T i).2.1 (T i).2.2.1)) (href : (T i).1 = ref) {v : Value} (hv : (fldsK k ad o (S o 0))[i]? = some v) (hdg : decode cc pc = .ok (.getfield index, 3))
    (kk : W p l e R s m args below meth c H locs cells slots Q (F0 m (pc + 3) ls (v :: rest))) : W p l e R s m args below meth c H locs cells slots Q (F0 m pc ls (.ref (ad o 0) :: rest)) := by
  subst href
  exact va_get (D := g.1) (tys := tys g) (Ts := u_ws C T N) hx hb hts (fun _ h => h) hown hK.1 (hP.one hal hk hok (x := .inr (clsK k, fldsK k ad o (S o 0))) (by rfl)) 0 rfl hc i hi (hK.b il hl rfl) (fun _ h => h) hv hdg kk
theorem p_arr (hP : pic g base ad S H) {o r k : Nat} (hal : S o 0 (-1) = 1) (hk : kd o = k) {q n : Nat} (ha : arK k r = some (q, n)) (hr : r ≠ 0) : va_P g.1 vwCl [(ad o r, arCell g ad (S o r) (q, n))] H :=
  hP.one hal hk (by unfold okr; rw [ha]; simp) (by unfold cellK; rw [if_neg hr, ha])
/-- an array of ints is read -/
theorem p_iald (hx : p.tables.exec = Jvm.exec) (hb : c.code = cc) (hK : KK g s) (hP : pic g base ad S H) {o r k n : Nat} (hal : S o 0 (-1) = 1) (hk : kd o = k) (ha : arK k r = some (0, n)) (hr : r ≠ 0) (hn : n < 2147483648) {z : Int} (h0 : 0 ≤ z) (h1 : z < n) (hdg : decode cc pc = .ok (.iaload, 1))
    (kk : W p l e R s m args below meth c H locs cells slots Q (F0 m (pc + 1) ls (.int (i32 (S o r z)) :: rest))) : W p l e R s m args below meth c H locs cells slots Q (F0 m pc ls (.int (i32 z) :: .ref (ad o r) :: rest)) := by
  refine va_iald (D := g.1) (tys := tys g) hx hb hK.1 (p_arr hP hal hk ha hr) 0 0 (n := n) (f := fun j => i32 (S o r j)) rfl rfl (i32_in h0 h1 hn) hdg ?_
  rw [i32_clamp h0 (by omega), Int.toNat_of_nonneg h0]
  exact kk
theorem p_zald (hx : p.tables.exec = Jvm.exec) (hb : c.code = cc) (hK : KK g s) (hP : pic g base ad S H) {o r k n : Nat} (hal : S o 0 (-1) = 1) (hk : kd o = k) (ha : arK k r = some (1, n)) (hr : r ≠ 0) (hn : n < 2147483648) {z : Int} (h0 : 0 ≤ z) (h1 : z < n) (hdg : decode cc pc = .ok (.baload, 1))
    (kk : W p l e R s m args below meth c H locs cells slots Q (F0 m (pc + 1) ls (.int (i32 (S o r z)) :: rest))) : W p l e R s m args below meth c H locs cells slots Q (F0 m pc ls (.int (i32 z) :: .ref (ad o r) :: rest)) := by
  refine va_zald (D := g.1) (tys := tys g) hx hb hK.1 (p_arr hP hal hk ha hr) 0 1 (n := n) (f := fun j => i32 (S o r j)) rfl rfl (i32_in h0 h1 hn) hdg ?_
  rw [i32_clamp h0 (by omega), Int.toNat_of_nonneg h0]
  exact kk
theorem p_lald (hx : p.tables.exec = Jvm.exec) (hb : c.code = cc) (hK : KK g s) (hP : pic g base ad S H) {o r k n : Nat} (hal : S o 0 (-1) = 1) (hk : kd o = k) (ha : arK k r = some (2, n)) (hr : r ≠ 0) (hn : n < 2147483648) {z : Int} (h0 : 0 ≤ z) (h1 : z < n) (hdg : decode cc pc = .ok (.laload, 1))
    (kk : W p l e R s m args below meth c H locs cells slots Q (F0 m (pc + 1) ls (.long (i64 (S o r z)) :: rest))) : W p l e R s m args below meth c H locs cells slots Q (F0 m pc ls (.int (i32 z) :: .ref (ad o r) :: rest)) := by
  refine va_lald (D := g.1) (tys := tys g) hx hb hK.1 (p_arr hP hal hk ha hr) 0 2 (n := n) (f := fun j => i64 (S o r j)) rfl rfl (i32_in h0 h1 hn) hdg ?_
  rw [i32_clamp h0 (by omega), Int.toNat_of_nonneg h0]
  exact kk
/-- an array's length -/
theorem p_alen (hx : p.tables.exec = Jvm.exec) (hb : c.code = cc) (hK : KK g s) (hP : pic g base ad S H) {o r k q n : Nat} (hal : S o 0 (-1) = 1) (hk : kd o = k) (ha : arK k r = some (q, n)) (hr : r ≠ 0) (hq : q < 5) (hdg : decode cc pc = .ok (.arraylength, 1))
    (kk : W p l e R s m args below meth c H locs cells slots Q (F0 m (pc + 1) ls (.int (i32 n) :: rest))) : W p l e R s m args below meth c H locs cells slots Q (F0 m pc ls (.ref (ad o r) :: rest)) := by
  have hA := p_arr hP hal hk ha hr
  have hn : Int32.ofNat n = i32 n := i32_nI n
  rcases (show q = 0 ∨ q = 1 ∨ q = 2 ∨ q = 3 ∨ q = 4 by omega) with rfl | rfl | rfl | rfl | rfl
  · exact va_alen (D := g.1) (tys := tys g) hx hb hK.1 hA 0 0 rfl rfl hn hdg kk
  · exact va_alen (D := g.1) (tys := tys g) hx hb hK.1 hA 0 1 rfl rfl hn hdg kk
  · exact va_alen (D := g.1) (tys := tys g) hx hb hK.1 hA 0 2 rfl rfl hn hdg kk
  · exact va_alen (D := g.1) (tys := tys g) hx hb hK.1 hA 0 3 rfl rfl hn hdg kk
  · exact va_alen (D := g.1) (tys := tys g) hx hb hK.1 hA 0 4 rfl rfl hn hdg kk
/-- the array of cartoons, of pieces is read -/
theorem p_aldC (hx : p.tables.exec = Jvm.exec) (hb : c.code = cc) (hK : KK g s) (hP : pic g base ad S H) {o r k n : Nat} (hal : S o 0 (-1) = 1) (hk : kd o = k) (ha : arK k r = some (3, n)) (hr : r ≠ 0) (hn : n < 2147483648) {z : Int} (h0 : 0 ≤ z) (h1 : z < n) (hdg : decode cc pc = .ok (.aaload, 1))
    (kk : W p l e R s m args below meth c H locs cells slots Q (F0 m (pc + 1) ls (va_rf (if S o r z = 1 then some (ad (4 + z.toNat) 0) else none) :: rest))) : W p l e R s m args below meth c H locs cells slots Q (F0 m pc ls (.int (i32 z) :: .ref (ad o r) :: rest)) := by
  refine va_aldq (D := g.1) (tys := tys g) (C := RX0) hx hb hK.1 (p_arr hP hal hk ha hr) 0 3 (n := n) (f := fun j => if S o r j = 1 then some (ad (4 + j) 0) else none) rfl rfl (i32_in h0 h1 hn) hdg ?_
  rw [i32_clamp h0 (by omega), Int.toNat_of_nonneg h0]
  exact kk
theorem p_aldP (hx : p.tables.exec = Jvm.exec) (hb : c.code = cc) (hK : KK g s) (hP : pic g base ad S H) {o r k n : Nat} (hal : S o 0 (-1) = 1) (hk : kd o = k) (ha : arK k r = some (4, n)) (hr : r ≠ 0) (hn : n < 2147483648) {z : Int} (h0 : 0 ≤ z) (h1 : z < n) (hdg : decode cc pc = .ok (.aaload, 1))
    (kk : W p l e R s m args below meth c H locs cells slots Q (F0 m (pc + 1) ls (va_rf (if S o r z = 1 then some (ad (10 + z.toNat) 0) else none) :: rest))) : W p l e R s m args below meth c H locs cells slots Q (F0 m pc ls (.int (i32 z) :: .ref (ad o r) :: rest)) := by
  refine va_aldq (D := g.1) (tys := tys g) (C := RX2) hx hb hK.1 (p_arr hP hal hk ha hr) 0 4 (n := n) (f := fun j => if S o r j = 1 then some (ad (10 + j) 0) else none) rfl rfl (i32_in h0 h1 hn) hdg ?_
  rw [i32_clamp h0 (by omega), Int.toNat_of_nonneg h0]
  exact kk
/-- one cell has changed: the picture of the new state -/
theorem pic.put (hP : pic g base ad S H) {o r k : Nat} (hal : S o 0 (-1) = 1) (hk : kd o = k) (hok : okr k r = true) {j v : Int} (hj : 0 ≤ j) (hv : rng v) {H1 : Heap} (he : va_at g.1 vwCl (ad o r, cellK g ad k o r (ud (S o r) j v)) H1) (hz : H1.size = H.size) (oq : ∀ q : Nat, q ≠ ad o r → H1[q]? = H[q]?) : pic g base ad (st S o r j v) H1 := by
  subst hk
  have hm : ∀ x : Nat, st S o r j v x 0 (-1) = S x 0 (-1) := fun x => by rw [st_at, if_neg (by omega)]
  refine ⟨fun x y h1 h2 => ?_, fun x y x' y' h1 h2 h3 h4 h5 => hP.2.1 x y x' y' (hm x ▸ h1) h2 (hm x' ▸ h3) h4 h5, by rw [hz]; exact hP.2.2.1, fun x y i => ?_⟩
  · rw [hm] at h1
    refine ⟨?_, (hP.1 x y h1 h2).2⟩
    by_cases hxy : x = o ∧ y = r
    · obtain ⟨rfl, rfl⟩ := hxy
      have : st S x y j v x y = ud (S x y) j v := by unfold st stR; rw [if_pos ⟨rfl, rfl⟩]
      rw [this]
      exact he
    · have : st S o r j v x y = S x y := by unfold st stR; rw [if_neg hxy]
      rw [this]
      exact (hP.1 x y h1 h2).1.kept (oq _ (fun e => hxy (hP.2.1 x y o r h1 h2 hal hok e)))
  · rw [st_at]
    split
    · exact hv
    · exact hP.2.2.2 x y i
theorem va_S.loc {A : Nat → Prop} {H0 H H1 : Heap} {locs : List Loc} {a k : Nat} (h : va_S A H0 H locs) (z : H1.size = H.size) (oq : ∀ q : Nat, q ≠ a → H1[q]? = H[q]?) (ha : A a) : va_S A H0 H1 (locs ++ [⟨a, k⟩]) := h.put z oq ha
/-- an array of ints is written -/
theorem p_iast (hx : p.tables.exec = Jvm.exec) (hb : c.code = cc) (hK : KK g s) (hP : pic g base ad S H) (hS : va_S (fun q => base ≤ q) s.heap H locs) {o r k n : Nat} (hal : S o 0 (-1) = 1) (hk : kd o = k) (ha : arK k r = some (0, n)) (hr : r ≠ 0) (hn : n < 2147483648) {z v : Int} (h0 : 0 ≤ z) (h1 : z < n) (hv : rng v) (hdg : decode cc pc = .ok (.iastore, 1))
    (kk : ∀ (H1 : Heap) (locs1 : List Loc), pic g base ad (st S o r z v) H1 → va_S (fun q => base ≤ q) s.heap H1 locs1 → W p l e R s m args below meth c H1 locs1 cells slots Q (F0 m (pc + 1) ls rest)) : W p l e R s m args below meth c H locs cells slots Q (F0 m pc ls (.int (i32 v) :: .int (i32 z) :: .ref (ad o r) :: rest)) := by
  have hA := p_arr hP hal hk ha hr
  have hok : okr k r = true := by unfold okr; rw [ha]; simp
  have hba : base ≤ ad o r := (hP.1 o r hal (hk ▸ hok)).2
  refine W.iast hx hb (hA 0 _ rfl) ((hK.1.2 0 _ rfl).1 n (fun j => .int (i32 (S o r j)))) (fun q => by cases q) (by show ¬ (_ ∨ (arrV _ _ _).slots.size ≤ _); rw [arrV_size]; exact i32_in h0 h1 hn) rfl rfl hdg fun H1 e9 z9 oq => ?_
  refine kk H1 _ (hP.put hal hk hok h0 hv ?_ z9 oq) (hS.put z9 oq hba)
  have : cellK g ad k o r (ud (S o r) z v) = arCell g ad (ud (S o r) z v) (0, n) := by unfold cellK; rw [if_neg hr, ha]
  rw [this]
  show H1[ad o r]? = some (vp_cell _ _)
  rw [e9]
  show some ((vp_cell g.2.1 (n, .inl (fun j => i32 (S o r j)))).setSlot _ _) = some (vp_cell g.2.1 (n, .inl (fun j : Nat => i32 (ud (S o r) z v j))))
  rw [vp_cell_i, vp_cell_i, arrV_store, i32_clamp h0 (by omega)]
  congr 2
  funext q
  unfold updV ud
  by_cases hq : q = z.toNat
  · subst hq
    rw [if_pos rfl, if_pos (Int.toNat_of_nonneg h0)]
  · rw [if_neg hq, if_neg (by omega)]
theorem p_zast (hx : p.tables.exec = Jvm.exec) (hb : c.code = cc) (hK : KK g s) (hP : pic g base ad S H) (hS : va_S (fun q => base ≤ q) s.heap H locs) {o r k n : Nat} (hal : S o 0 (-1) = 1) (hk : kd o = k) (ha : arK k r = some (1, n)) (hr : r ≠ 0) (hn : n < 2147483648) {z v : Int} (h0 : 0 ≤ z) (h1 : z < n) (hv : v = 0 ∨ v = 1) (hdg : decode cc pc = .ok (.bastore, 1))
    (kk : ∀ (H1 : Heap) (locs1 : List Loc), pic g base ad (st S o r z v) H1 → va_S (fun q => base ≤ q) s.heap H1 locs1 → W p l e R s m args below meth c H1 locs1 cells slots Q (F0 m (pc + 1) ls rest)) : W p l e R s m args below meth c H locs cells slots Q (F0 m pc ls (.int (i32 v) :: .int (i32 z) :: .ref (ad o r) :: rest)) := by
  have hA := p_arr hP hal hk ha hr
  have hok : okr k r = true := by unfold okr; rw [ha]; simp
  have hba : base ≤ ad o r := (hP.1 o r hal (hk ▸ hok)).2
  refine W.zast hx hb (hA 0 _ rfl) ((hK.1.2 1 _ rfl).1 n (fun j => .int (i32 (S o r j)))) (fun q => by cases q) (by show ¬ (_ ∨ (arrV _ _ _).slots.size ≤ _); rw [arrV_size]; exact i32_in h0 h1 hn) rfl rfl hdg fun H1 e9 z9 oq => ?_
  refine kk H1 _ (hP.put hal hk hok h0 (by rcases hv with rfl | rfl <;> exact ⟨by decide, by decide⟩) ?_ z9 oq) (hS.put z9 oq hba)
  have : cellK g ad k o r (ud (S o r) z v) = arCell g ad (ud (S o r) z v) (1, n) := by unfold cellK; rw [if_neg hr, ha]
  rw [this]
  have hnar : narrow .boolean (.int (i32 v)) = .int (i32 v) := by rcases hv with rfl | rfl <;> rfl
  rw [hnar] at e9
  show H1[ad o r]? = some (vp_cell _ _)
  rw [e9]
  show some ((vp_cell g.2.2.1 (n, .inl (fun j => i32 (S o r j)))).setSlot _ _) = some (vp_cell g.2.2.1 (n, .inl (fun j : Nat => i32 (ud (S o r) z v j))))
  rw [vp_cell_i, vp_cell_i, arrV_store, i32_clamp h0 (by omega)]
  congr 2
  funext q
  unfold updV ud
  by_cases hq : q = z.toNat
  · subst hq
    rw [if_pos rfl, if_pos (Int.toNat_of_nonneg h0)]
  · rw [if_neg hq, if_neg (by omega)]
theorem p_last (hx : p.tables.exec = Jvm.exec) (hb : c.code = cc) (hK : KK g s) (hP : pic g base ad S H) (hS : va_S (fun q => base ≤ q) s.heap H locs) {o r k n : Nat} (hal : S o 0 (-1) = 1) (hk : kd o = k) (ha : arK k r = some (2, n)) (hr : r ≠ 0) (hn : n < 2147483648) {z v : Int} (h0 : 0 ≤ z) (h1 : z < n) (hv : rng v) (hdg : decode cc pc = .ok (.lastore, 1))
    (kk : ∀ (H1 : Heap) (locs1 : List Loc), pic g base ad (st S o r z v) H1 → va_S (fun q => base ≤ q) s.heap H1 locs1 → W p l e R s m args below meth c H1 locs1 cells slots Q (F0 m (pc + 1) ls rest)) : W p l e R s m args below meth c H locs cells slots Q (F0 m pc ls (.long (i64 v) :: .int (i32 z) :: .ref (ad o r) :: rest)) := by
  have hA := p_arr hP hal hk ha hr
  have hok : okr k r = true := by unfold okr; rw [ha]; simp
  have hba : base ≤ ad o r := (hP.1 o r hal (hk ▸ hok)).2
  refine W.last hx hb (hA 0 _ rfl) ((hK.1.2 2 _ rfl).1 n (fun j => .long (i64 (S o r j)))) (fun q => by cases q) (by show ¬ (_ ∨ (arrV _ _ _).slots.size ≤ _); rw [arrV_size]; exact i32_in h0 h1 hn) rfl rfl hdg fun H1 e9 z9 oq => ?_
  refine kk H1 _ (hP.put hal hk hok h0 hv ?_ z9 oq) (hS.put z9 oq hba)
  have : cellK g ad k o r (ud (S o r) z v) = arCell g ad (ud (S o r) z v) (2, n) := by unfold cellK; rw [if_neg hr, ha]
  rw [this]
  show H1[ad o r]? = some (vp_cell _ _)
  rw [e9]
  show some ((vp_cell g.2.2.2.1 (n, .inr (.inl (fun j => i64 (S o r j))))).setSlot _ _) = some (vp_cell g.2.2.2.1 (n, .inr (.inl (fun j : Nat => i64 (ud (S o r) z v j)))))
  rw [vp_cell_l, vp_cell_l, arrV_store, i32_clamp h0 (by omega)]
  congr 2
  funext q
  unfold updV ud
  by_cases hq : q = z.toNat
  · subst hq
    rw [if_pos rfl, if_pos (Int.toNat_of_nonneg h0)]
  · rw [if_neg hq, if_neg (by omega)]
/-- a field of ints is written -/
theorem p_put (hx : p.tables.exec = Jvm.exec) (hb : c.code = cc) (hown : s.vm.findClass own = some m.cls) (hK : KK g s) (hP : pic g base ad S H) (hS0 : va_S (fun q => base ≤ q) s.heap H locs) {o k : Nat} (hal : S o 0 (-1) = 1) (hk : kd o = k) (hok : okr k 0 = true) {C ref : String} {T : u_T} {N index : Nat} (hc : vwCl[clsK k]? = some (C, T, N)) (hts : ∀ w ∈ u_ws C T N, w.before args s = true) (ty0 : Nat → FieldType) (hty : ∀ k, k < N → parseFieldDescriptor (T k).2.2.1 = some (ty0 k)) (hnm : ∀ a, a < N → ∀ b, b < N → a ≠ b → (T a).2.1 ≠ (T b).2.1) (i il : Nat) (hi : i < N) (hl : lw_tbl[il]? = some (.fieldLink own index ref (T i).2.1 (T i).2.2.1)) (href : (T i).1 = ref) (hfin : (T i).2.2.2 = false) (hd : parseFieldDescriptor (T i).2.2.1 = some .int) {v : Int} (hrv : rng v) (hlen : i < (fldsK k ad o (S o 0)).length) (hset : (fldsK k ad o (S o 0)).set i (.int (i32 v)) = fldsK k ad o (ud (S o 0) i v)) (hdg : decode cc pc = .ok (.putfield index, 3))
    (kk : ∀ (H1 : Heap) (locs1 : List Loc), pic g base ad (st S o 0 i v) H1 → va_S (fun q => base ≤ q) s.heap H1 locs1 → W p l e R s m args below meth c H1 locs1 cells slots Q (F0 m (pc + 3) ls rest)) : W p l e R s m args below meth c H locs cells slots Q (F0 m pc ls (.int (i32 v) :: .ref (ad o 0) :: rest)) := by
  subst href
  have hba : base ≤ ad o 0 := (hP.1 o 0 hal (hk ▸ hok)).2
  have hap := va_apart (own := own) (D := g.1) (tys := tys g) hts (fun _ h => h) ty0 hty hnm hK.1 hc
  obtain ⟨r, h1, cell, q1, q2, q3, q4⟩ := hP.one hal hk hok (x := .inr (clsK k, fldsK k ad o (S o 0))) (by rfl) 0 _ rfl
  have hr : r = (C, T, N) := Option.some.inj (h1.symm.trans hc)
  subst hr
  obtain ⟨hS, hfc, kC, hkC, hkind⟩ := hK.1.1 _ _ hc
  obtain ⟨cf, kf, fi, f, hfi, hsl⟩ := hS i hi
  have hlay := hts _ (u_in_lay hi)
  unfold u_lay at hlay
  rw [if_neg (by rw [hfin]; decide)] at hlay
  have hst := (u_facts hfc hkC (u_lays hts (fun _ h => h) hi) hfi).1
  have h6 := u_store hfc hkC hkind hlay hfi hd (v := .int (i32 v)) rfl rfl
  refine W.putK hx hb (f := f) ⟨hown, hK.b il hl rfl, ⟨_, _, _, hfi⟩, hst⟩ (by rw [q2]; exact h6) q1 q3 (by rw [hsl]; exact k2_hasslot (q4 i hi)) rfl rfl hdg fun H' e1 e2 e3 => ?_
  rw [hsl] at e1 ⊢
  refine kk H' _ (hP.put hal hk hok (by omega) hrv ?_ e2 e3) (hS0.put e2 e3 hba)
  show va_at g.1 vwCl (ad o 0, .inr (clsK k, fldsK k ad o (ud (S o 0) i v))) H'
  rw [← hset]
  exact ⟨_, hc, t_OB.to (V := updV (vp_V (fldsK k ad o (S o 0))) i (.int (i32 v))) ⟨_, e1, q2, q3, t_set q4 hap hi _⟩ (fun j _ => vp_updV_set hlen _ j)⟩
end MS
end
section
/-! ===== the words that are used, by their places ===== -/
theorem t_1 : lw_tbl[1]? = some (.selects RX3 yX3_cartoonNumbered yX3_cartoonNumbered) := by decide +kernel
theorem t_2 : lw_tbl[2]? = some (.selects RX3 yX3_requireRoomForPiece yX3_requireRoomForPiece) := by decide +kernel
theorem t_3 : lw_tbl[3]? = some (.selects RX3 yX3_keepPiece yX3_keepPiece) := by decide +kernel
theorem t_4 : lw_tbl[4]? = some (.selects RX3 yX3_pieceNumbered yX3_pieceNumbered) := by decide +kernel
theorem t_5 : lw_tbl[5]? = some (.selects RX2 yX2_countInNextRow yX2_countInNextRow) := by decide +kernel
theorem t_6 : lw_tbl[6]? = some (.selects RX2 yX2_firstColumnOf yX2_firstColumnOf) := by decide +kernel
theorem t_7 : lw_tbl[7]? = some (.selects RX2 yX2_isSewnAhead yX2_isSewnAhead) := by decide +kernel
theorem t_8 : lw_tbl[8]? = some (.selects RX2 yX2_longestUnlikeAhead yX2_longestUnlikeAhead) := by decide +kernel
theorem t_9 : lw_tbl[9]? = some (.selects RX2 yX2_setSewnAhead yX2_setSewnAhead) := by decide +kernel
theorem t_10 : lw_tbl[10]? = some (.selects RX2 yX2_dim yX2_dim) := by decide +kernel
theorem t_11 : lw_tbl[11]? = some (.selects RX2 yX2_stain yX2_stain) := by decide +kernel
theorem t_12 : lw_tbl[12]? = some (.selects RX2 yX2_copyColumn yX2_copyColumn) := by decide +kernel
theorem t_13 : lw_tbl[13]? = some (.selects RX3 yX3_dropPiece yX3_dropPiece) := by decide +kernel
theorem t_14 : lw_tbl[14]? = some (.selects RX4 yX4_goes yX4_goes) := by decide +kernel
theorem t_15 : lw_tbl[15]? = some (.selects RX4 yX4_isCartoon yX4_isCartoon) := by decide +kernel
theorem t_16 : lw_tbl[16]? = some (.selects RX4 yX4_wovenOf yX4_wovenOf) := by decide +kernel
theorem t_17 : lw_tbl[17]? = some (.selects RX4 yX4_setsColumn yX4_setsColumn) := by decide +kernel
theorem t_18 : lw_tbl[18]? = some (.selects RX4 yX4_drawnAt yX4_drawnAt) := by decide +kernel
theorem t_19 : lw_tbl[19]? = some (.selects RX4 yX4_isPiece yX4_isPiece) := by decide +kernel
theorem t_20 : lw_tbl[20]? = some (.selects RX4 yX4_mayWeave yX4_mayWeave) := by decide +kernel
theorem t_21 : lw_tbl[21]? = some (.selects RX4 yX4_weaves yX4_weaves) := by decide +kernel
theorem t_22 : lw_tbl[22]? = some (.selects RX4 yX4_giver yX4_giver) := by decide +kernel
theorem t_23 : lw_tbl[23]? = some (.selects RX4 yX4_wovenIn yX4_wovenIn) := by decide +kernel
theorem t_24 : lw_tbl[24]? = some (.selects RX4 yX4_isDone yX4_isDone) := by decide +kernel
theorem t_25 : lw_tbl[25]? = some (.selects RX4 yX4_slits yX4_slits) := by decide +kernel
theorem t_26 : lw_tbl[26]? = some (.selects RX4 yX4_isSlit yX4_isSlit) := by decide +kernel
theorem t_27 : lw_tbl[27]? = some (.selects RX4 yX4_isUnlike yX4_isUnlike) := by decide +kernel
theorem t_28 : lw_tbl[28]? = some (.selects RX4 yX4_shades yX4_shades) := by decide +kernel
theorem t_29 : lw_tbl[29]? = some (.selects RX4 yX4_isInner yX4_isInner) := by decide +kernel
theorem t_30 : lw_tbl[30]? = some (.selects RX4 yX4_runs yX4_runs) := by decide +kernel
theorem t_31 : lw_tbl[31]? = some (.selects RX4 yX4_copies yX4_copies) := by decide +kernel
theorem t_32 : lw_tbl[32]? = some (.selects RX4 yX4_isRight yX4_isRight) := by decide +kernel
theorem t_33 : lw_tbl[33]? = some (.initialized RL) := by decide +kernel
theorem t_34 : lw_tbl[34]? = some (.initialized RX3) := by decide +kernel
theorem t_35 : lw_tbl[35]? = some (.initialized RX1) := by decide +kernel
theorem t_36 : lw_tbl[36]? = some (.initialized RX4) := by decide +kernel
theorem t_37 : lw_tbl[37]? = some (.initialized "java/lang/Throwable") := by decide +kernel
theorem t_38 : lw_tbl[38]? = some (.initialized "java/lang/Exception") := by decide +kernel
theorem t_39 : lw_tbl[39]? = some (.initialized "java/lang/RuntimeException") := by decide +kernel
theorem t_40 : lw_tbl[40]? = some (.initialized "java/lang/IllegalArgumentException") := by decide +kernel
theorem t_41 : lw_tbl[41]? = some (.initialized "java/lang/IllegalStateException") := by decide +kernel
theorem t_42 : lw_tbl[42]? = some (.initialized RX0) := by decide +kernel
theorem t_43 : lw_tbl[43]? = some (.initialized "java/lang/IndexOutOfBoundsException") := by decide +kernel
theorem t_44 : lw_tbl[44]? = some (.initialized RX2) := by decide +kernel
theorem t_45 : lw_tbl[45]? = some (.initialized "java/lang/Math") := by decide +kernel
theorem t_46 : lw_tbl[46]? = some (.classLink RL 8 RX3) := by decide +kernel
theorem t_47 : lw_tbl[47]? = some (.instantiable RX3 8) := by decide +kernel
theorem t_48 : lw_tbl[48]? = some (.methodLink RL 78 yX3_init) := by decide +kernel
theorem t_49 : lw_tbl[49]? = some (.instanceMethod yX3_init) := by decide +kernel
theorem t_50 : lw_tbl[50]? = some (.code yX3_init cX3_init 1 (none : Option FieldType)) := by decide +kernel
theorem t_51 : lw_tbl[51]? = some (.methodLink RX3 1 ⟨"java/lang/Object", "<init>", "()V"⟩) := by decide +kernel
theorem t_52 : lw_tbl[52]? = some (.instanceMethod ⟨"java/lang/Object", "<init>", "()V"⟩) := by decide +kernel
theorem t_53 : lw_tbl[53]? = some (.code ⟨"java/lang/Object", "<init>", "()V"⟩ object_method_1_code 1 (none : Option FieldType)) := by decide +kernel
theorem t_54 : lw_tbl[54]? = some (.classLink RX3 17 RX0) := by decide +kernel
theorem t_56 : lw_tbl[56]? = some (.classLink RX3 26 RX1) := by decide +kernel
theorem t_57 : lw_tbl[57]? = some (.instantiable RX1 6) := by decide +kernel
theorem t_58 : lw_tbl[58]? = some (.methodLink RX3 28 yX1_init) := by decide +kernel
theorem t_59 : lw_tbl[59]? = some (.instanceMethod yX1_init) := by decide +kernel
theorem t_60 : lw_tbl[60]? = some (.code yX1_init cX1_init 1 (none : Option FieldType)) := by decide +kernel
theorem t_61 : lw_tbl[61]? = some (.methodLink RX1 3 ⟨"java/lang/Object", "<init>", "()V"⟩) := by decide +kernel
theorem t_62 : lw_tbl[62]? = some (.fieldLink RX1 9 RX1 "count" "I") := by decide +kernel
theorem t_63 : lw_tbl[63]? = some (.fieldLink RX1 15 RX1 "colours" "[I") := by decide +kernel
theorem t_64 : lw_tbl[64]? = some (.fieldLink RX1 19 RX1 "threadsAtFirst" "[I") := by decide +kernel
theorem t_65 : lw_tbl[65]? = some (.fieldLink RX1 22 RX1 "threadsLeft" "[I") := by decide +kernel
theorem t_66 : lw_tbl[66]? = some (.fieldLink RX1 25 RX1 "fades" "[I") := by decide +kernel
theorem t_67 : lw_tbl[67]? = some (.fieldLink RX1 28 RX1 "bleeding" "[Z") := by decide +kernel
theorem t_83 : lw_tbl[83]? = some (.classLink RX3 33 RX2) := by decide +kernel
theorem t_85 : lw_tbl[85]? = some (.fieldLink RX3 9 RX3 "word" "[I") := by decide +kernel
theorem t_86 : lw_tbl[86]? = some (.fieldLink RX3 13 RX3 "wordLength" "I") := by decide +kernel
theorem t_87 : lw_tbl[87]? = some (.fieldLink RX3 19 RX3 "cartoons" "[LWeftHouse$Cartoon;") := by decide +kernel
theorem t_88 : lw_tbl[88]? = some (.fieldLink RX3 23 RX3 "cartoonCount" "I") := by decide +kernel
theorem t_89 : lw_tbl[89]? = some (.fieldLink RX3 29 RX3 "lots" "LWeftHouse$Lots;") := by decide +kernel
theorem t_90 : lw_tbl[90]? = some (.fieldLink RX3 35 RX3 "pieces" "[LWeftHouse$Piece;") := by decide +kernel
theorem t_91 : lw_tbl[91]? = some (.fieldLink RX3 39 RX3 "pieceCount" "I") := by decide +kernel
theorem t_92 : lw_tbl[92]? = some (.fieldLink RX3 42 RX3 "threadsByLot" "[I") := by decide +kernel
theorem t_110 : lw_tbl[110]? = some (.methodLink RL 92 yX3_empty) := by decide +kernel
theorem t_111 : lw_tbl[111]? = some (.instanceMethod yX3_empty) := by decide +kernel
theorem t_112 : lw_tbl[112]? = some (.selects RX3 yX3_empty yX3_empty) := by decide +kernel
theorem t_113 : lw_tbl[113]? = some (.code yX3_empty cX3_empty 2 (some FieldType.int)) := by decide +kernel
theorem t_114 : lw_tbl[114]? = some (.methodLink RL 114 yX3_gold) := by decide +kernel
theorem t_115 : lw_tbl[115]? = some (.instanceMethod yX3_gold) := by decide +kernel
theorem t_116 : lw_tbl[116]? = some (.selects RX3 yX3_gold yX3_gold) := by decide +kernel
theorem t_117 : lw_tbl[117]? = some (.code yX3_gold cX3_gold 4 (some FieldType.int)) := by decide +kernel
theorem t_118 : lw_tbl[118]? = some (.methodLink RX3 120 yX2_countWovenOf) := by decide +kernel
theorem t_119 : lw_tbl[119]? = some (.instanceMethod yX2_countWovenOf) := by decide +kernel
theorem t_120 : lw_tbl[120]? = some (.selects RX2 yX2_countWovenOf yX2_countWovenOf) := by decide +kernel
theorem t_121 : lw_tbl[121]? = some (.code yX2_countWovenOf cX2_countWovenOf 5 (some FieldType.int)) := by decide +kernel
theorem t_122 : lw_tbl[122]? = some (.methodLink RX2 82 yX2_lotAt) := by decide +kernel
theorem t_123 : lw_tbl[123]? = some (.instanceMethod yX2_lotAt) := by decide +kernel
theorem t_124 : lw_tbl[124]? = some (.selects RX2 yX2_lotAt yX2_lotAt) := by decide +kernel
theorem t_125 : lw_tbl[125]? = some (.code yX2_lotAt cX2_lotAt 3 (some FieldType.int)) := by decide +kernel
theorem t_126 : lw_tbl[126]? = some (.methodLink RX2 41 yX2_placeOf) := by decide +kernel
theorem t_127 : lw_tbl[127]? = some (.static yX2_placeOf) := by decide +kernel
theorem t_128 : lw_tbl[128]? = some (.code yX2_placeOf cX2_placeOf 2 (some FieldType.int)) := by decide +kernel
theorem t_129 : lw_tbl[129]? = some (.methodLinkNest RX2 45 yX3_valueAt RX3) := by decide +kernel
theorem t_130 : lw_tbl[130]? = some (.static yX3_valueAt) := by decide +kernel
theorem t_131 : lw_tbl[131]? = some (.code yX3_valueAt cX3_valueAt 2 (some FieldType.int)) := by decide +kernel
theorem t_132 : lw_tbl[132]? = some (.methodLink RX2 77 yX2_colourAt) := by decide +kernel
theorem t_133 : lw_tbl[133]? = some (.instanceMethod yX2_colourAt) := by decide +kernel
theorem t_134 : lw_tbl[134]? = some (.selects RX2 yX2_colourAt yX2_colourAt) := by decide +kernel
theorem t_135 : lw_tbl[135]? = some (.code yX2_colourAt cX2_colourAt 3 (some FieldType.int)) := by decide +kernel
theorem t_136 : lw_tbl[136]? = some (.methodLink RL 157 yX3_balances) := by decide +kernel
theorem t_137 : lw_tbl[137]? = some (.instanceMethod yX3_balances) := by decide +kernel
theorem t_138 : lw_tbl[138]? = some (.selects RX3 yX3_balances yX3_balances) := by decide +kernel
theorem t_139 : lw_tbl[139]? = some (.code yX3_balances cX3_balances 3 (some FieldType.boolean)) := by decide +kernel
theorem t_140 : lw_tbl[140]? = some (.methodLink RX3 264 yX2_addThreadsTo) := by decide +kernel
theorem t_141 : lw_tbl[141]? = some (.instanceMethod yX2_addThreadsTo) := by decide +kernel
theorem t_142 : lw_tbl[142]? = some (.selects RX2 yX2_addThreadsTo yX2_addThreadsTo) := by decide +kernel
theorem t_143 : lw_tbl[143]? = some (.code yX2_addThreadsTo cX2_addThreadsTo 5 (none : Option FieldType)) := by decide +kernel
theorem t_144 : lw_tbl[144]? = some (.methodLinkNest RX2 57 yX3_setAt RX3) := by decide +kernel
theorem t_145 : lw_tbl[145]? = some (.static yX3_setAt) := by decide +kernel
theorem t_146 : lw_tbl[146]? = some (.code yX3_setAt cX3_setAt 3 (none : Option FieldType)) := by decide +kernel
theorem t_147 : lw_tbl[147]? = some (.methodLink RX3 267 yX1_threadsGivenBy) := by decide +kernel
theorem t_148 : lw_tbl[148]? = some (.instanceMethod yX1_threadsGivenBy) := by decide +kernel
theorem t_149 : lw_tbl[149]? = some (.selects RX1 yX1_threadsGivenBy yX1_threadsGivenBy) := by decide +kernel
theorem t_150 : lw_tbl[150]? = some (.code yX1_threadsGivenBy cX1_threadsGivenBy 2 (some FieldType.int)) := by decide +kernel
theorem t_151 : lw_tbl[151]? = some (.methodLinkNest RX1 36 yX3_valueAt RX3) := by decide +kernel
theorem t_152 : lw_tbl[152]? = some (.methodLink RL 82 yL_type) := by decide +kernel
theorem t_153 : lw_tbl[153]? = some (.static yL_type) := by decide +kernel
theorem t_154 : lw_tbl[154]? = some (.codeWith yL_type cL_type 4 (some FieldType.int) [(0, 9, 12, 13), (0, 9, 15, 15)]) := by decide +kernel
theorem t_155 : lw_tbl[155]? = some (.classLink RL 13 "java/lang/IllegalArgumentException") := by decide +kernel
theorem t_156 : lw_tbl[156]? = some (.classLink RL 15 "java/lang/IllegalStateException") := by decide +kernel
theorem t_157 : lw_tbl[157]? = some (.methodLink RL 7 yX3_type) := by decide +kernel
theorem t_158 : lw_tbl[158]? = some (.instanceMethod yX3_type) := by decide +kernel
theorem t_159 : lw_tbl[159]? = some (.selects RX3 yX3_type yX3_type) := by decide +kernel
theorem t_160 : lw_tbl[160]? = some (.code yX3_type cX3_type 3 (some FieldType.int)) := by decide +kernel
theorem t_161 : lw_tbl[161]? = some (.methodLink RX3 45 yX3_signOf) := by decide +kernel
theorem t_162 : lw_tbl[162]? = some (.static yX3_signOf) := by decide +kernel
theorem t_163 : lw_tbl[163]? = some (.code yX3_signOf cX3_signOf 1 (some FieldType.int)) := by decide +kernel
theorem t_164 : lw_tbl[164]? = some (.classLink RX3 49 "java/lang/IllegalArgumentException") := by decide +kernel
theorem t_165 : lw_tbl[165]? = some (.instantiable "java/lang/IllegalArgumentException" 6) := by decide +kernel
theorem t_166 : lw_tbl[166]? = some (.castable "java/lang/IllegalArgumentException" "java/lang/IllegalArgumentException") := by decide +kernel
theorem t_185 : lw_tbl[185]? = some (.fieldLink "java/lang/Throwable" 198 "java/lang/Throwable" "backtrace" "Ljava/lang/Object;") := by decide +kernel
theorem t_187 : lw_tbl[187]? = some (.instanceMethod ⟨"java/lang/Throwable", "<init>", "()V"⟩) := by decide +kernel
theorem t_188 : lw_tbl[188]? = some (.code ⟨"java/lang/Throwable", "<init>", "()V"⟩ prog_14_method_1_code 1 (none : Option FieldType)) := by decide +kernel
theorem t_189 : lw_tbl[189]? = some (.methodLink "java/lang/Throwable" 1 ⟨"java/lang/Object", "<init>", "()V"⟩) := by decide +kernel
theorem t_190 : lw_tbl[190]? = some (.fieldLink "java/lang/Throwable" 13 "java/lang/Throwable" "UNASSIGNED_STACK" "[Ljava/lang/StackTraceElement;") := by decide +kernel
theorem t_192 : lw_tbl[192]? = some (.fieldLink "java/lang/Throwable" 20 "java/lang/Throwable" "SUPPRESSED_SENTINEL" "Ljava/util/List;") := by decide +kernel
theorem t_203 : lw_tbl[203]? = some (.instantiable "java/lang/Throwable" 6) := by decide +kernel
theorem t_205 : lw_tbl[205]? = some (.stringRef RX3 51 "no such letter") := by decide +kernel
theorem t_218 : lw_tbl[218]? = some (.fieldLink "java/lang/Throwable" 198 "java/lang/Throwable" "backtrace" "Ljava/lang/Object;") := by decide +kernel
theorem t_219 : lw_tbl[219]? = some (.fieldLink "java/lang/Throwable" 31 "java/lang/Throwable" "detailMessage" "Ljava/lang/String;") := by decide +kernel
theorem t_220 : lw_tbl[220]? = some (.fieldLink "java/lang/Throwable" 7 "java/lang/Throwable" "cause" "Ljava/lang/Throwable;") := by decide +kernel
theorem t_221 : lw_tbl[221]? = some (.fieldLink "java/lang/Throwable" 17 "java/lang/Throwable" "stackTrace" "[Ljava/lang/StackTraceElement;") := by decide +kernel
theorem t_222 : lw_tbl[222]? = some (.fieldLink "java/lang/Throwable" 24 "java/lang/Throwable" "suppressedExceptions" "Ljava/util/List;") := by decide +kernel
theorem t_232 : lw_tbl[232]? = some (.classLink RX3 56 "java/lang/IllegalStateException") := by decide +kernel
theorem t_233 : lw_tbl[233]? = some (.instantiable "java/lang/IllegalStateException" 6) := by decide +kernel
theorem t_234 : lw_tbl[234]? = some (.castable "java/lang/IllegalStateException" "java/lang/IllegalStateException") := by decide +kernel
theorem t_241 : lw_tbl[241]? = some (.stringRef RX3 58 "the word is full") := by decide +kernel
theorem t_248 : lw_tbl[248]? = some (.methodLink RX3 61 yX3_setAt) := by decide +kernel
theorem t_249 : lw_tbl[249]? = some (.methodLink RL 96 yL_cartoon) := by decide +kernel
theorem t_250 : lw_tbl[250]? = some (.static yL_cartoon) := by decide +kernel
theorem t_251 : lw_tbl[251]? = some (.codeWith yL_cartoon cL_cartoon 4 (some FieldType.int) [(0, 9, 12, 13), (0, 9, 15, 15)]) := by decide +kernel
theorem t_252 : lw_tbl[252]? = some (.methodLink RL 17 yX3_cartoon) := by decide +kernel
theorem t_253 : lw_tbl[253]? = some (.instanceMethod yX3_cartoon) := by decide +kernel
theorem t_254 : lw_tbl[254]? = some (.selects RX3 yX3_cartoon yX3_cartoon) := by decide +kernel
theorem t_255 : lw_tbl[255]? = some (.code yX3_cartoon cX3_cartoon 3 (some FieldType.int)) := by decide +kernel
theorem t_256 : lw_tbl[256]? = some (.stringRef RX3 65 "the width is out of its range") := by decide +kernel
theorem t_257 : lw_tbl[257]? = some (.stringRef RX3 67 "there are as many cartoons as there can be") := by decide +kernel
theorem t_258 : lw_tbl[258]? = some (.instantiable RX0 5) := by decide +kernel
theorem t_259 : lw_tbl[259]? = some (.methodLink RX3 69 yX0_init) := by decide +kernel
theorem t_260 : lw_tbl[260]? = some (.instanceMethod yX0_init) := by decide +kernel
theorem t_261 : lw_tbl[261]? = some (.code yX0_init cX0_init 2 (none : Option FieldType)) := by decide +kernel
theorem t_262 : lw_tbl[262]? = some (.methodLink RX0 3 ⟨"java/lang/Object", "<init>", "()V"⟩) := by decide +kernel
theorem t_263 : lw_tbl[263]? = some (.fieldLink RX0 25 RX0 "width" "I") := by decide +kernel
theorem t_264 : lw_tbl[264]? = some (.fieldLink RX0 9 RX0 "height" "I") := by decide +kernel
theorem t_265 : lw_tbl[265]? = some (.fieldLink RX0 15 RX0 "signs" "[I") := by decide +kernel
theorem t_266 : lw_tbl[266]? = some (.fieldLink RX0 19 RX0 "firstHatching" "I") := by decide +kernel
theorem t_267 : lw_tbl[267]? = some (.fieldLink RX0 22 RX0 "secondHatching" "I") := by decide +kernel
theorem t_279 : lw_tbl[279]? = some (.methodLink RL 100 yL_row) := by decide +kernel
theorem t_280 : lw_tbl[280]? = some (.static yL_row) := by decide +kernel
theorem t_281 : lw_tbl[281]? = some (.codeWith yL_row cL_row 4 (some FieldType.int) [(0, 9, 12, 24), (0, 9, 15, 15)]) := by decide +kernel
theorem t_282 : lw_tbl[282]? = some (.classLink RL 24 "java/lang/IndexOutOfBoundsException") := by decide +kernel
theorem t_283 : lw_tbl[283]? = some (.methodLink RL 21 yX3_row) := by decide +kernel
theorem t_284 : lw_tbl[284]? = some (.instanceMethod yX3_row) := by decide +kernel
theorem t_285 : lw_tbl[285]? = some (.selects RX3 yX3_row yX3_row) := by decide +kernel
theorem t_286 : lw_tbl[286]? = some (.code yX3_row cX3_row 3 (some FieldType.int)) := by decide +kernel
theorem t_287 : lw_tbl[287]? = some (.methodLink RX3 72 yX3_cartoonNumbered) := by decide +kernel
theorem t_289 : lw_tbl[289]? = some (.instanceMethod yX3_cartoonNumbered) := by decide +kernel
theorem t_290 : lw_tbl[290]? = some (.code yX3_cartoonNumbered cX3_cartoonNumbered 3 (some (FieldType.object "WeftHouse$Cartoon"))) := by decide +kernel
theorem t_291 : lw_tbl[291]? = some (.classLink RX3 111 "java/lang/IndexOutOfBoundsException") := by decide +kernel
theorem t_292 : lw_tbl[292]? = some (.instantiable "java/lang/IndexOutOfBoundsException" 6) := by decide +kernel
theorem t_293 : lw_tbl[293]? = some (.castable "java/lang/IndexOutOfBoundsException" "java/lang/IndexOutOfBoundsException") := by decide +kernel
theorem t_300 : lw_tbl[300]? = some (.stringRef RX3 270 "no such cartoon") := by decide +kernel
theorem t_307 : lw_tbl[307]? = some (.methodLink RX3 76 yX0_width) := by decide +kernel
theorem t_308 : lw_tbl[308]? = some (.instanceMethod yX0_width) := by decide +kernel
theorem t_309 : lw_tbl[309]? = some (.selects RX0 yX0_width yX0_width) := by decide +kernel
theorem t_310 : lw_tbl[310]? = some (.code yX0_width cX0_width 1 (some FieldType.int)) := by decide +kernel
theorem t_311 : lw_tbl[311]? = some (.stringRef RX3 80 "the word is not as long as the cartoon is wide") := by decide +kernel
theorem t_312 : lw_tbl[312]? = some (.methodLink RX3 82 yX0_height) := by decide +kernel
theorem t_313 : lw_tbl[313]? = some (.instanceMethod yX0_height) := by decide +kernel
theorem t_314 : lw_tbl[314]? = some (.selects RX0 yX0_height yX0_height) := by decide +kernel
theorem t_315 : lw_tbl[315]? = some (.code yX0_height cX0_height 1 (some FieldType.int)) := by decide +kernel
theorem t_316 : lw_tbl[316]? = some (.stringRef RX3 85 "the cartoon has as many rows as it can have") := by decide +kernel
theorem t_317 : lw_tbl[317]? = some (.methodLink RX3 87 yX0_addRow) := by decide +kernel
theorem t_318 : lw_tbl[318]? = some (.instanceMethod yX0_addRow) := by decide +kernel
theorem t_319 : lw_tbl[319]? = some (.selects RX0 yX0_addRow yX0_addRow) := by decide +kernel
theorem t_320 : lw_tbl[320]? = some (.code yX0_addRow cX0_addRow 3 (none : Option FieldType)) := by decide +kernel
theorem t_321 : lw_tbl[321]? = some (.methodLinkNest RX0 28 yX3_valueAt RX3) := by decide +kernel
theorem t_322 : lw_tbl[322]? = some (.methodLinkNest RX0 32 yX3_setAt RX3) := by decide +kernel
theorem t_323 : lw_tbl[323]? = some (.methodLink RL 103 yL_hatch) := by decide +kernel
theorem t_324 : lw_tbl[324]? = some (.static yL_hatch) := by decide +kernel
theorem t_325 : lw_tbl[325]? = some (.codeWith yL_hatch cL_hatch 5 (some FieldType.int) [(0, 7, 10, 24)]) := by decide +kernel
theorem t_326 : lw_tbl[326]? = some (.methodLink RL 26 yX3_hatch) := by decide +kernel
theorem t_327 : lw_tbl[327]? = some (.instanceMethod yX3_hatch) := by decide +kernel
theorem t_328 : lw_tbl[328]? = some (.selects RX3 yX3_hatch yX3_hatch) := by decide +kernel
theorem t_329 : lw_tbl[329]? = some (.code yX3_hatch cX3_hatch 5 (none : Option FieldType)) := by decide +kernel
theorem t_330 : lw_tbl[330]? = some (.methodLink RX3 91 yX3_requireColour) := by decide +kernel
theorem t_331 : lw_tbl[331]? = some (.static yX3_requireColour) := by decide +kernel
theorem t_332 : lw_tbl[332]? = some (.code yX3_requireColour cX3_requireColour 1 (none : Option FieldType)) := by decide +kernel
theorem t_333 : lw_tbl[333]? = some (.stringRef RX3 274 "no such colour") := by decide +kernel
theorem t_334 : lw_tbl[334]? = some (.methodLink RX3 94 yX0_hatchBetween) := by decide +kernel
theorem t_335 : lw_tbl[335]? = some (.instanceMethod yX0_hatchBetween) := by decide +kernel
theorem t_336 : lw_tbl[336]? = some (.selects RX0 yX0_hatchBetween yX0_hatchBetween) := by decide +kernel
theorem t_337 : lw_tbl[337]? = some (.code yX0_hatchBetween cX0_hatchBetween 3 (none : Option FieldType)) := by decide +kernel
theorem t_338 : lw_tbl[338]? = some (.methodLink RL 107 yL_dye) := by decide +kernel
theorem t_339 : lw_tbl[339]? = some (.static yL_dye) := by decide +kernel
theorem t_340 : lw_tbl[340]? = some (.codeWith yL_dye cL_dye 7 (some FieldType.int) [(0, 14, 17, 24), (0, 14, 21, 13), (0, 14, 25, 15)]) := by decide +kernel
theorem t_341 : lw_tbl[341]? = some (.methodLink RL 30 yX3_dye) := by decide +kernel
theorem t_342 : lw_tbl[342]? = some (.instanceMethod yX3_dye) := by decide +kernel
theorem t_343 : lw_tbl[343]? = some (.selects RX3 yX3_dye yX3_dye) := by decide +kernel
theorem t_344 : lw_tbl[344]? = some (.code yX3_dye cX3_dye 5 (some FieldType.int)) := by decide +kernel
theorem t_345 : lw_tbl[345]? = some (.stringRef RX3 98 "the threads are out of their range") := by decide +kernel
theorem t_346 : lw_tbl[346]? = some (.stringRef RX3 100 "the fade is out of its range") := by decide +kernel
theorem t_347 : lw_tbl[347]? = some (.methodLink RX3 102 yX1_count) := by decide +kernel
theorem t_348 : lw_tbl[348]? = some (.instanceMethod yX1_count) := by decide +kernel
theorem t_349 : lw_tbl[349]? = some (.selects RX1 yX1_count yX1_count) := by decide +kernel
theorem t_350 : lw_tbl[350]? = some (.code yX1_count cX1_count 1 (some FieldType.int)) := by decide +kernel
theorem t_351 : lw_tbl[351]? = some (.stringRef RX3 105 "there are as many lots as there can be") := by decide +kernel
theorem t_352 : lw_tbl[352]? = some (.methodLink RX3 107 yX1_add) := by decide +kernel
theorem t_353 : lw_tbl[353]? = some (.instanceMethod yX1_add) := by decide +kernel
theorem t_354 : lw_tbl[354]? = some (.selects RX1 yX1_add yX1_add) := by decide +kernel
theorem t_355 : lw_tbl[355]? = some (.code yX1_add cX1_add 6 (some FieldType.int)) := by decide +kernel
theorem t_356 : lw_tbl[356]? = some (.methodLinkNest RX1 32 yX3_setAt RX3) := by decide +kernel
theorem t_357 : lw_tbl[357]? = some (.methodLink RL 111 yL_left) := by decide +kernel
theorem t_358 : lw_tbl[358]? = some (.static yL_left) := by decide +kernel
theorem t_359 : lw_tbl[359]? = some (.codeWith yL_left cL_left 4 (some FieldType.int) [(0, 9, 12, 24)]) := by decide +kernel
theorem t_360 : lw_tbl[360]? = some (.methodLink RL 34 yX3_left) := by decide +kernel
theorem t_361 : lw_tbl[361]? = some (.instanceMethod yX3_left) := by decide +kernel
theorem t_362 : lw_tbl[362]? = some (.selects RX3 yX3_left yX3_left) := by decide +kernel
theorem t_363 : lw_tbl[363]? = some (.code yX3_left cX3_left 2 (some FieldType.int)) := by decide +kernel
theorem t_364 : lw_tbl[364]? = some (.stringRef RX3 113 "no such lot") := by decide +kernel
theorem t_365 : lw_tbl[365]? = some (.methodLink RX3 116 yX1_threadsIn) := by decide +kernel
theorem t_366 : lw_tbl[366]? = some (.instanceMethod yX1_threadsIn) := by decide +kernel
theorem t_367 : lw_tbl[367]? = some (.selects RX1 yX1_threadsIn yX1_threadsIn) := by decide +kernel
theorem t_368 : lw_tbl[368]? = some (.code yX1_threadsIn cX1_threadsIn 2 (some FieldType.int)) := by decide +kernel
theorem t_369 : lw_tbl[369]? = some (.methodLink RL 118 yL_loom) := by decide +kernel
theorem t_370 : lw_tbl[370]? = some (.static yL_loom) := by decide +kernel
theorem t_371 : lw_tbl[371]? = some (.codeWith yL_loom cL_loom 6 (some FieldType.int) [(0, 12, 15, 24), (0, 12, 19, 13), (0, 12, 23, 15)]) := by decide +kernel
theorem t_372 : lw_tbl[372]? = some (.methodLink RL 37 yX3_loom) := by decide +kernel
theorem t_373 : lw_tbl[373]? = some (.instanceMethod yX3_loom) := by decide +kernel
theorem t_374 : lw_tbl[374]? = some (.selects RX3 yX3_loom yX3_loom) := by decide +kernel
theorem t_375 : lw_tbl[375]? = some (.code yX3_loom cX3_loom 6 (some FieldType.int)) := by decide +kernel
theorem t_376 : lw_tbl[376]? = some (.stringRef RX3 123 "the weavers are out of their range") := by decide +kernel
theorem t_377 : lw_tbl[377]? = some (.stringRef RX3 125 "the cartoon has no row") := by decide +kernel
theorem t_378 : lw_tbl[378]? = some (.methodLink RX3 127 yX3_requireRoomForPiece) := by decide +kernel
theorem t_380 : lw_tbl[380]? = some (.instanceMethod yX3_requireRoomForPiece) := by decide +kernel
theorem t_381 : lw_tbl[381]? = some (.code yX3_requireRoomForPiece cX3_requireRoomForPiece 1 (none : Option FieldType)) := by decide +kernel
theorem t_382 : lw_tbl[382]? = some (.stringRef RX3 282 "there were as many pieces as there can be") := by decide +kernel
theorem t_383 : lw_tbl[383]? = some (.instantiable RX2 9) := by decide +kernel
theorem t_384 : lw_tbl[384]? = some (.methodLink RX3 130 yX2_init) := by decide +kernel
theorem t_385 : lw_tbl[385]? = some (.instanceMethod yX2_init) := by decide +kernel
theorem t_386 : lw_tbl[386]? = some (.code yX2_init cX2_init 3 (none : Option FieldType)) := by decide +kernel
theorem t_387 : lw_tbl[387]? = some (.methodLink RX2 3 ⟨"java/lang/Object", "<init>", "()V"⟩) := by decide +kernel
theorem t_388 : lw_tbl[388]? = some (.fieldLink RX2 9 RX2 "width" "I") := by decide +kernel
theorem t_389 : lw_tbl[389]? = some (.fieldLink RX2 35 RX2 "height" "I") := by decide +kernel
theorem t_390 : lw_tbl[390]? = some (.fieldLink RX2 38 RX2 "weavers" "I") := by decide +kernel
theorem t_391 : lw_tbl[391]? = some (.fieldLink RX2 15 RX2 "rowsWoven" "[I") := by decide +kernel
theorem t_392 : lw_tbl[392]? = some (.fieldLink RX2 19 RX2 "colours" "[I") := by decide +kernel
theorem t_393 : lw_tbl[393]? = some (.fieldLink RX2 22 RX2 "lotNumbers" "[I") := by decide +kernel
theorem t_394 : lw_tbl[394]? = some (.fieldLink RX2 25 RX2 "shades" "[I") := by decide +kernel
theorem t_395 : lw_tbl[395]? = some (.fieldLink RX2 28 RX2 "origins" "[I") := by decide +kernel
theorem t_396 : lw_tbl[396]? = some (.fieldLink RX2 31 RX2 "sewnAhead" "[Z") := by decide +kernel
theorem t_416 : lw_tbl[416]? = some (.methodLink RX3 132 yX2_drawFrom) := by decide +kernel
theorem t_417 : lw_tbl[417]? = some (.instanceMethod yX2_drawFrom) := by decide +kernel
theorem t_418 : lw_tbl[418]? = some (.selects RX2 yX2_drawFrom yX2_drawFrom) := by decide +kernel
theorem t_419 : lw_tbl[419]? = some (.code yX2_drawFrom cX2_drawFrom 6 (none : Option FieldType)) := by decide +kernel
theorem t_420 : lw_tbl[420]? = some (.methodLink RX2 49 yX0_width) := by decide +kernel
theorem t_421 : lw_tbl[421]? = some (.methodLink RX2 54 yX2_originOf) := by decide +kernel
theorem t_422 : lw_tbl[422]? = some (.static yX2_originOf) := by decide +kernel
theorem t_423 : lw_tbl[423]? = some (.code yX2_originOf cX2_originOf 2 (some FieldType.int)) := by decide +kernel
theorem t_424 : lw_tbl[424]? = some (.methodLink RX2 61 yX0_colourAt) := by decide +kernel
theorem t_425 : lw_tbl[425]? = some (.instanceMethod yX0_colourAt) := by decide +kernel
theorem t_426 : lw_tbl[426]? = some (.selects RX0 yX0_colourAt yX0_colourAt) := by decide +kernel
theorem t_427 : lw_tbl[427]? = some (.code yX0_colourAt cX0_colourAt 6 (some FieldType.int)) := by decide +kernel
theorem t_428 : lw_tbl[428]? = some (.methodLink RX3 136 yX3_keepPiece) := by decide +kernel
theorem t_430 : lw_tbl[430]? = some (.instanceMethod yX3_keepPiece) := by decide +kernel
theorem t_431 : lw_tbl[431]? = some (.code yX3_keepPiece cX3_keepPiece 3 (some FieldType.int)) := by decide +kernel
theorem t_432 : lw_tbl[432]? = some (.methodLink RL 122 yL_weave) := by decide +kernel
theorem t_433 : lw_tbl[433]? = some (.static yL_weave) := by decide +kernel
theorem t_434 : lw_tbl[434]? = some (.codeWith yL_weave cL_weave 5 (some FieldType.int) [(0, 10, 13, 24), (0, 10, 17, 15)]) := by decide +kernel
theorem t_435 : lw_tbl[435]? = some (.methodLink RL 41 yX3_weave) := by decide +kernel
theorem t_436 : lw_tbl[436]? = some (.instanceMethod yX3_weave) := by decide +kernel
theorem t_437 : lw_tbl[437]? = some (.selects RX3 yX3_weave yX3_weave) := by decide +kernel
theorem t_438 : lw_tbl[438]? = some (.code yX3_weave cX3_weave 4 (some FieldType.int)) := by decide +kernel
theorem t_439 : lw_tbl[439]? = some (.methodLink RX3 140 yX3_pieceNumbered) := by decide +kernel
theorem t_441 : lw_tbl[441]? = some (.instanceMethod yX3_pieceNumbered) := by decide +kernel
theorem t_442 : lw_tbl[442]? = some (.code yX3_pieceNumbered cX3_pieceNumbered 3 (some (FieldType.object "WeftHouse$Piece"))) := by decide +kernel
theorem t_443 : lw_tbl[443]? = some (.stringRef RX3 272 "no such piece") := by decide +kernel
theorem t_444 : lw_tbl[444]? = some (.methodLink RX3 144 yX2_weavers) := by decide +kernel
theorem t_445 : lw_tbl[445]? = some (.instanceMethod yX2_weavers) := by decide +kernel
theorem t_446 : lw_tbl[446]? = some (.selects RX2 yX2_weavers yX2_weavers) := by decide +kernel
theorem t_447 : lw_tbl[447]? = some (.code yX2_weavers cX2_weavers 1 (some FieldType.int)) := by decide +kernel
theorem t_448 : lw_tbl[448]? = some (.stringRef RX3 147 "no such weaver") := by decide +kernel
theorem t_449 : lw_tbl[449]? = some (.methodLink RX3 149 yX2_hasWovenAll) := by decide +kernel
theorem t_450 : lw_tbl[450]? = some (.instanceMethod yX2_hasWovenAll) := by decide +kernel
theorem t_451 : lw_tbl[451]? = some (.selects RX2 yX2_hasWovenAll yX2_hasWovenAll) := by decide +kernel
theorem t_452 : lw_tbl[452]? = some (.code yX2_hasWovenAll cX2_hasWovenAll 2 (some FieldType.boolean)) := by decide +kernel
theorem t_453 : lw_tbl[453]? = some (.stringRef RX3 153 "the weaver has woven all his rows") := by decide +kernel
theorem t_454 : lw_tbl[454]? = some (.methodLink RX3 155 yX2_isAboveNeighbour) := by decide +kernel
theorem t_455 : lw_tbl[455]? = some (.instanceMethod yX2_isAboveNeighbour) := by decide +kernel
theorem t_456 : lw_tbl[456]? = some (.selects RX2 yX2_isAboveNeighbour yX2_isAboveNeighbour) := by decide +kernel
theorem t_457 : lw_tbl[457]? = some (.code yX2_isAboveNeighbour cX2_isAboveNeighbour 5 (some FieldType.boolean)) := by decide +kernel
theorem t_458 : lw_tbl[458]? = some (.stringRef RX3 158 "a neighbour has woven less") := by decide +kernel
theorem t_459 : lw_tbl[459]? = some (.methodLink RX3 160 yX2_threadsSuffice) := by decide +kernel
theorem t_460 : lw_tbl[460]? = some (.instanceMethod yX2_threadsSuffice) := by decide +kernel
theorem t_461 : lw_tbl[461]? = some (.selects RX2 yX2_threadsSuffice yX2_threadsSuffice) := by decide +kernel
theorem t_462 : lw_tbl[462]? = some (.code yX2_threadsSuffice cX2_threadsSuffice 4 (some FieldType.boolean)) := by decide +kernel
theorem t_463 : lw_tbl[463]? = some (.methodLink RX2 65 yX2_countInNextRow) := by decide +kernel
theorem t_465 : lw_tbl[465]? = some (.instanceMethod yX2_countInNextRow) := by decide +kernel
theorem t_466 : lw_tbl[466]? = some (.code yX2_countInNextRow cX2_countInNextRow 7 (some FieldType.int)) := by decide +kernel
theorem t_467 : lw_tbl[467]? = some (.methodLink RX2 74 yX2_firstColumnOf) := by decide +kernel
theorem t_469 : lw_tbl[469]? = some (.instanceMethod yX2_firstColumnOf) := by decide +kernel
theorem t_470 : lw_tbl[470]? = some (.code yX2_firstColumnOf cX2_firstColumnOf 2 (some FieldType.int)) := by decide +kernel
theorem t_471 : lw_tbl[471]? = some (.methodLink RX2 68 yX1_threadsOfColour) := by decide +kernel
theorem t_472 : lw_tbl[472]? = some (.instanceMethod yX1_threadsOfColour) := by decide +kernel
theorem t_473 : lw_tbl[473]? = some (.selects RX1 yX1_threadsOfColour yX1_threadsOfColour) := by decide +kernel
theorem t_474 : lw_tbl[474]? = some (.code yX1_threadsOfColour cX1_threadsOfColour 4 (some FieldType.int)) := by decide +kernel
theorem t_475 : lw_tbl[475]? = some (.methodLink RX1 40 yX1_threadsIn) := by decide +kernel
theorem t_476 : lw_tbl[476]? = some (.stringRef RX3 164 "threads lack") := by decide +kernel
theorem t_477 : lw_tbl[477]? = some (.methodLink RX3 166 yX2_weaveRow) := by decide +kernel
theorem t_478 : lw_tbl[478]? = some (.instanceMethod yX2_weaveRow) := by decide +kernel
theorem t_479 : lw_tbl[479]? = some (.selects RX2 yX2_weaveRow yX2_weaveRow) := by decide +kernel
theorem t_480 : lw_tbl[480]? = some (.code yX2_weaveRow cX2_weaveRow 6 (some FieldType.int)) := by decide +kernel
theorem t_481 : lw_tbl[481]? = some (.methodLink RX2 79 yX1_takeThread) := by decide +kernel
theorem t_482 : lw_tbl[482]? = some (.instanceMethod yX1_takeThread) := by decide +kernel
theorem t_483 : lw_tbl[483]? = some (.selects RX1 yX1_takeThread yX1_takeThread) := by decide +kernel
theorem t_484 : lw_tbl[484]? = some (.code yX1_takeThread cX1_takeThread 4 (some FieldType.int)) := by decide +kernel
theorem t_485 : lw_tbl[485]? = some (.methodLink RL 126 yL_pieceIs) := by decide +kernel
theorem t_486 : lw_tbl[486]? = some (.static yL_pieceIs) := by decide +kernel
theorem t_487 : lw_tbl[487]? = some (.codeWith yL_pieceIs cL_pieceIs 5 (some FieldType.int) [(0, 10, 13, 24), (0, 10, 17, 13)]) := by decide +kernel
theorem t_488 : lw_tbl[488]? = some (.methodLink RL 45 yX3_pieceIs) := by decide +kernel
theorem t_489 : lw_tbl[489]? = some (.instanceMethod yX3_pieceIs) := by decide +kernel
theorem t_490 : lw_tbl[490]? = some (.selects RX3 yX3_pieceIs yX3_pieceIs) := by decide +kernel
theorem t_491 : lw_tbl[491]? = some (.code yX3_pieceIs cX3_pieceIs 4 (some FieldType.int)) := by decide +kernel
theorem t_492 : lw_tbl[492]? = some (.methodLink RX3 170 yX2_width) := by decide +kernel
theorem t_493 : lw_tbl[493]? = some (.instanceMethod yX2_width) := by decide +kernel
theorem t_494 : lw_tbl[494]? = some (.selects RX2 yX2_width yX2_width) := by decide +kernel
theorem t_495 : lw_tbl[495]? = some (.code yX2_width cX2_width 1 (some FieldType.int)) := by decide +kernel
theorem t_496 : lw_tbl[496]? = some (.methodLink RX3 171 yX2_height) := by decide +kernel
theorem t_497 : lw_tbl[497]? = some (.instanceMethod yX2_height) := by decide +kernel
theorem t_498 : lw_tbl[498]? = some (.selects RX2 yX2_height yX2_height) := by decide +kernel
theorem t_499 : lw_tbl[499]? = some (.code yX2_height cX2_height 1 (some FieldType.int)) := by decide +kernel
theorem t_500 : lw_tbl[500]? = some (.methodLink RX3 172 yX2_countWoven) := by decide +kernel
theorem t_501 : lw_tbl[501]? = some (.instanceMethod yX2_countWoven) := by decide +kernel
theorem t_502 : lw_tbl[502]? = some (.selects RX2 yX2_countWoven yX2_countWoven) := by decide +kernel
theorem t_503 : lw_tbl[503]? = some (.code yX2_countWoven cX2_countWoven 4 (some FieldType.int)) := by decide +kernel
theorem t_504 : lw_tbl[504]? = some (.methodLink RX3 175 yX2_isDone) := by decide +kernel
theorem t_505 : lw_tbl[505]? = some (.instanceMethod yX2_isDone) := by decide +kernel
theorem t_506 : lw_tbl[506]? = some (.selects RX2 yX2_isDone yX2_isDone) := by decide +kernel
theorem t_507 : lw_tbl[507]? = some (.code yX2_isDone cX2_isDone 1 (some FieldType.boolean)) := by decide +kernel
theorem t_508 : lw_tbl[508]? = some (.methodLink RX2 85 yX2_countWoven) := by decide +kernel
theorem t_509 : lw_tbl[509]? = some (.methodLink RX3 179 yX2_countSlits) := by decide +kernel
theorem t_510 : lw_tbl[510]? = some (.instanceMethod yX2_countSlits) := by decide +kernel
theorem t_511 : lw_tbl[511]? = some (.selects RX2 yX2_countSlits yX2_countSlits) := by decide +kernel
theorem t_512 : lw_tbl[512]? = some (.code yX2_countSlits cX2_countSlits 3 (some FieldType.int)) := by decide +kernel
theorem t_513 : lw_tbl[513]? = some (.methodLink RX2 91 yX2_hasSlitAhead) := by decide +kernel
theorem t_514 : lw_tbl[514]? = some (.instanceMethod yX2_hasSlitAhead) := by decide +kernel
theorem t_515 : lw_tbl[515]? = some (.selects RX2 yX2_hasSlitAhead yX2_hasSlitAhead) := by decide +kernel
theorem t_516 : lw_tbl[516]? = some (.code yX2_hasSlitAhead cX2_hasSlitAhead 2 (some FieldType.boolean)) := by decide +kernel
theorem t_517 : lw_tbl[517]? = some (.methodLink RX2 95 yX2_isSewnAhead) := by decide +kernel
theorem t_519 : lw_tbl[519]? = some (.instanceMethod yX2_isSewnAhead) := by decide +kernel
theorem t_520 : lw_tbl[520]? = some (.code yX2_isSewnAhead cX2_isSewnAhead 2 (some FieldType.boolean)) := by decide +kernel
theorem t_521 : lw_tbl[521]? = some (.methodLink RX2 98 yX2_longestUnlikeAhead) := by decide +kernel
theorem t_523 : lw_tbl[523]? = some (.instanceMethod yX2_longestUnlikeAhead) := by decide +kernel
theorem t_524 : lw_tbl[524]? = some (.code yX2_longestUnlikeAhead cX2_longestUnlikeAhead 6 (some FieldType.int)) := by decide +kernel
theorem t_525 : lw_tbl[525]? = some (.methodLink RX2 101 yJ9_max_7cf53) := by decide +kernel
theorem t_526 : lw_tbl[526]? = some (.static yJ9_max_7cf53) := by decide +kernel
theorem t_527 : lw_tbl[527]? = some (.code yJ9_max_7cf53 cJ9_max_7cf53 2 (some FieldType.int)) := by decide +kernel
theorem t_528 : lw_tbl[528]? = some (.methodLink RX3 182 yX2_sumOfShades) := by decide +kernel
theorem t_529 : lw_tbl[529]? = some (.instanceMethod yX2_sumOfShades) := by decide +kernel
theorem t_530 : lw_tbl[530]? = some (.selects RX2 yX2_sumOfShades yX2_sumOfShades) := by decide +kernel
theorem t_531 : lw_tbl[531]? = some (.code yX2_sumOfShades cX2_sumOfShades 4 (some FieldType.int)) := by decide +kernel
theorem t_532 : lw_tbl[532]? = some (.methodLink RX2 88 yX2_shadeAt) := by decide +kernel
theorem t_533 : lw_tbl[533]? = some (.instanceMethod yX2_shadeAt) := by decide +kernel
theorem t_534 : lw_tbl[534]? = some (.selects RX2 yX2_shadeAt yX2_shadeAt) := by decide +kernel
theorem t_535 : lw_tbl[535]? = some (.code yX2_shadeAt cX2_shadeAt 3 (some FieldType.int)) := by decide +kernel
theorem t_536 : lw_tbl[536]? = some (.stringRef RX3 185 "a piece is nothing of that number") := by decide +kernel
theorem t_537 : lw_tbl[537]? = some (.methodLink RL 129 yL_cell) := by decide +kernel
theorem t_538 : lw_tbl[538]? = some (.static yL_cell) := by decide +kernel
theorem t_539 : lw_tbl[539]? = some (.codeWith yL_cell cL_cell 7 (some FieldType.int) [(0, 14, 17, 24), (0, 14, 21, 13)]) := by decide +kernel
theorem t_540 : lw_tbl[540]? = some (.methodLink RL 48 yX3_cell) := by decide +kernel
theorem t_541 : lw_tbl[541]? = some (.instanceMethod yX3_cell) := by decide +kernel
theorem t_542 : lw_tbl[542]? = some (.selects RX3 yX3_cell yX3_cell) := by decide +kernel
theorem t_543 : lw_tbl[543]? = some (.code yX3_cell cX3_cell 6 (some FieldType.int)) := by decide +kernel
theorem t_544 : lw_tbl[544]? = some (.methodLink RX3 187 yX2_holds) := by decide +kernel
theorem t_545 : lw_tbl[545]? = some (.instanceMethod yX2_holds) := by decide +kernel
theorem t_546 : lw_tbl[546]? = some (.selects RX2 yX2_holds yX2_holds) := by decide +kernel
theorem t_547 : lw_tbl[547]? = some (.code yX2_holds cX2_holds 3 (some FieldType.boolean)) := by decide +kernel
theorem t_548 : lw_tbl[548]? = some (.stringRef RX3 191 "no such row or column") := by decide +kernel
theorem t_549 : lw_tbl[549]? = some (.methodLink RX3 193 yX2_colourAt) := by decide +kernel
theorem t_550 : lw_tbl[550]? = some (.methodLink RX3 197 yX2_lotAt) := by decide +kernel
theorem t_551 : lw_tbl[551]? = some (.methodLink RX3 200 yX2_shadeAt) := by decide +kernel
theorem t_552 : lw_tbl[552]? = some (.stringRef RX3 203 "a cell is nothing of that number") := by decide +kernel
theorem t_553 : lw_tbl[553]? = some (.methodLink RL 133 yL_sew) := by decide +kernel
theorem t_554 : lw_tbl[554]? = some (.static yL_sew) := by decide +kernel
theorem t_555 : lw_tbl[555]? = some (.codeWith yL_sew cL_sew 5 (some FieldType.int) [(0, 17, 20, 24), (0, 17, 24, 15)]) := by decide +kernel
theorem t_556 : lw_tbl[556]? = some (.methodLink RL 52 yX3_sew) := by decide +kernel
theorem t_557 : lw_tbl[557]? = some (.instanceMethod yX3_sew) := by decide +kernel
theorem t_558 : lw_tbl[558]? = some (.selects RX3 yX3_sew yX3_sew) := by decide +kernel
theorem t_559 : lw_tbl[559]? = some (.code yX3_sew cX3_sew 5 (some FieldType.boolean)) := by decide +kernel
theorem t_560 : lw_tbl[560]? = some (.methodLink RX3 205 yX3_requireSecondColumn) := by decide +kernel
theorem t_561 : lw_tbl[561]? = some (.static yX3_requireSecondColumn) := by decide +kernel
theorem t_562 : lw_tbl[562]? = some (.code yX3_requireSecondColumn cX3_requireSecondColumn 2 (none : Option FieldType)) := by decide +kernel
theorem t_563 : lw_tbl[563]? = some (.stringRef RX3 276 "no such column behind another one") := by decide +kernel
theorem t_564 : lw_tbl[564]? = some (.methodLink RX3 209 yX3_requireDone) := by decide +kernel
theorem t_565 : lw_tbl[565]? = some (.static yX3_requireDone) := by decide +kernel
theorem t_566 : lw_tbl[566]? = some (.code yX3_requireDone cX3_requireDone 1 (none : Option FieldType)) := by decide +kernel
theorem t_567 : lw_tbl[567]? = some (.stringRef RX3 278 "the piece is not done") := by decide +kernel
theorem t_568 : lw_tbl[568]? = some (.methodLink RX3 213 yX2_hasSlitAhead) := by decide +kernel
theorem t_569 : lw_tbl[569]? = some (.methodLink RX3 216 yX2_sewAhead) := by decide +kernel
theorem t_570 : lw_tbl[570]? = some (.instanceMethod yX2_sewAhead) := by decide +kernel
theorem t_571 : lw_tbl[571]? = some (.selects RX2 yX2_sewAhead yX2_sewAhead) := by decide +kernel
theorem t_572 : lw_tbl[572]? = some (.code yX2_sewAhead cX2_sewAhead 2 (none : Option FieldType)) := by decide +kernel
theorem t_573 : lw_tbl[573]? = some (.methodLink RX2 106 yX2_setSewnAhead) := by decide +kernel
theorem t_575 : lw_tbl[575]? = some (.instanceMethod yX2_setSewnAhead) := by decide +kernel
theorem t_576 : lw_tbl[576]? = some (.code yX2_setSewnAhead cX2_setSewnAhead 3 (none : Option FieldType)) := by decide +kernel
theorem t_577 : lw_tbl[577]? = some (.methodLink RL 136 yL_light) := by decide +kernel
theorem t_578 : lw_tbl[578]? = some (.static yL_light) := by decide +kernel
theorem t_579 : lw_tbl[579]? = some (.codeWith yL_light cL_light 5 (some FieldType.int) [(0, 10, 13, 24), (0, 10, 17, 13), (0, 10, 21, 15)]) := by decide +kernel
theorem t_580 : lw_tbl[580]? = some (.methodLink RL 56 yX3_light) := by decide +kernel
theorem t_581 : lw_tbl[581]? = some (.instanceMethod yX3_light) := by decide +kernel
theorem t_582 : lw_tbl[582]? = some (.selects RX3 yX3_light yX3_light) := by decide +kernel
theorem t_583 : lw_tbl[583]? = some (.code yX3_light cX3_light 4 (some FieldType.int)) := by decide +kernel
theorem t_584 : lw_tbl[584]? = some (.stringRef RX3 219 "the hours are out of their range") := by decide +kernel
theorem t_585 : lw_tbl[585]? = some (.methodLink RX3 221 yX2_fade) := by decide +kernel
theorem t_586 : lw_tbl[586]? = some (.instanceMethod yX2_fade) := by decide +kernel
theorem t_587 : lw_tbl[587]? = some (.selects RX2 yX2_fade yX2_fade) := by decide +kernel
theorem t_588 : lw_tbl[588]? = some (.code yX2_fade cX2_fade 5 (none : Option FieldType)) := by decide +kernel
theorem t_589 : lw_tbl[589]? = some (.methodLink RX2 110 yX1_fadeOf) := by decide +kernel
theorem t_590 : lw_tbl[590]? = some (.instanceMethod yX1_fadeOf) := by decide +kernel
theorem t_591 : lw_tbl[591]? = some (.selects RX1 yX1_fadeOf yX1_fadeOf) := by decide +kernel
theorem t_592 : lw_tbl[592]? = some (.code yX1_fadeOf cX1_fadeOf 2 (some FieldType.int)) := by decide +kernel
theorem t_593 : lw_tbl[593]? = some (.methodLink RX2 113 yX2_dim) := by decide +kernel
theorem t_595 : lw_tbl[595]? = some (.instanceMethod yX2_dim) := by decide +kernel
theorem t_596 : lw_tbl[596]? = some (.code yX2_dim cX2_dim 4 (none : Option FieldType)) := by decide +kernel
theorem t_597 : lw_tbl[597]? = some (.methodLink RL 139 yL_wash) := by decide +kernel
theorem t_598 : lw_tbl[598]? = some (.static yL_wash) := by decide +kernel
theorem t_599 : lw_tbl[599]? = some (.codeWith yL_wash cL_wash 4 (some FieldType.int) [(0, 9, 12, 24), (0, 9, 15, 15)]) := by decide +kernel
theorem t_600 : lw_tbl[600]? = some (.methodLink RL 59 yX3_wash) := by decide +kernel
theorem t_601 : lw_tbl[601]? = some (.instanceMethod yX3_wash) := by decide +kernel
theorem t_602 : lw_tbl[602]? = some (.selects RX3 yX3_wash yX3_wash) := by decide +kernel
theorem t_603 : lw_tbl[603]? = some (.code yX3_wash cX3_wash 3 (some FieldType.int)) := by decide +kernel
theorem t_604 : lw_tbl[604]? = some (.methodLink RX3 225 yX2_bleed) := by decide +kernel
theorem t_605 : lw_tbl[605]? = some (.instanceMethod yX2_bleed) := by decide +kernel
theorem t_606 : lw_tbl[606]? = some (.selects RX2 yX2_bleed yX2_bleed) := by decide +kernel
theorem t_607 : lw_tbl[607]? = some (.code yX2_bleed cX2_bleed 5 (none : Option FieldType)) := by decide +kernel
theorem t_608 : lw_tbl[608]? = some (.methodLink RX2 117 yX1_isBleeding) := by decide +kernel
theorem t_609 : lw_tbl[609]? = some (.instanceMethod yX1_isBleeding) := by decide +kernel
theorem t_610 : lw_tbl[610]? = some (.selects RX1 yX1_isBleeding yX1_isBleeding) := by decide +kernel
theorem t_611 : lw_tbl[611]? = some (.code yX1_isBleeding cX1_isBleeding 2 (some FieldType.boolean)) := by decide +kernel
theorem t_612 : lw_tbl[612]? = some (.methodLink RX2 120 yX2_stain) := by decide +kernel
theorem t_614 : lw_tbl[614]? = some (.instanceMethod yX2_stain) := by decide +kernel
theorem t_615 : lw_tbl[615]? = some (.code yX2_stain cX2_stain 4 (none : Option FieldType)) := by decide +kernel
theorem t_616 : lw_tbl[616]? = some (.methodLink RX2 123 yX2_holds) := by decide +kernel
theorem t_617 : lw_tbl[617]? = some (.methodLink RL 142 yL_cut) := by decide +kernel
theorem t_618 : lw_tbl[618]? = some (.static yL_cut) := by decide +kernel
theorem t_619 : lw_tbl[619]? = some (.codeWith yL_cut cL_cut 5 (some FieldType.int) [(0, 10, 13, 24), (0, 10, 17, 15)]) := by decide +kernel
theorem t_620 : lw_tbl[620]? = some (.methodLink RL 62 yX3_cut) := by decide +kernel
theorem t_621 : lw_tbl[621]? = some (.instanceMethod yX3_cut) := by decide +kernel
theorem t_622 : lw_tbl[622]? = some (.selects RX3 yX3_cut yX3_cut) := by decide +kernel
theorem t_623 : lw_tbl[623]? = some (.code yX3_cut cX3_cut 5 (some FieldType.int)) := by decide +kernel
theorem t_624 : lw_tbl[624]? = some (.methodLink RX3 229 yX2_append) := by decide +kernel
theorem t_625 : lw_tbl[625]? = some (.instanceMethod yX2_append) := by decide +kernel
theorem t_626 : lw_tbl[626]? = some (.selects RX2 yX2_append yX2_append) := by decide +kernel
theorem t_627 : lw_tbl[627]? = some (.code yX2_append cX2_append 4 (none : Option FieldType)) := by decide +kernel
theorem t_628 : lw_tbl[628]? = some (.methodLink RX2 127 yX2_copyColumn) := by decide +kernel
theorem t_630 : lw_tbl[630]? = some (.instanceMethod yX2_copyColumn) := by decide +kernel
theorem t_631 : lw_tbl[631]? = some (.code yX2_copyColumn cX2_copyColumn 5 (none : Option FieldType)) := by decide +kernel
theorem t_632 : lw_tbl[632]? = some (.methodLink RX3 232 yX2_keepAhead) := by decide +kernel
theorem t_633 : lw_tbl[633]? = some (.instanceMethod yX2_keepAhead) := by decide +kernel
theorem t_634 : lw_tbl[634]? = some (.selects RX2 yX2_keepAhead yX2_keepAhead) := by decide +kernel
theorem t_635 : lw_tbl[635]? = some (.code yX2_keepAhead cX2_keepAhead 2 (none : Option FieldType)) := by decide +kernel
theorem t_636 : lw_tbl[636]? = some (.methodLink RL 145 yL_match) := by decide +kernel
theorem t_637 : lw_tbl[637]? = some (.static yL_match) := by decide +kernel
theorem t_638 : lw_tbl[638]? = some (.codeWith yL_match cL_match 5 (some FieldType.int) [(0, 10, 13, 24), (0, 10, 17, 13), (0, 10, 21, 15)]) := by decide +kernel
theorem t_639 : lw_tbl[639]? = some (.methodLink RL 65 yX3_match) := by decide +kernel
theorem t_640 : lw_tbl[640]? = some (.instanceMethod yX3_match) := by decide +kernel
theorem t_641 : lw_tbl[641]? = some (.selects RX3 yX3_match yX3_match) := by decide +kernel
theorem t_642 : lw_tbl[642]? = some (.code yX3_match cX3_match 5 (some FieldType.int)) := by decide +kernel
theorem t_643 : lw_tbl[643]? = some (.methodLink RX3 235 yX3_requireTwoDone) := by decide +kernel
theorem t_644 : lw_tbl[644]? = some (.static yX3_requireTwoDone) := by decide +kernel
theorem t_645 : lw_tbl[645]? = some (.code yX3_requireTwoDone cX3_requireTwoDone 4 (none : Option FieldType)) := by decide +kernel
theorem t_646 : lw_tbl[646]? = some (.stringRef RX3 280 "both pieces are the same") := by decide +kernel
theorem t_647 : lw_tbl[647]? = some (.methodLink RX3 239 yX2_countMatching) := by decide +kernel
theorem t_648 : lw_tbl[648]? = some (.instanceMethod yX2_countMatching) := by decide +kernel
theorem t_649 : lw_tbl[649]? = some (.selects RX2 yX2_countMatching yX2_countMatching) := by decide +kernel
theorem t_650 : lw_tbl[650]? = some (.code yX2_countMatching cX2_countMatching 4 (some FieldType.int)) := by decide +kernel
theorem t_651 : lw_tbl[651]? = some (.methodLink RL 148 yL_join) := by decide +kernel
theorem t_652 : lw_tbl[652]? = some (.static yL_join) := by decide +kernel
theorem t_653 : lw_tbl[653]? = some (.codeWith yL_join cL_join 5 (some FieldType.int) [(0, 17, 20, 24), (0, 17, 24, 13), (0, 17, 28, 15)]) := by decide +kernel
theorem t_654 : lw_tbl[654]? = some (.methodLink RL 68 yX3_join) := by decide +kernel
theorem t_655 : lw_tbl[655]? = some (.instanceMethod yX3_join) := by decide +kernel
theorem t_656 : lw_tbl[656]? = some (.selects RX3 yX3_join yX3_join) := by decide +kernel
theorem t_657 : lw_tbl[657]? = some (.code yX3_join cX3_join 6 (some FieldType.boolean)) := by decide +kernel
theorem t_658 : lw_tbl[658]? = some (.stringRef RX3 242 "the pieces have not as many rows") := by decide +kernel
theorem t_659 : lw_tbl[659]? = some (.stringRef RX3 244 "the pieces have too many columns together") := by decide +kernel
theorem t_660 : lw_tbl[660]? = some (.methodLink RX3 246 yX3_dropPiece) := by decide +kernel
theorem t_662 : lw_tbl[662]? = some (.instanceMethod yX3_dropPiece) := by decide +kernel
theorem t_663 : lw_tbl[663]? = some (.code yX3_dropPiece cX3_dropPiece 2 (none : Option FieldType)) := by decide +kernel
theorem t_664 : lw_tbl[664]? = some (.methodLink RX3 249 yX2_isTrueAhead) := by decide +kernel
theorem t_665 : lw_tbl[665]? = some (.instanceMethod yX2_isTrueAhead) := by decide +kernel
theorem t_666 : lw_tbl[666]? = some (.selects RX2 yX2_isTrueAhead yX2_isTrueAhead) := by decide +kernel
theorem t_667 : lw_tbl[667]? = some (.code yX2_isTrueAhead cX2_isTrueAhead 2 (some FieldType.boolean)) := by decide +kernel
theorem t_668 : lw_tbl[668]? = some (.methodLink RL 151 yL_isTrue) := by decide +kernel
theorem t_669 : lw_tbl[669]? = some (.static yL_isTrue) := by decide +kernel
theorem t_670 : lw_tbl[670]? = some (.codeWith yL_isTrue cL_isTrue 4 (some FieldType.int) [(0, 16, 19, 24)]) := by decide +kernel
theorem t_671 : lw_tbl[671]? = some (.methodLink RL 71 yX3_isTrue) := by decide +kernel
theorem t_672 : lw_tbl[672]? = some (.instanceMethod yX3_isTrue) := by decide +kernel
theorem t_673 : lw_tbl[673]? = some (.selects RX3 yX3_isTrue yX3_isTrue) := by decide +kernel
theorem t_674 : lw_tbl[674]? = some (.code yX3_isTrue cX3_isTrue 2 (some FieldType.boolean)) := by decide +kernel
theorem t_675 : lw_tbl[675]? = some (.methodLink RX3 252 yX2_isAllTrue) := by decide +kernel
theorem t_676 : lw_tbl[676]? = some (.instanceMethod yX2_isAllTrue) := by decide +kernel
theorem t_677 : lw_tbl[677]? = some (.selects RX2 yX2_isAllTrue yX2_isAllTrue) := by decide +kernel
theorem t_678 : lw_tbl[678]? = some (.code yX2_isAllTrue cX2_isAllTrue 2 (some FieldType.boolean)) := by decide +kernel
theorem t_679 : lw_tbl[679]? = some (.methodLink RX2 131 yX2_isTrueAhead) := by decide +kernel
theorem t_680 : lw_tbl[680]? = some (.methodLink RL 154 yL_likeness) := by decide +kernel
theorem t_681 : lw_tbl[681]? = some (.static yL_likeness) := by decide +kernel
theorem t_682 : lw_tbl[682]? = some (.codeWith yL_likeness cL_likeness 5 (some FieldType.int) [(0, 10, 13, 24)]) := by decide +kernel
theorem t_683 : lw_tbl[683]? = some (.methodLink RL 75 yX3_likeness) := by decide +kernel
theorem t_684 : lw_tbl[684]? = some (.instanceMethod yX3_likeness) := by decide +kernel
theorem t_685 : lw_tbl[685]? = some (.selects RX3 yX3_likeness yX3_likeness) := by decide +kernel
theorem t_686 : lw_tbl[686]? = some (.code yX3_likeness cX3_likeness 5 (some FieldType.int)) := by decide +kernel
theorem t_687 : lw_tbl[687]? = some (.methodLink RX3 255 yX2_countLike) := by decide +kernel
theorem t_688 : lw_tbl[688]? = some (.instanceMethod yX2_countLike) := by decide +kernel
theorem t_689 : lw_tbl[689]? = some (.selects RX2 yX2_countLike yX2_countLike) := by decide +kernel
theorem t_690 : lw_tbl[690]? = some (.code yX2_countLike cX2_countLike 6 (some FieldType.int)) := by decide +kernel
theorem t_691 : lw_tbl[691]? = some (.methodLink RX3 259 yJ9_max_7cf53) := by decide +kernel
theorem t_692 : lw_tbl[692]? = some (.classLink RL 79 RX4) := by decide +kernel
theorem t_693 : lw_tbl[693]? = some (.instantiable RX4 28) := by decide +kernel
theorem t_694 : lw_tbl[694]? = some (.methodLink RL 81 yX4_init) := by decide +kernel
theorem t_695 : lw_tbl[695]? = some (.instanceMethod yX4_init) := by decide +kernel
theorem t_696 : lw_tbl[696]? = some (.code yX4_init cX4_init 1 (none : Option FieldType)) := by decide +kernel
theorem t_697 : lw_tbl[697]? = some (.methodLink RX4 1 ⟨"java/lang/Object", "<init>", "()V"⟩) := by decide +kernel
theorem t_698 : lw_tbl[698]? = some (.fieldLink RX4 98 RX4 "letters" "I") := by decide +kernel
theorem t_699 : lw_tbl[699]? = some (.fieldLink RX4 7 RX4 "word" "[I") := by decide +kernel
theorem t_700 : lw_tbl[700]? = some (.fieldLink RX4 84 RX4 "cartoons" "I") := by decide +kernel
theorem t_701 : lw_tbl[701]? = some (.fieldLink RX4 13 RX4 "width" "[I") := by decide +kernel
theorem t_702 : lw_tbl[702]? = some (.fieldLink RX4 16 RX4 "height" "[I") := by decide +kernel
theorem t_703 : lw_tbl[703]? = some (.fieldLink RX4 19 RX4 "first" "[I") := by decide +kernel
theorem t_704 : lw_tbl[704]? = some (.fieldLink RX4 22 RX4 "second" "[I") := by decide +kernel
theorem t_705 : lw_tbl[705]? = some (.fieldLink RX4 25 RX4 "drawn" "[I") := by decide +kernel
theorem t_706 : lw_tbl[706]? = some (.fieldLink RX4 112 RX4 "lots" "I") := by decide +kernel
theorem t_707 : lw_tbl[707]? = some (.fieldLink RX4 28 RX4 "colourOf" "[I") := by decide +kernel
theorem t_708 : lw_tbl[708]? = some (.fieldLink RX4 31 RX4 "had" "[I") := by decide +kernel
theorem t_709 : lw_tbl[709]? = some (.fieldLink RX4 34 RX4 "left" "[I") := by decide +kernel
theorem t_710 : lw_tbl[710]? = some (.fieldLink RX4 37 RX4 "fade" "[I") := by decide +kernel
theorem t_711 : lw_tbl[711]? = some (.fieldLink RX4 40 RX4 "bleeds" "[Z") := by decide +kernel
theorem t_712 : lw_tbl[712]? = some (.fieldLink RX4 91 RX4 "pieces" "I") := by decide +kernel
theorem t_713 : lw_tbl[713]? = some (.fieldLink RX4 44 RX4 "columns" "[I") := by decide +kernel
theorem t_714 : lw_tbl[714]? = some (.fieldLink RX4 47 RX4 "rows" "[I") := by decide +kernel
theorem t_715 : lw_tbl[715]? = some (.fieldLink RX4 50 RX4 "weavers" "[I") := by decide +kernel
theorem t_716 : lw_tbl[716]? = some (.fieldLink RX4 53 RX4 "isGone" "[Z") := by decide +kernel
theorem t_717 : lw_tbl[717]? = some (.fieldLink RX4 56 RX4 "woven" "[I") := by decide +kernel
theorem t_718 : lw_tbl[718]? = some (.fieldLink RX4 59 RX4 "wide" "[I") := by decide +kernel
theorem t_719 : lw_tbl[719]? = some (.fieldLink RX4 62 RX4 "fromPiece" "[I") := by decide +kernel
theorem t_720 : lw_tbl[720]? = some (.fieldLink RX4 65 RX4 "fromColumn" "[I") := by decide +kernel
theorem t_721 : lw_tbl[721]? = some (.fieldLink RX4 68 RX4 "isSewn" "[Z") := by decide +kernel
theorem t_722 : lw_tbl[722]? = some (.fieldLink RX4 71 RX4 "colour" "[I") := by decide +kernel
theorem t_723 : lw_tbl[723]? = some (.fieldLink RX4 74 RX4 "lot" "[I") := by decide +kernel
theorem t_724 : lw_tbl[724]? = some (.fieldLink RX4 77 RX4 "shade" "[I") := by decide +kernel
theorem t_725 : lw_tbl[725]? = some (.fieldLink RX4 80 RX4 "thrown" "I") := by decide +kernel
theorem t_783 : lw_tbl[783]? = some (.methodLink RL 88 yX4_thrown) := by decide +kernel
theorem t_784 : lw_tbl[784]? = some (.instanceMethod yX4_thrown) := by decide +kernel
theorem t_785 : lw_tbl[785]? = some (.selects RX4 yX4_thrown yX4_thrown) := by decide +kernel
theorem t_786 : lw_tbl[786]? = some (.code yX4_thrown cX4_thrown 1 (some FieldType.int)) := by decide +kernel
theorem t_787 : lw_tbl[787]? = some (.methodLink RL 87 yX4_type) := by decide +kernel
theorem t_788 : lw_tbl[788]? = some (.instanceMethod yX4_type) := by decide +kernel
theorem t_789 : lw_tbl[789]? = some (.selects RX4 yX4_type yX4_type) := by decide +kernel
theorem t_790 : lw_tbl[790]? = some (.code yX4_type cX4_type 2 (some FieldType.int)) := by decide +kernel
theorem t_791 : lw_tbl[791]? = some (.methodLink RX4 94 yX4_numberOf) := by decide +kernel
theorem t_792 : lw_tbl[792]? = some (.static yX4_numberOf) := by decide +kernel
theorem t_793 : lw_tbl[793]? = some (.code yX4_numberOf cX4_numberOf 1 (some FieldType.int)) := by decide +kernel
theorem t_794 : lw_tbl[794]? = some (.methodLink RX4 101 yX4_goes) := by decide +kernel
theorem t_796 : lw_tbl[796]? = some (.instanceMethod yX4_goes) := by decide +kernel
theorem t_797 : lw_tbl[797]? = some (.code yX4_goes cX4_goes 4 (some FieldType.boolean)) := by decide +kernel
theorem t_798 : lw_tbl[798]? = some (.methodLink RL 95 yX4_empty) := by decide +kernel
theorem t_799 : lw_tbl[799]? = some (.instanceMethod yX4_empty) := by decide +kernel
theorem t_800 : lw_tbl[800]? = some (.selects RX4 yX4_empty yX4_empty) := by decide +kernel
theorem t_801 : lw_tbl[801]? = some (.code yX4_empty cX4_empty 2 (some FieldType.int)) := by decide +kernel
theorem t_802 : lw_tbl[802]? = some (.methodLink RL 99 yX4_cartoon) := by decide +kernel
theorem t_803 : lw_tbl[803]? = some (.instanceMethod yX4_cartoon) := by decide +kernel
theorem t_804 : lw_tbl[804]? = some (.selects RX4 yX4_cartoon yX4_cartoon) := by decide +kernel
theorem t_805 : lw_tbl[805]? = some (.code yX4_cartoon cX4_cartoon 2 (some FieldType.int)) := by decide +kernel
theorem t_806 : lw_tbl[806]? = some (.methodLink RX4 87 yX4_in) := by decide +kernel
theorem t_807 : lw_tbl[807]? = some (.static yX4_in) := by decide +kernel
theorem t_808 : lw_tbl[808]? = some (.code yX4_in cX4_in 3 (some FieldType.boolean)) := by decide +kernel
theorem t_809 : lw_tbl[809]? = some (.methodLink RL 102 yX4_row) := by decide +kernel
theorem t_810 : lw_tbl[810]? = some (.instanceMethod yX4_row) := by decide +kernel
theorem t_811 : lw_tbl[811]? = some (.selects RX4 yX4_row yX4_row) := by decide +kernel
theorem t_812 : lw_tbl[812]? = some (.code yX4_row cX4_row 4 (some FieldType.int)) := by decide +kernel
theorem t_813 : lw_tbl[813]? = some (.methodLink RX4 105 yX4_isCartoon) := by decide +kernel
theorem t_815 : lw_tbl[815]? = some (.instanceMethod yX4_isCartoon) := by decide +kernel
theorem t_816 : lw_tbl[816]? = some (.code yX4_isCartoon cX4_isCartoon 2 (some FieldType.boolean)) := by decide +kernel
theorem t_817 : lw_tbl[817]? = some (.methodLink RL 106 yX4_hatch) := by decide +kernel
theorem t_818 : lw_tbl[818]? = some (.instanceMethod yX4_hatch) := by decide +kernel
theorem t_819 : lw_tbl[819]? = some (.selects RX4 yX4_hatch yX4_hatch) := by decide +kernel
theorem t_820 : lw_tbl[820]? = some (.code yX4_hatch cX4_hatch 4 (none : Option FieldType)) := by decide +kernel
theorem t_821 : lw_tbl[821]? = some (.methodLink RX4 109 yX4_isColour) := by decide +kernel
theorem t_822 : lw_tbl[822]? = some (.static yX4_isColour) := by decide +kernel
theorem t_823 : lw_tbl[823]? = some (.code yX4_isColour cX4_isColour 1 (some FieldType.boolean)) := by decide +kernel
theorem t_824 : lw_tbl[824]? = some (.methodLink RL 110 yX4_dye) := by decide +kernel
theorem t_825 : lw_tbl[825]? = some (.instanceMethod yX4_dye) := by decide +kernel
theorem t_826 : lw_tbl[826]? = some (.selects RX4 yX4_dye yX4_dye) := by decide +kernel
theorem t_827 : lw_tbl[827]? = some (.code yX4_dye cX4_dye 5 (some FieldType.int)) := by decide +kernel
theorem t_828 : lw_tbl[828]? = some (.methodLink RL 113 yX4_left) := by decide +kernel
theorem t_829 : lw_tbl[829]? = some (.instanceMethod yX4_left) := by decide +kernel
theorem t_830 : lw_tbl[830]? = some (.selects RX4 yX4_left yX4_left) := by decide +kernel
theorem t_831 : lw_tbl[831]? = some (.code yX4_left cX4_left 2 (some FieldType.int)) := by decide +kernel
theorem t_832 : lw_tbl[832]? = some (.methodLink RL 117 yX4_gold) := by decide +kernel
theorem t_833 : lw_tbl[833]? = some (.instanceMethod yX4_gold) := by decide +kernel
theorem t_834 : lw_tbl[834]? = some (.selects RX4 yX4_gold yX4_gold) := by decide +kernel
theorem t_835 : lw_tbl[835]? = some (.code yX4_gold cX4_gold 3 (some FieldType.int)) := by decide +kernel
theorem t_836 : lw_tbl[836]? = some (.methodLink RX4 119 yX4_wovenOf) := by decide +kernel
theorem t_838 : lw_tbl[838]? = some (.instanceMethod yX4_wovenOf) := by decide +kernel
theorem t_839 : lw_tbl[839]? = some (.code yX4_wovenOf cX4_wovenOf 5 (some FieldType.int)) := by decide +kernel
theorem t_840 : lw_tbl[840]? = some (.methodLink RX4 115 yX4_at) := by decide +kernel
theorem t_841 : lw_tbl[841]? = some (.static yX4_at) := by decide +kernel
theorem t_842 : lw_tbl[842]? = some (.code yX4_at cX4_at 3 (some FieldType.int)) := by decide +kernel
theorem t_843 : lw_tbl[843]? = some (.methodLink RL 121 yX4_loom) := by decide +kernel
theorem t_844 : lw_tbl[844]? = some (.instanceMethod yX4_loom) := by decide +kernel
theorem t_845 : lw_tbl[845]? = some (.selects RX4 yX4_loom yX4_loom) := by decide +kernel
theorem t_846 : lw_tbl[846]? = some (.code yX4_loom cX4_loom 9 (some FieldType.int)) := by decide +kernel
theorem t_847 : lw_tbl[847]? = some (.methodLink RX4 123 yX4_setsColumn) := by decide +kernel
theorem t_849 : lw_tbl[849]? = some (.instanceMethod yX4_setsColumn) := by decide +kernel
theorem t_850 : lw_tbl[850]? = some (.code yX4_setsColumn cX4_setsColumn 5 (none : Option FieldType)) := by decide +kernel
theorem t_851 : lw_tbl[851]? = some (.methodLink RX4 127 yX4_drawnAt) := by decide +kernel
theorem t_853 : lw_tbl[853]? = some (.instanceMethod yX4_drawnAt) := by decide +kernel
theorem t_854 : lw_tbl[854]? = some (.code yX4_drawnAt cX4_drawnAt 5 (some FieldType.int)) := by decide +kernel
theorem t_855 : lw_tbl[855]? = some (.methodLink RL 125 yX4_weave) := by decide +kernel
theorem t_856 : lw_tbl[856]? = some (.instanceMethod yX4_weave) := by decide +kernel
theorem t_857 : lw_tbl[857]? = some (.selects RX4 yX4_weave yX4_weave) := by decide +kernel
theorem t_858 : lw_tbl[858]? = some (.code yX4_weave cX4_weave 7 (some FieldType.int)) := by decide +kernel
theorem t_859 : lw_tbl[859]? = some (.methodLink RX4 133 yX4_isPiece) := by decide +kernel
theorem t_861 : lw_tbl[861]? = some (.instanceMethod yX4_isPiece) := by decide +kernel
theorem t_862 : lw_tbl[862]? = some (.code yX4_isPiece cX4_isPiece 2 (some FieldType.boolean)) := by decide +kernel
theorem t_863 : lw_tbl[863]? = some (.methodLink RX4 136 yX4_mayWeave) := by decide +kernel
theorem t_865 : lw_tbl[865]? = some (.instanceMethod yX4_mayWeave) := by decide +kernel
theorem t_866 : lw_tbl[866]? = some (.code yX4_mayWeave cX4_mayWeave 6 (some FieldType.boolean)) := by decide +kernel
theorem t_867 : lw_tbl[867]? = some (.methodLink RX4 140 yX4_weaves) := by decide +kernel
theorem t_869 : lw_tbl[869]? = some (.instanceMethod yX4_weaves) := by decide +kernel
theorem t_870 : lw_tbl[870]? = some (.code yX4_weaves cX4_weaves 9 (some FieldType.boolean)) := by decide +kernel
theorem t_871 : lw_tbl[871]? = some (.methodLink RX4 130 yX4_giver) := by decide +kernel
theorem t_873 : lw_tbl[873]? = some (.instanceMethod yX4_giver) := by decide +kernel
theorem t_874 : lw_tbl[874]? = some (.code yX4_giver cX4_giver 4 (some FieldType.int)) := by decide +kernel
theorem t_875 : lw_tbl[875]? = some (.methodLink RL 128 yX4_pieceIs) := by decide +kernel
theorem t_876 : lw_tbl[876]? = some (.instanceMethod yX4_pieceIs) := by decide +kernel
theorem t_877 : lw_tbl[877]? = some (.selects RX4 yX4_pieceIs yX4_pieceIs) := by decide +kernel
theorem t_878 : lw_tbl[878]? = some (.code yX4_pieceIs cX4_pieceIs 3 (some FieldType.int)) := by decide +kernel
theorem t_879 : lw_tbl[879]? = some (.methodLink RX4 153 yX4_wovenIn) := by decide +kernel
theorem t_881 : lw_tbl[881]? = some (.instanceMethod yX4_wovenIn) := by decide +kernel
theorem t_882 : lw_tbl[882]? = some (.code yX4_wovenIn cX4_wovenIn 4 (some FieldType.int)) := by decide +kernel
theorem t_883 : lw_tbl[883]? = some (.methodLink RX4 147 yX4_isDone) := by decide +kernel
theorem t_885 : lw_tbl[885]? = some (.instanceMethod yX4_isDone) := by decide +kernel
theorem t_886 : lw_tbl[886]? = some (.code yX4_isDone cX4_isDone 4 (some FieldType.boolean)) := by decide +kernel
theorem t_887 : lw_tbl[887]? = some (.methodLink RX4 156 yX4_slits) := by decide +kernel
theorem t_889 : lw_tbl[889]? = some (.instanceMethod yX4_slits) := by decide +kernel
theorem t_890 : lw_tbl[890]? = some (.code yX4_slits cX4_slits 4 (some FieldType.int)) := by decide +kernel
theorem t_891 : lw_tbl[891]? = some (.methodLink RX4 150 yX4_isSlit) := by decide +kernel
theorem t_893 : lw_tbl[893]? = some (.instanceMethod yX4_isSlit) := by decide +kernel
theorem t_894 : lw_tbl[894]? = some (.code yX4_isSlit cX4_isSlit 6 (some FieldType.boolean)) := by decide +kernel
theorem t_895 : lw_tbl[895]? = some (.methodLink RX4 144 yX4_isUnlike) := by decide +kernel
theorem t_897 : lw_tbl[897]? = some (.instanceMethod yX4_isUnlike) := by decide +kernel
theorem t_898 : lw_tbl[898]? = some (.code yX4_isUnlike cX4_isUnlike 4 (some FieldType.boolean)) := by decide +kernel
theorem t_899 : lw_tbl[899]? = some (.methodLink RX4 159 yX4_shades) := by decide +kernel
theorem t_901 : lw_tbl[901]? = some (.instanceMethod yX4_shades) := by decide +kernel
theorem t_902 : lw_tbl[902]? = some (.code yX4_shades cX4_shades 4 (some FieldType.int)) := by decide +kernel
theorem t_903 : lw_tbl[903]? = some (.methodLink RL 132 yX4_cell) := by decide +kernel
theorem t_904 : lw_tbl[904]? = some (.instanceMethod yX4_cell) := by decide +kernel
theorem t_905 : lw_tbl[905]? = some (.selects RX4 yX4_cell yX4_cell) := by decide +kernel
theorem t_906 : lw_tbl[906]? = some (.code yX4_cell cX4_cell 7 (some FieldType.int)) := by decide +kernel
theorem t_907 : lw_tbl[907]? = some (.methodLink RL 135 yX4_sew) := by decide +kernel
theorem t_908 : lw_tbl[908]? = some (.instanceMethod yX4_sew) := by decide +kernel
theorem t_909 : lw_tbl[909]? = some (.selects RX4 yX4_sew yX4_sew) := by decide +kernel
theorem t_910 : lw_tbl[910]? = some (.code yX4_sew cX4_sew 5 (some FieldType.boolean)) := by decide +kernel
theorem t_911 : lw_tbl[911]? = some (.methodLink RX4 162 yX4_isInner) := by decide +kernel
theorem t_913 : lw_tbl[913]? = some (.instanceMethod yX4_isInner) := by decide +kernel
theorem t_914 : lw_tbl[914]? = some (.code yX4_isInner cX4_isInner 3 (some FieldType.boolean)) := by decide +kernel
theorem t_915 : lw_tbl[915]? = some (.methodLink RL 138 yX4_light) := by decide +kernel
theorem t_916 : lw_tbl[916]? = some (.instanceMethod yX4_light) := by decide +kernel
theorem t_917 : lw_tbl[917]? = some (.selects RX4 yX4_light yX4_light) := by decide +kernel
theorem t_918 : lw_tbl[918]? = some (.code yX4_light cX4_light 7 (some FieldType.int)) := by decide +kernel
theorem t_919 : lw_tbl[919]? = some (.methodLink RL 141 yX4_wash) := by decide +kernel
theorem t_920 : lw_tbl[920]? = some (.instanceMethod yX4_wash) := by decide +kernel
theorem t_921 : lw_tbl[921]? = some (.selects RX4 yX4_wash yX4_wash) := by decide +kernel
theorem t_922 : lw_tbl[922]? = some (.code yX4_wash cX4_wash 8 (some FieldType.int)) := by decide +kernel
theorem t_923 : lw_tbl[923]? = some (.methodLink RX4 165 yX4_runs) := by decide +kernel
theorem t_925 : lw_tbl[925]? = some (.instanceMethod yX4_runs) := by decide +kernel
theorem t_926 : lw_tbl[926]? = some (.code yX4_runs cX4_runs 7 (some FieldType.int)) := by decide +kernel
theorem t_927 : lw_tbl[927]? = some (.methodLink RL 144 yX4_cut) := by decide +kernel
theorem t_928 : lw_tbl[928]? = some (.instanceMethod yX4_cut) := by decide +kernel
theorem t_929 : lw_tbl[929]? = some (.selects RX4 yX4_cut yX4_cut) := by decide +kernel
theorem t_930 : lw_tbl[930]? = some (.code yX4_cut cX4_cut 5 (some FieldType.int)) := by decide +kernel
theorem t_931 : lw_tbl[931]? = some (.methodLink RX4 169 yX4_copies) := by decide +kernel
theorem t_933 : lw_tbl[933]? = some (.instanceMethod yX4_copies) := by decide +kernel
theorem t_934 : lw_tbl[934]? = some (.code yX4_copies cX4_copies 8 (none : Option FieldType)) := by decide +kernel
theorem t_935 : lw_tbl[935]? = some (.methodLink RL 147 yX4_match) := by decide +kernel
theorem t_936 : lw_tbl[936]? = some (.instanceMethod yX4_match) := by decide +kernel
theorem t_937 : lw_tbl[937]? = some (.selects RX4 yX4_match yX4_match) := by decide +kernel
theorem t_938 : lw_tbl[938]? = some (.code yX4_match cX4_match 6 (some FieldType.int)) := by decide +kernel
theorem t_939 : lw_tbl[939]? = some (.methodLink RL 150 yX4_join) := by decide +kernel
theorem t_940 : lw_tbl[940]? = some (.instanceMethod yX4_join) := by decide +kernel
theorem t_941 : lw_tbl[941]? = some (.selects RX4 yX4_join yX4_join) := by decide +kernel
theorem t_942 : lw_tbl[942]? = some (.code yX4_join cX4_join 7 (some FieldType.boolean)) := by decide +kernel
theorem t_943 : lw_tbl[943]? = some (.methodLink RX4 172 yX4_isRight) := by decide +kernel
theorem t_945 : lw_tbl[945]? = some (.instanceMethod yX4_isRight) := by decide +kernel
theorem t_946 : lw_tbl[946]? = some (.code yX4_isRight cX4_isRight 4 (some FieldType.boolean)) := by decide +kernel
theorem t_947 : lw_tbl[947]? = some (.methodLink RL 153 yX4_isTrue) := by decide +kernel
theorem t_948 : lw_tbl[948]? = some (.instanceMethod yX4_isTrue) := by decide +kernel
theorem t_949 : lw_tbl[949]? = some (.selects RX4 yX4_isTrue yX4_isTrue) := by decide +kernel
theorem t_950 : lw_tbl[950]? = some (.code yX4_isTrue cX4_isTrue 4 (some FieldType.boolean)) := by decide +kernel
theorem t_951 : lw_tbl[951]? = some (.methodLink RL 156 yX4_likeness) := by decide +kernel
theorem t_952 : lw_tbl[952]? = some (.instanceMethod yX4_likeness) := by decide +kernel
theorem t_953 : lw_tbl[953]? = some (.selects RX4 yX4_likeness yX4_likeness) := by decide +kernel
theorem t_954 : lw_tbl[954]? = some (.code yX4_likeness cX4_likeness 9 (some FieldType.int)) := by decide +kernel
theorem t_955 : lw_tbl[955]? = some (.methodLink RL 161 yX4_balances) := by decide +kernel
theorem t_956 : lw_tbl[956]? = some (.instanceMethod yX4_balances) := by decide +kernel
theorem t_957 : lw_tbl[957]? = some (.selects RX4 yX4_balances yX4_balances) := by decide +kernel
theorem t_958 : lw_tbl[958]? = some (.code yX4_balances cX4_balances 3 (some FieldType.boolean)) := by decide +kernel
theorem KK.all {g : GT} {s : State} {args : Array Value} (h : KK g s) (ws : List Cond) (ps : List Nat) (hp : ws = ps.filterMap (fun i => lw_tbl[i]?)) (hk : ws.all kw = true) : ∀ w ∈ ws, w.before args s = true := by
  intro w hw
  have h1 := List.all_eq_true.mp hk w hw
  rw [hp] at hw
  obtain ⟨i, -, hi⟩ := List.mem_filterMap.mp hw
  exact h.b i hi h1
theorem lay_X0 {g : GT} {s : State} {args : Array Value} (h : KK g s) : ∀ w ∈ u_ws RX0 TX0 5, w.before args s = true := h.all _ [268, 270, 272, 274, 276] (by decide +kernel) (by decide +kernel)
theorem lay_X1 {g : GT} {s : State} {args : Array Value} (h : KK g s) : ∀ w ∈ u_ws RX1 TX1 6, w.before args s = true := h.all _ [68, 70, 72, 74, 76, 78] (by decide +kernel) (by decide +kernel)
theorem lay_X2 {g : GT} {s : State} {args : Array Value} (h : KK g s) : ∀ w ∈ u_ws RX2 TX2 9, w.before args s = true := h.all _ [397, 399, 401, 403, 405, 407, 409, 411, 413] (by decide +kernel) (by decide +kernel)
theorem lay_X3 {g : GT} {s : State} {args : Array Value} (h : KK g s) : ∀ w ∈ u_ws RX3 TX3 8, w.before args s = true := h.all _ [93, 95, 97, 99, 101, 103, 105, 107] (by decide +kernel) (by decide +kernel)
theorem lay_X4 {g : GT} {s : State} {args : Array Value} (h : KK g s) : ∀ w ∈ u_ws RX4 TX4 28, w.before args s = true := h.all _ [726, 728, 730, 732, 734, 736, 738, 740, 742, 744, 746, 748, 750, 752, 754, 756, 758, 760, 762, 764, 766, 768, 770, 772, 774, 776, 778, 780] (by decide +kernel) (by decide +kernel)
set_option maxRecDepth 20000 in
theorem at_A {g : GT} {s : State} {args : Array Value} (h : KK g s) : ∀ w ∈ vx_atS RX3 53 "java/lang/IllegalArgumentException" ["java/lang/RuntimeException", "java/lang/Exception"], w.before args s = true := h.all _ [37, 186, 195, 199, 202, 204, 187, 188, 52, 53, 189, 194, 200, 220, 176, 221, 178, 222, 180, 190, 192, 182, 216, 217, 219, 182, 207, 208, 209, 210, 168, 210, 211, 212, 213, 170, 213, 214, 215, 216, 172, 206, 165, 166, 173, 174, 175, 177, 179, 181, 185, 184, 183] (by decide +kernel) (by decide +kernel)
set_option maxRecDepth 20000 in
theorem ao_A : ∀ w ∈ Cond.classLink RX3 49 "java/lang/IllegalArgumentException" :: Cond.initialized "java/lang/IllegalArgumentException" :: vx_atS RX3 53 "java/lang/IllegalArgumentException" ["java/lang/RuntimeException", "java/lang/Exception"], vx_ot w = true := List.all_eq_true.mp (by decide +kernel)
set_option maxRecDepth 20000 in
theorem at_S {g : GT} {s : State} {args : Array Value} (h : KK g s) : ∀ w ∈ vx_atS RX3 60 "java/lang/IllegalStateException" ["java/lang/RuntimeException", "java/lang/Exception"], w.before args s = true := h.all _ [37, 186, 195, 199, 202, 204, 187, 188, 52, 53, 189, 194, 200, 220, 176, 221, 178, 222, 180, 190, 192, 182, 216, 217, 219, 182, 243, 244, 245, 210, 168, 210, 211, 212, 213, 170, 213, 214, 215, 216, 172, 242, 233, 234, 235, 197, 236, 237, 238, 239, 185, 184, 240] (by decide +kernel) (by decide +kernel)
set_option maxRecDepth 20000 in
theorem ao_S : ∀ w ∈ Cond.classLink RX3 56 "java/lang/IllegalStateException" :: Cond.initialized "java/lang/IllegalStateException" :: vx_atS RX3 60 "java/lang/IllegalStateException" ["java/lang/RuntimeException", "java/lang/Exception"], vx_ot w = true := List.all_eq_true.mp (by decide +kernel)
set_option maxRecDepth 20000 in
theorem at_B {g : GT} {s : State} {args : Array Value} (h : KK g s) : ∀ w ∈ vx_atS RX3 115 "java/lang/IndexOutOfBoundsException" ["java/lang/RuntimeException", "java/lang/Exception"], w.before args s = true := h.all _ [37, 186, 195, 199, 202, 204, 187, 188, 52, 53, 189, 194, 200, 220, 176, 221, 178, 222, 180, 190, 192, 182, 216, 217, 219, 182, 302, 303, 304, 210, 168, 210, 211, 212, 213, 170, 213, 214, 215, 216, 172, 301, 292, 293, 294, 198, 295, 296, 297, 298, 185, 184, 299] (by decide +kernel) (by decide +kernel)
set_option maxRecDepth 20000 in
theorem ao_B : ∀ w ∈ Cond.classLink RX3 111 "java/lang/IndexOutOfBoundsException" :: Cond.initialized "java/lang/IndexOutOfBoundsException" :: vx_atS RX3 115 "java/lang/IndexOutOfBoundsException" ["java/lang/RuntimeException", "java/lang/Exception"], vx_ot w = true := List.all_eq_true.mp (by decide +kernel)
theorem f_yL_cartoon : (yL_cartoon.cls ≠ "java/lang/invoke/MethodHandle" ∧ yL_cartoon.cls ≠ "java/lang/invoke/VarHandle") ∧ (parseMethodDescriptor yL_cartoon.desc).map (fun d => d.parameters.length) = some 3 := by decide +kernel
theorem f_yL_cell : (yL_cell.cls ≠ "java/lang/invoke/MethodHandle" ∧ yL_cell.cls ≠ "java/lang/invoke/VarHandle") ∧ (parseMethodDescriptor yL_cell.desc).map (fun d => d.parameters.length) = some 6 := by decide +kernel
theorem f_yL_cut : (yL_cut.cls ≠ "java/lang/invoke/MethodHandle" ∧ yL_cut.cls ≠ "java/lang/invoke/VarHandle") ∧ (parseMethodDescriptor yL_cut.desc).map (fun d => d.parameters.length) = some 4 := by decide +kernel
theorem f_yL_dye : (yL_dye.cls ≠ "java/lang/invoke/MethodHandle" ∧ yL_dye.cls ≠ "java/lang/invoke/VarHandle") ∧ (parseMethodDescriptor yL_dye.desc).map (fun d => d.parameters.length) = some 6 := by decide +kernel
theorem f_yL_hatch : (yL_hatch.cls ≠ "java/lang/invoke/MethodHandle" ∧ yL_hatch.cls ≠ "java/lang/invoke/VarHandle") ∧ (parseMethodDescriptor yL_hatch.desc).map (fun d => d.parameters.length) = some 4 := by decide +kernel
theorem f_yL_isTrue : (yL_isTrue.cls ≠ "java/lang/invoke/MethodHandle" ∧ yL_isTrue.cls ≠ "java/lang/invoke/VarHandle") ∧ (parseMethodDescriptor yL_isTrue.desc).map (fun d => d.parameters.length) = some 3 := by decide +kernel
theorem f_yL_join : (yL_join.cls ≠ "java/lang/invoke/MethodHandle" ∧ yL_join.cls ≠ "java/lang/invoke/VarHandle") ∧ (parseMethodDescriptor yL_join.desc).map (fun d => d.parameters.length) = some 4 := by decide +kernel
theorem f_yL_law : (yL_law.cls ≠ "java/lang/invoke/MethodHandle" ∧ yL_law.cls ≠ "java/lang/invoke/VarHandle") ∧ (parseMethodDescriptor yL_law.desc).map (fun d => d.parameters.length) = some 1 := by decide +kernel
theorem f_yL_left : (yL_left.cls ≠ "java/lang/invoke/MethodHandle" ∧ yL_left.cls ≠ "java/lang/invoke/VarHandle") ∧ (parseMethodDescriptor yL_left.desc).map (fun d => d.parameters.length) = some 3 := by decide +kernel
theorem f_yL_light : (yL_light.cls ≠ "java/lang/invoke/MethodHandle" ∧ yL_light.cls ≠ "java/lang/invoke/VarHandle") ∧ (parseMethodDescriptor yL_light.desc).map (fun d => d.parameters.length) = some 4 := by decide +kernel
theorem f_yL_likeness : (yL_likeness.cls ≠ "java/lang/invoke/MethodHandle" ∧ yL_likeness.cls ≠ "java/lang/invoke/VarHandle") ∧ (parseMethodDescriptor yL_likeness.desc).map (fun d => d.parameters.length) = some 4 := by decide +kernel
theorem f_yL_loom : (yL_loom.cls ≠ "java/lang/invoke/MethodHandle" ∧ yL_loom.cls ≠ "java/lang/invoke/VarHandle") ∧ (parseMethodDescriptor yL_loom.desc).map (fun d => d.parameters.length) = some 5 := by decide +kernel
theorem f_yL_match : (yL_match.cls ≠ "java/lang/invoke/MethodHandle" ∧ yL_match.cls ≠ "java/lang/invoke/VarHandle") ∧ (parseMethodDescriptor yL_match.desc).map (fun d => d.parameters.length) = some 4 := by decide +kernel
theorem f_yL_pieceIs : (yL_pieceIs.cls ≠ "java/lang/invoke/MethodHandle" ∧ yL_pieceIs.cls ≠ "java/lang/invoke/VarHandle") ∧ (parseMethodDescriptor yL_pieceIs.desc).map (fun d => d.parameters.length) = some 4 := by decide +kernel
theorem f_yL_row : (yL_row.cls ≠ "java/lang/invoke/MethodHandle" ∧ yL_row.cls ≠ "java/lang/invoke/VarHandle") ∧ (parseMethodDescriptor yL_row.desc).map (fun d => d.parameters.length) = some 3 := by decide +kernel
theorem f_yL_sew : (yL_sew.cls ≠ "java/lang/invoke/MethodHandle" ∧ yL_sew.cls ≠ "java/lang/invoke/VarHandle") ∧ (parseMethodDescriptor yL_sew.desc).map (fun d => d.parameters.length) = some 4 := by decide +kernel
theorem f_yL_type : (yL_type.cls ≠ "java/lang/invoke/MethodHandle" ∧ yL_type.cls ≠ "java/lang/invoke/VarHandle") ∧ (parseMethodDescriptor yL_type.desc).map (fun d => d.parameters.length) = some 3 := by decide +kernel
theorem f_yL_wash : (yL_wash.cls ≠ "java/lang/invoke/MethodHandle" ∧ yL_wash.cls ≠ "java/lang/invoke/VarHandle") ∧ (parseMethodDescriptor yL_wash.desc).map (fun d => d.parameters.length) = some 3 := by decide +kernel
theorem f_yL_weave : (yL_weave.cls ≠ "java/lang/invoke/MethodHandle" ∧ yL_weave.cls ≠ "java/lang/invoke/VarHandle") ∧ (parseMethodDescriptor yL_weave.desc).map (fun d => d.parameters.length) = some 4 := by decide +kernel
theorem f_yX0_addRow : (yX0_addRow.cls ≠ "java/lang/invoke/MethodHandle" ∧ yX0_addRow.cls ≠ "java/lang/invoke/VarHandle") ∧ (parseMethodDescriptor yX0_addRow.desc).map (fun d => d.parameters.length) = some 1 := by decide +kernel
theorem f_yX0_colourAt : (yX0_colourAt.cls ≠ "java/lang/invoke/MethodHandle" ∧ yX0_colourAt.cls ≠ "java/lang/invoke/VarHandle") ∧ (parseMethodDescriptor yX0_colourAt.desc).map (fun d => d.parameters.length) = some 3 := by decide +kernel
theorem f_yX0_hatchBetween : (yX0_hatchBetween.cls ≠ "java/lang/invoke/MethodHandle" ∧ yX0_hatchBetween.cls ≠ "java/lang/invoke/VarHandle") ∧ (parseMethodDescriptor yX0_hatchBetween.desc).map (fun d => d.parameters.length) = some 2 := by decide +kernel
theorem f_yX0_height : (yX0_height.cls ≠ "java/lang/invoke/MethodHandle" ∧ yX0_height.cls ≠ "java/lang/invoke/VarHandle") ∧ (parseMethodDescriptor yX0_height.desc).map (fun d => d.parameters.length) = some 0 := by decide +kernel
theorem f_yX0_init : (yX0_init.cls ≠ "java/lang/invoke/MethodHandle" ∧ yX0_init.cls ≠ "java/lang/invoke/VarHandle") ∧ (parseMethodDescriptor yX0_init.desc).map (fun d => d.parameters.length) = some 1 := by decide +kernel
theorem f_yX0_width : (yX0_width.cls ≠ "java/lang/invoke/MethodHandle" ∧ yX0_width.cls ≠ "java/lang/invoke/VarHandle") ∧ (parseMethodDescriptor yX0_width.desc).map (fun d => d.parameters.length) = some 0 := by decide +kernel
theorem f_yX1_add : (yX1_add.cls ≠ "java/lang/invoke/MethodHandle" ∧ yX1_add.cls ≠ "java/lang/invoke/VarHandle") ∧ (parseMethodDescriptor yX1_add.desc).map (fun d => d.parameters.length) = some 4 := by decide +kernel
theorem f_yX1_count : (yX1_count.cls ≠ "java/lang/invoke/MethodHandle" ∧ yX1_count.cls ≠ "java/lang/invoke/VarHandle") ∧ (parseMethodDescriptor yX1_count.desc).map (fun d => d.parameters.length) = some 0 := by decide +kernel
theorem f_yX1_fadeOf : (yX1_fadeOf.cls ≠ "java/lang/invoke/MethodHandle" ∧ yX1_fadeOf.cls ≠ "java/lang/invoke/VarHandle") ∧ (parseMethodDescriptor yX1_fadeOf.desc).map (fun d => d.parameters.length) = some 1 := by decide +kernel
theorem f_yX1_init : (yX1_init.cls ≠ "java/lang/invoke/MethodHandle" ∧ yX1_init.cls ≠ "java/lang/invoke/VarHandle") ∧ (parseMethodDescriptor yX1_init.desc).map (fun d => d.parameters.length) = some 0 := by decide +kernel
theorem f_yX1_isBleeding : (yX1_isBleeding.cls ≠ "java/lang/invoke/MethodHandle" ∧ yX1_isBleeding.cls ≠ "java/lang/invoke/VarHandle") ∧ (parseMethodDescriptor yX1_isBleeding.desc).map (fun d => d.parameters.length) = some 1 := by decide +kernel
theorem f_yX1_takeThread : (yX1_takeThread.cls ≠ "java/lang/invoke/MethodHandle" ∧ yX1_takeThread.cls ≠ "java/lang/invoke/VarHandle") ∧ (parseMethodDescriptor yX1_takeThread.desc).map (fun d => d.parameters.length) = some 1 := by decide +kernel
theorem f_yX1_threadsGivenBy : (yX1_threadsGivenBy.cls ≠ "java/lang/invoke/MethodHandle" ∧ yX1_threadsGivenBy.cls ≠ "java/lang/invoke/VarHandle") ∧ (parseMethodDescriptor yX1_threadsGivenBy.desc).map (fun d => d.parameters.length) = some 1 := by decide +kernel
theorem f_yX1_threadsIn : (yX1_threadsIn.cls ≠ "java/lang/invoke/MethodHandle" ∧ yX1_threadsIn.cls ≠ "java/lang/invoke/VarHandle") ∧ (parseMethodDescriptor yX1_threadsIn.desc).map (fun d => d.parameters.length) = some 1 := by decide +kernel
theorem f_yX1_threadsOfColour : (yX1_threadsOfColour.cls ≠ "java/lang/invoke/MethodHandle" ∧ yX1_threadsOfColour.cls ≠ "java/lang/invoke/VarHandle") ∧ (parseMethodDescriptor yX1_threadsOfColour.desc).map (fun d => d.parameters.length) = some 1 := by decide +kernel
theorem f_yX2_addThreadsTo : (yX2_addThreadsTo.cls ≠ "java/lang/invoke/MethodHandle" ∧ yX2_addThreadsTo.cls ≠ "java/lang/invoke/VarHandle") ∧ (parseMethodDescriptor yX2_addThreadsTo.desc).map (fun d => d.parameters.length) = some 1 := by decide +kernel
theorem f_yX2_append : (yX2_append.cls ≠ "java/lang/invoke/MethodHandle" ∧ yX2_append.cls ≠ "java/lang/invoke/VarHandle") ∧ (parseMethodDescriptor yX2_append.desc).map (fun d => d.parameters.length) = some 2 := by decide +kernel
theorem f_yX2_bleed : (yX2_bleed.cls ≠ "java/lang/invoke/MethodHandle" ∧ yX2_bleed.cls ≠ "java/lang/invoke/VarHandle") ∧ (parseMethodDescriptor yX2_bleed.desc).map (fun d => d.parameters.length) = some 1 := by decide +kernel
theorem f_yX2_colourAt : (yX2_colourAt.cls ≠ "java/lang/invoke/MethodHandle" ∧ yX2_colourAt.cls ≠ "java/lang/invoke/VarHandle") ∧ (parseMethodDescriptor yX2_colourAt.desc).map (fun d => d.parameters.length) = some 2 := by decide +kernel
theorem f_yX2_copyColumn : (yX2_copyColumn.cls ≠ "java/lang/invoke/MethodHandle" ∧ yX2_copyColumn.cls ≠ "java/lang/invoke/VarHandle") ∧ (parseMethodDescriptor yX2_copyColumn.desc).map (fun d => d.parameters.length) = some 3 := by decide +kernel
theorem f_yX2_countInNextRow : (yX2_countInNextRow.cls ≠ "java/lang/invoke/MethodHandle" ∧ yX2_countInNextRow.cls ≠ "java/lang/invoke/VarHandle") ∧ (parseMethodDescriptor yX2_countInNextRow.desc).map (fun d => d.parameters.length) = some 2 := by decide +kernel
theorem f_yX2_countLike : (yX2_countLike.cls ≠ "java/lang/invoke/MethodHandle" ∧ yX2_countLike.cls ≠ "java/lang/invoke/VarHandle") ∧ (parseMethodDescriptor yX2_countLike.desc).map (fun d => d.parameters.length) = some 2 := by decide +kernel
theorem f_yX2_countMatching : (yX2_countMatching.cls ≠ "java/lang/invoke/MethodHandle" ∧ yX2_countMatching.cls ≠ "java/lang/invoke/VarHandle") ∧ (parseMethodDescriptor yX2_countMatching.desc).map (fun d => d.parameters.length) = some 1 := by decide +kernel
theorem f_yX2_countSlits : (yX2_countSlits.cls ≠ "java/lang/invoke/MethodHandle" ∧ yX2_countSlits.cls ≠ "java/lang/invoke/VarHandle") ∧ (parseMethodDescriptor yX2_countSlits.desc).map (fun d => d.parameters.length) = some 0 := by decide +kernel
theorem f_yX2_countWoven : (yX2_countWoven.cls ≠ "java/lang/invoke/MethodHandle" ∧ yX2_countWoven.cls ≠ "java/lang/invoke/VarHandle") ∧ (parseMethodDescriptor yX2_countWoven.desc).map (fun d => d.parameters.length) = some 0 := by decide +kernel
theorem f_yX2_countWovenOf : (yX2_countWovenOf.cls ≠ "java/lang/invoke/MethodHandle" ∧ yX2_countWovenOf.cls ≠ "java/lang/invoke/VarHandle") ∧ (parseMethodDescriptor yX2_countWovenOf.desc).map (fun d => d.parameters.length) = some 1 := by decide +kernel
theorem f_yX2_dim : (yX2_dim.cls ≠ "java/lang/invoke/MethodHandle" ∧ yX2_dim.cls ≠ "java/lang/invoke/VarHandle") ∧ (parseMethodDescriptor yX2_dim.desc).map (fun d => d.parameters.length) = some 3 := by decide +kernel
theorem f_yX2_drawFrom : (yX2_drawFrom.cls ≠ "java/lang/invoke/MethodHandle" ∧ yX2_drawFrom.cls ≠ "java/lang/invoke/VarHandle") ∧ (parseMethodDescriptor yX2_drawFrom.desc).map (fun d => d.parameters.length) = some 3 := by decide +kernel
theorem f_yX2_fade : (yX2_fade.cls ≠ "java/lang/invoke/MethodHandle" ∧ yX2_fade.cls ≠ "java/lang/invoke/VarHandle") ∧ (parseMethodDescriptor yX2_fade.desc).map (fun d => d.parameters.length) = some 2 := by decide +kernel
theorem f_yX2_firstColumnOf : (yX2_firstColumnOf.cls ≠ "java/lang/invoke/MethodHandle" ∧ yX2_firstColumnOf.cls ≠ "java/lang/invoke/VarHandle") ∧ (parseMethodDescriptor yX2_firstColumnOf.desc).map (fun d => d.parameters.length) = some 1 := by decide +kernel
theorem f_yX2_hasSlitAhead : (yX2_hasSlitAhead.cls ≠ "java/lang/invoke/MethodHandle" ∧ yX2_hasSlitAhead.cls ≠ "java/lang/invoke/VarHandle") ∧ (parseMethodDescriptor yX2_hasSlitAhead.desc).map (fun d => d.parameters.length) = some 1 := by decide +kernel
theorem f_yX2_hasWovenAll : (yX2_hasWovenAll.cls ≠ "java/lang/invoke/MethodHandle" ∧ yX2_hasWovenAll.cls ≠ "java/lang/invoke/VarHandle") ∧ (parseMethodDescriptor yX2_hasWovenAll.desc).map (fun d => d.parameters.length) = some 1 := by decide +kernel
theorem f_yX2_height : (yX2_height.cls ≠ "java/lang/invoke/MethodHandle" ∧ yX2_height.cls ≠ "java/lang/invoke/VarHandle") ∧ (parseMethodDescriptor yX2_height.desc).map (fun d => d.parameters.length) = some 0 := by decide +kernel
theorem f_yX2_holds : (yX2_holds.cls ≠ "java/lang/invoke/MethodHandle" ∧ yX2_holds.cls ≠ "java/lang/invoke/VarHandle") ∧ (parseMethodDescriptor yX2_holds.desc).map (fun d => d.parameters.length) = some 2 := by decide +kernel
theorem f_yX2_init : (yX2_init.cls ≠ "java/lang/invoke/MethodHandle" ∧ yX2_init.cls ≠ "java/lang/invoke/VarHandle") ∧ (parseMethodDescriptor yX2_init.desc).map (fun d => d.parameters.length) = some 2 := by decide +kernel
theorem f_yX2_isAboveNeighbour : (yX2_isAboveNeighbour.cls ≠ "java/lang/invoke/MethodHandle" ∧ yX2_isAboveNeighbour.cls ≠ "java/lang/invoke/VarHandle") ∧ (parseMethodDescriptor yX2_isAboveNeighbour.desc).map (fun d => d.parameters.length) = some 1 := by decide +kernel
theorem f_yX2_isAllTrue : (yX2_isAllTrue.cls ≠ "java/lang/invoke/MethodHandle" ∧ yX2_isAllTrue.cls ≠ "java/lang/invoke/VarHandle") ∧ (parseMethodDescriptor yX2_isAllTrue.desc).map (fun d => d.parameters.length) = some 0 := by decide +kernel
theorem f_yX2_isDone : (yX2_isDone.cls ≠ "java/lang/invoke/MethodHandle" ∧ yX2_isDone.cls ≠ "java/lang/invoke/VarHandle") ∧ (parseMethodDescriptor yX2_isDone.desc).map (fun d => d.parameters.length) = some 0 := by decide +kernel
theorem f_yX2_isSewnAhead : (yX2_isSewnAhead.cls ≠ "java/lang/invoke/MethodHandle" ∧ yX2_isSewnAhead.cls ≠ "java/lang/invoke/VarHandle") ∧ (parseMethodDescriptor yX2_isSewnAhead.desc).map (fun d => d.parameters.length) = some 1 := by decide +kernel
theorem f_yX2_isTrueAhead : (yX2_isTrueAhead.cls ≠ "java/lang/invoke/MethodHandle" ∧ yX2_isTrueAhead.cls ≠ "java/lang/invoke/VarHandle") ∧ (parseMethodDescriptor yX2_isTrueAhead.desc).map (fun d => d.parameters.length) = some 1 := by decide +kernel
theorem f_yX2_keepAhead : (yX2_keepAhead.cls ≠ "java/lang/invoke/MethodHandle" ∧ yX2_keepAhead.cls ≠ "java/lang/invoke/VarHandle") ∧ (parseMethodDescriptor yX2_keepAhead.desc).map (fun d => d.parameters.length) = some 1 := by decide +kernel
theorem f_yX2_longestUnlikeAhead : (yX2_longestUnlikeAhead.cls ≠ "java/lang/invoke/MethodHandle" ∧ yX2_longestUnlikeAhead.cls ≠ "java/lang/invoke/VarHandle") ∧ (parseMethodDescriptor yX2_longestUnlikeAhead.desc).map (fun d => d.parameters.length) = some 1 := by decide +kernel
theorem f_yX2_lotAt : (yX2_lotAt.cls ≠ "java/lang/invoke/MethodHandle" ∧ yX2_lotAt.cls ≠ "java/lang/invoke/VarHandle") ∧ (parseMethodDescriptor yX2_lotAt.desc).map (fun d => d.parameters.length) = some 2 := by decide +kernel
theorem f_yX2_originOf : (yX2_originOf.cls ≠ "java/lang/invoke/MethodHandle" ∧ yX2_originOf.cls ≠ "java/lang/invoke/VarHandle") ∧ (parseMethodDescriptor yX2_originOf.desc).map (fun d => d.parameters.length) = some 2 := by decide +kernel
theorem f_yX2_placeOf : (yX2_placeOf.cls ≠ "java/lang/invoke/MethodHandle" ∧ yX2_placeOf.cls ≠ "java/lang/invoke/VarHandle") ∧ (parseMethodDescriptor yX2_placeOf.desc).map (fun d => d.parameters.length) = some 2 := by decide +kernel
theorem f_yX2_setSewnAhead : (yX2_setSewnAhead.cls ≠ "java/lang/invoke/MethodHandle" ∧ yX2_setSewnAhead.cls ≠ "java/lang/invoke/VarHandle") ∧ (parseMethodDescriptor yX2_setSewnAhead.desc).map (fun d => d.parameters.length) = some 2 := by decide +kernel
theorem f_yX2_sewAhead : (yX2_sewAhead.cls ≠ "java/lang/invoke/MethodHandle" ∧ yX2_sewAhead.cls ≠ "java/lang/invoke/VarHandle") ∧ (parseMethodDescriptor yX2_sewAhead.desc).map (fun d => d.parameters.length) = some 1 := by decide +kernel
theorem f_yX2_shadeAt : (yX2_shadeAt.cls ≠ "java/lang/invoke/MethodHandle" ∧ yX2_shadeAt.cls ≠ "java/lang/invoke/VarHandle") ∧ (parseMethodDescriptor yX2_shadeAt.desc).map (fun d => d.parameters.length) = some 2 := by decide +kernel
theorem f_yX2_stain : (yX2_stain.cls ≠ "java/lang/invoke/MethodHandle" ∧ yX2_stain.cls ≠ "java/lang/invoke/VarHandle") ∧ (parseMethodDescriptor yX2_stain.desc).map (fun d => d.parameters.length) = some 3 := by decide +kernel
theorem f_yX2_sumOfShades : (yX2_sumOfShades.cls ≠ "java/lang/invoke/MethodHandle" ∧ yX2_sumOfShades.cls ≠ "java/lang/invoke/VarHandle") ∧ (parseMethodDescriptor yX2_sumOfShades.desc).map (fun d => d.parameters.length) = some 0 := by decide +kernel
theorem f_yX2_threadsSuffice : (yX2_threadsSuffice.cls ≠ "java/lang/invoke/MethodHandle" ∧ yX2_threadsSuffice.cls ≠ "java/lang/invoke/VarHandle") ∧ (parseMethodDescriptor yX2_threadsSuffice.desc).map (fun d => d.parameters.length) = some 2 := by decide +kernel
theorem f_yX2_weaveRow : (yX2_weaveRow.cls ≠ "java/lang/invoke/MethodHandle" ∧ yX2_weaveRow.cls ≠ "java/lang/invoke/VarHandle") ∧ (parseMethodDescriptor yX2_weaveRow.desc).map (fun d => d.parameters.length) = some 2 := by decide +kernel
theorem f_yX2_weavers : (yX2_weavers.cls ≠ "java/lang/invoke/MethodHandle" ∧ yX2_weavers.cls ≠ "java/lang/invoke/VarHandle") ∧ (parseMethodDescriptor yX2_weavers.desc).map (fun d => d.parameters.length) = some 0 := by decide +kernel
theorem f_yX2_width : (yX2_width.cls ≠ "java/lang/invoke/MethodHandle" ∧ yX2_width.cls ≠ "java/lang/invoke/VarHandle") ∧ (parseMethodDescriptor yX2_width.desc).map (fun d => d.parameters.length) = some 0 := by decide +kernel
theorem f_yX3_balances : (yX3_balances.cls ≠ "java/lang/invoke/MethodHandle" ∧ yX3_balances.cls ≠ "java/lang/invoke/VarHandle") ∧ (parseMethodDescriptor yX3_balances.desc).map (fun d => d.parameters.length) = some 0 := by decide +kernel
theorem f_yX3_cartoon : (yX3_cartoon.cls ≠ "java/lang/invoke/MethodHandle" ∧ yX3_cartoon.cls ≠ "java/lang/invoke/VarHandle") ∧ (parseMethodDescriptor yX3_cartoon.desc).map (fun d => d.parameters.length) = some 1 := by decide +kernel
theorem f_yX3_cartoonNumbered : (yX3_cartoonNumbered.cls ≠ "java/lang/invoke/MethodHandle" ∧ yX3_cartoonNumbered.cls ≠ "java/lang/invoke/VarHandle") ∧ (parseMethodDescriptor yX3_cartoonNumbered.desc).map (fun d => d.parameters.length) = some 1 := by decide +kernel
theorem f_yX3_cell : (yX3_cell.cls ≠ "java/lang/invoke/MethodHandle" ∧ yX3_cell.cls ≠ "java/lang/invoke/VarHandle") ∧ (parseMethodDescriptor yX3_cell.desc).map (fun d => d.parameters.length) = some 4 := by decide +kernel
theorem f_yX3_cut : (yX3_cut.cls ≠ "java/lang/invoke/MethodHandle" ∧ yX3_cut.cls ≠ "java/lang/invoke/VarHandle") ∧ (parseMethodDescriptor yX3_cut.desc).map (fun d => d.parameters.length) = some 2 := by decide +kernel
theorem f_yX3_dropPiece : (yX3_dropPiece.cls ≠ "java/lang/invoke/MethodHandle" ∧ yX3_dropPiece.cls ≠ "java/lang/invoke/VarHandle") ∧ (parseMethodDescriptor yX3_dropPiece.desc).map (fun d => d.parameters.length) = some 1 := by decide +kernel
theorem f_yX3_dye : (yX3_dye.cls ≠ "java/lang/invoke/MethodHandle" ∧ yX3_dye.cls ≠ "java/lang/invoke/VarHandle") ∧ (parseMethodDescriptor yX3_dye.desc).map (fun d => d.parameters.length) = some 4 := by decide +kernel
theorem f_yX3_empty : (yX3_empty.cls ≠ "java/lang/invoke/MethodHandle" ∧ yX3_empty.cls ≠ "java/lang/invoke/VarHandle") ∧ (parseMethodDescriptor yX3_empty.desc).map (fun d => d.parameters.length) = some 0 := by decide +kernel
theorem f_yX3_gold : (yX3_gold.cls ≠ "java/lang/invoke/MethodHandle" ∧ yX3_gold.cls ≠ "java/lang/invoke/VarHandle") ∧ (parseMethodDescriptor yX3_gold.desc).map (fun d => d.parameters.length) = some 0 := by decide +kernel
theorem f_yX3_hatch : (yX3_hatch.cls ≠ "java/lang/invoke/MethodHandle" ∧ yX3_hatch.cls ≠ "java/lang/invoke/VarHandle") ∧ (parseMethodDescriptor yX3_hatch.desc).map (fun d => d.parameters.length) = some 3 := by decide +kernel
theorem f_yX3_init : (yX3_init.cls ≠ "java/lang/invoke/MethodHandle" ∧ yX3_init.cls ≠ "java/lang/invoke/VarHandle") ∧ (parseMethodDescriptor yX3_init.desc).map (fun d => d.parameters.length) = some 0 := by decide +kernel
theorem f_yX3_isTrue : (yX3_isTrue.cls ≠ "java/lang/invoke/MethodHandle" ∧ yX3_isTrue.cls ≠ "java/lang/invoke/VarHandle") ∧ (parseMethodDescriptor yX3_isTrue.desc).map (fun d => d.parameters.length) = some 1 := by decide +kernel
theorem f_yX3_join : (yX3_join.cls ≠ "java/lang/invoke/MethodHandle" ∧ yX3_join.cls ≠ "java/lang/invoke/VarHandle") ∧ (parseMethodDescriptor yX3_join.desc).map (fun d => d.parameters.length) = some 2 := by decide +kernel
theorem f_yX3_keepPiece : (yX3_keepPiece.cls ≠ "java/lang/invoke/MethodHandle" ∧ yX3_keepPiece.cls ≠ "java/lang/invoke/VarHandle") ∧ (parseMethodDescriptor yX3_keepPiece.desc).map (fun d => d.parameters.length) = some 1 := by decide +kernel
theorem f_yX3_left : (yX3_left.cls ≠ "java/lang/invoke/MethodHandle" ∧ yX3_left.cls ≠ "java/lang/invoke/VarHandle") ∧ (parseMethodDescriptor yX3_left.desc).map (fun d => d.parameters.length) = some 1 := by decide +kernel
theorem f_yX3_light : (yX3_light.cls ≠ "java/lang/invoke/MethodHandle" ∧ yX3_light.cls ≠ "java/lang/invoke/VarHandle") ∧ (parseMethodDescriptor yX3_light.desc).map (fun d => d.parameters.length) = some 2 := by decide +kernel
theorem f_yX3_likeness : (yX3_likeness.cls ≠ "java/lang/invoke/MethodHandle" ∧ yX3_likeness.cls ≠ "java/lang/invoke/VarHandle") ∧ (parseMethodDescriptor yX3_likeness.desc).map (fun d => d.parameters.length) = some 2 := by decide +kernel
theorem f_yX3_loom : (yX3_loom.cls ≠ "java/lang/invoke/MethodHandle" ∧ yX3_loom.cls ≠ "java/lang/invoke/VarHandle") ∧ (parseMethodDescriptor yX3_loom.desc).map (fun d => d.parameters.length) = some 3 := by decide +kernel
theorem f_yX3_match : (yX3_match.cls ≠ "java/lang/invoke/MethodHandle" ∧ yX3_match.cls ≠ "java/lang/invoke/VarHandle") ∧ (parseMethodDescriptor yX3_match.desc).map (fun d => d.parameters.length) = some 2 := by decide +kernel
theorem f_yX3_pieceIs : (yX3_pieceIs.cls ≠ "java/lang/invoke/MethodHandle" ∧ yX3_pieceIs.cls ≠ "java/lang/invoke/VarHandle") ∧ (parseMethodDescriptor yX3_pieceIs.desc).map (fun d => d.parameters.length) = some 2 := by decide +kernel
theorem f_yX3_pieceNumbered : (yX3_pieceNumbered.cls ≠ "java/lang/invoke/MethodHandle" ∧ yX3_pieceNumbered.cls ≠ "java/lang/invoke/VarHandle") ∧ (parseMethodDescriptor yX3_pieceNumbered.desc).map (fun d => d.parameters.length) = some 1 := by decide +kernel
theorem f_yX3_requireColour : (yX3_requireColour.cls ≠ "java/lang/invoke/MethodHandle" ∧ yX3_requireColour.cls ≠ "java/lang/invoke/VarHandle") ∧ (parseMethodDescriptor yX3_requireColour.desc).map (fun d => d.parameters.length) = some 1 := by decide +kernel
theorem f_yX3_requireDone : (yX3_requireDone.cls ≠ "java/lang/invoke/MethodHandle" ∧ yX3_requireDone.cls ≠ "java/lang/invoke/VarHandle") ∧ (parseMethodDescriptor yX3_requireDone.desc).map (fun d => d.parameters.length) = some 1 := by decide +kernel
theorem f_yX3_requireRoomForPiece : (yX3_requireRoomForPiece.cls ≠ "java/lang/invoke/MethodHandle" ∧ yX3_requireRoomForPiece.cls ≠ "java/lang/invoke/VarHandle") ∧ (parseMethodDescriptor yX3_requireRoomForPiece.desc).map (fun d => d.parameters.length) = some 0 := by decide +kernel
theorem f_yX3_requireSecondColumn : (yX3_requireSecondColumn.cls ≠ "java/lang/invoke/MethodHandle" ∧ yX3_requireSecondColumn.cls ≠ "java/lang/invoke/VarHandle") ∧ (parseMethodDescriptor yX3_requireSecondColumn.desc).map (fun d => d.parameters.length) = some 2 := by decide +kernel
theorem f_yX3_requireTwoDone : (yX3_requireTwoDone.cls ≠ "java/lang/invoke/MethodHandle" ∧ yX3_requireTwoDone.cls ≠ "java/lang/invoke/VarHandle") ∧ (parseMethodDescriptor yX3_requireTwoDone.desc).map (fun d => d.parameters.length) = some 4 := by decide +kernel
theorem f_yX3_row : (yX3_row.cls ≠ "java/lang/invoke/MethodHandle" ∧ yX3_row.cls ≠ "java/lang/invoke/VarHandle") ∧ (parseMethodDescriptor yX3_row.desc).map (fun d => d.parameters.length) = some 1 := by decide +kernel
theorem f_yX3_setAt : (yX3_setAt.cls ≠ "java/lang/invoke/MethodHandle" ∧ yX3_setAt.cls ≠ "java/lang/invoke/VarHandle") ∧ (parseMethodDescriptor yX3_setAt.desc).map (fun d => d.parameters.length) = some 3 := by decide +kernel
theorem f_yX3_sew : (yX3_sew.cls ≠ "java/lang/invoke/MethodHandle" ∧ yX3_sew.cls ≠ "java/lang/invoke/VarHandle") ∧ (parseMethodDescriptor yX3_sew.desc).map (fun d => d.parameters.length) = some 2 := by decide +kernel
theorem f_yX3_signOf : (yX3_signOf.cls ≠ "java/lang/invoke/MethodHandle" ∧ yX3_signOf.cls ≠ "java/lang/invoke/VarHandle") ∧ (parseMethodDescriptor yX3_signOf.desc).map (fun d => d.parameters.length) = some 1 := by decide +kernel
theorem f_yX3_type : (yX3_type.cls ≠ "java/lang/invoke/MethodHandle" ∧ yX3_type.cls ≠ "java/lang/invoke/VarHandle") ∧ (parseMethodDescriptor yX3_type.desc).map (fun d => d.parameters.length) = some 1 := by decide +kernel
theorem f_yX3_valueAt : (yX3_valueAt.cls ≠ "java/lang/invoke/MethodHandle" ∧ yX3_valueAt.cls ≠ "java/lang/invoke/VarHandle") ∧ (parseMethodDescriptor yX3_valueAt.desc).map (fun d => d.parameters.length) = some 2 := by decide +kernel
theorem f_yX3_wash : (yX3_wash.cls ≠ "java/lang/invoke/MethodHandle" ∧ yX3_wash.cls ≠ "java/lang/invoke/VarHandle") ∧ (parseMethodDescriptor yX3_wash.desc).map (fun d => d.parameters.length) = some 1 := by decide +kernel
theorem f_yX3_weave : (yX3_weave.cls ≠ "java/lang/invoke/MethodHandle" ∧ yX3_weave.cls ≠ "java/lang/invoke/VarHandle") ∧ (parseMethodDescriptor yX3_weave.desc).map (fun d => d.parameters.length) = some 2 := by decide +kernel
theorem f_yX4_at : (yX4_at.cls ≠ "java/lang/invoke/MethodHandle" ∧ yX4_at.cls ≠ "java/lang/invoke/VarHandle") ∧ (parseMethodDescriptor yX4_at.desc).map (fun d => d.parameters.length) = some 3 := by decide +kernel
theorem f_yX4_balances : (yX4_balances.cls ≠ "java/lang/invoke/MethodHandle" ∧ yX4_balances.cls ≠ "java/lang/invoke/VarHandle") ∧ (parseMethodDescriptor yX4_balances.desc).map (fun d => d.parameters.length) = some 0 := by decide +kernel
theorem f_yX4_cartoon : (yX4_cartoon.cls ≠ "java/lang/invoke/MethodHandle" ∧ yX4_cartoon.cls ≠ "java/lang/invoke/VarHandle") ∧ (parseMethodDescriptor yX4_cartoon.desc).map (fun d => d.parameters.length) = some 1 := by decide +kernel
theorem f_yX4_cell : (yX4_cell.cls ≠ "java/lang/invoke/MethodHandle" ∧ yX4_cell.cls ≠ "java/lang/invoke/VarHandle") ∧ (parseMethodDescriptor yX4_cell.desc).map (fun d => d.parameters.length) = some 4 := by decide +kernel
theorem f_yX4_copies : (yX4_copies.cls ≠ "java/lang/invoke/MethodHandle" ∧ yX4_copies.cls ≠ "java/lang/invoke/VarHandle") ∧ (parseMethodDescriptor yX4_copies.desc).map (fun d => d.parameters.length) = some 4 := by decide +kernel
theorem f_yX4_cut : (yX4_cut.cls ≠ "java/lang/invoke/MethodHandle" ∧ yX4_cut.cls ≠ "java/lang/invoke/VarHandle") ∧ (parseMethodDescriptor yX4_cut.desc).map (fun d => d.parameters.length) = some 2 := by decide +kernel
theorem f_yX4_drawnAt : (yX4_drawnAt.cls ≠ "java/lang/invoke/MethodHandle" ∧ yX4_drawnAt.cls ≠ "java/lang/invoke/VarHandle") ∧ (parseMethodDescriptor yX4_drawnAt.desc).map (fun d => d.parameters.length) = some 3 := by decide +kernel
theorem f_yX4_dye : (yX4_dye.cls ≠ "java/lang/invoke/MethodHandle" ∧ yX4_dye.cls ≠ "java/lang/invoke/VarHandle") ∧ (parseMethodDescriptor yX4_dye.desc).map (fun d => d.parameters.length) = some 4 := by decide +kernel
theorem f_yX4_empty : (yX4_empty.cls ≠ "java/lang/invoke/MethodHandle" ∧ yX4_empty.cls ≠ "java/lang/invoke/VarHandle") ∧ (parseMethodDescriptor yX4_empty.desc).map (fun d => d.parameters.length) = some 0 := by decide +kernel
theorem f_yX4_giver : (yX4_giver.cls ≠ "java/lang/invoke/MethodHandle" ∧ yX4_giver.cls ≠ "java/lang/invoke/VarHandle") ∧ (parseMethodDescriptor yX4_giver.desc).map (fun d => d.parameters.length) = some 1 := by decide +kernel
theorem f_yX4_goes : (yX4_goes.cls ≠ "java/lang/invoke/MethodHandle" ∧ yX4_goes.cls ≠ "java/lang/invoke/VarHandle") ∧ (parseMethodDescriptor yX4_goes.desc).map (fun d => d.parameters.length) = some 3 := by decide +kernel
theorem f_yX4_gold : (yX4_gold.cls ≠ "java/lang/invoke/MethodHandle" ∧ yX4_gold.cls ≠ "java/lang/invoke/VarHandle") ∧ (parseMethodDescriptor yX4_gold.desc).map (fun d => d.parameters.length) = some 0 := by decide +kernel
theorem f_yX4_hatch : (yX4_hatch.cls ≠ "java/lang/invoke/MethodHandle" ∧ yX4_hatch.cls ≠ "java/lang/invoke/VarHandle") ∧ (parseMethodDescriptor yX4_hatch.desc).map (fun d => d.parameters.length) = some 3 := by decide +kernel
theorem f_yX4_in : (yX4_in.cls ≠ "java/lang/invoke/MethodHandle" ∧ yX4_in.cls ≠ "java/lang/invoke/VarHandle") ∧ (parseMethodDescriptor yX4_in.desc).map (fun d => d.parameters.length) = some 3 := by decide +kernel
theorem f_yX4_init : (yX4_init.cls ≠ "java/lang/invoke/MethodHandle" ∧ yX4_init.cls ≠ "java/lang/invoke/VarHandle") ∧ (parseMethodDescriptor yX4_init.desc).map (fun d => d.parameters.length) = some 0 := by decide +kernel
theorem f_yX4_isCartoon : (yX4_isCartoon.cls ≠ "java/lang/invoke/MethodHandle" ∧ yX4_isCartoon.cls ≠ "java/lang/invoke/VarHandle") ∧ (parseMethodDescriptor yX4_isCartoon.desc).map (fun d => d.parameters.length) = some 1 := by decide +kernel
theorem f_yX4_isColour : (yX4_isColour.cls ≠ "java/lang/invoke/MethodHandle" ∧ yX4_isColour.cls ≠ "java/lang/invoke/VarHandle") ∧ (parseMethodDescriptor yX4_isColour.desc).map (fun d => d.parameters.length) = some 1 := by decide +kernel
theorem f_yX4_isDone : (yX4_isDone.cls ≠ "java/lang/invoke/MethodHandle" ∧ yX4_isDone.cls ≠ "java/lang/invoke/VarHandle") ∧ (parseMethodDescriptor yX4_isDone.desc).map (fun d => d.parameters.length) = some 1 := by decide +kernel
theorem f_yX4_isInner : (yX4_isInner.cls ≠ "java/lang/invoke/MethodHandle" ∧ yX4_isInner.cls ≠ "java/lang/invoke/VarHandle") ∧ (parseMethodDescriptor yX4_isInner.desc).map (fun d => d.parameters.length) = some 2 := by decide +kernel
theorem f_yX4_isPiece : (yX4_isPiece.cls ≠ "java/lang/invoke/MethodHandle" ∧ yX4_isPiece.cls ≠ "java/lang/invoke/VarHandle") ∧ (parseMethodDescriptor yX4_isPiece.desc).map (fun d => d.parameters.length) = some 1 := by decide +kernel
theorem f_yX4_isRight : (yX4_isRight.cls ≠ "java/lang/invoke/MethodHandle" ∧ yX4_isRight.cls ≠ "java/lang/invoke/VarHandle") ∧ (parseMethodDescriptor yX4_isRight.desc).map (fun d => d.parameters.length) = some 2 := by decide +kernel
theorem f_yX4_isSlit : (yX4_isSlit.cls ≠ "java/lang/invoke/MethodHandle" ∧ yX4_isSlit.cls ≠ "java/lang/invoke/VarHandle") ∧ (parseMethodDescriptor yX4_isSlit.desc).map (fun d => d.parameters.length) = some 2 := by decide +kernel
theorem f_yX4_isTrue : (yX4_isTrue.cls ≠ "java/lang/invoke/MethodHandle" ∧ yX4_isTrue.cls ≠ "java/lang/invoke/VarHandle") ∧ (parseMethodDescriptor yX4_isTrue.desc).map (fun d => d.parameters.length) = some 1 := by decide +kernel
theorem f_yX4_isUnlike : (yX4_isUnlike.cls ≠ "java/lang/invoke/MethodHandle" ∧ yX4_isUnlike.cls ≠ "java/lang/invoke/VarHandle") ∧ (parseMethodDescriptor yX4_isUnlike.desc).map (fun d => d.parameters.length) = some 3 := by decide +kernel
theorem f_yX4_join : (yX4_join.cls ≠ "java/lang/invoke/MethodHandle" ∧ yX4_join.cls ≠ "java/lang/invoke/VarHandle") ∧ (parseMethodDescriptor yX4_join.desc).map (fun d => d.parameters.length) = some 2 := by decide +kernel
theorem f_yX4_left : (yX4_left.cls ≠ "java/lang/invoke/MethodHandle" ∧ yX4_left.cls ≠ "java/lang/invoke/VarHandle") ∧ (parseMethodDescriptor yX4_left.desc).map (fun d => d.parameters.length) = some 1 := by decide +kernel
theorem f_yX4_light : (yX4_light.cls ≠ "java/lang/invoke/MethodHandle" ∧ yX4_light.cls ≠ "java/lang/invoke/VarHandle") ∧ (parseMethodDescriptor yX4_light.desc).map (fun d => d.parameters.length) = some 2 := by decide +kernel
theorem f_yX4_likeness : (yX4_likeness.cls ≠ "java/lang/invoke/MethodHandle" ∧ yX4_likeness.cls ≠ "java/lang/invoke/VarHandle") ∧ (parseMethodDescriptor yX4_likeness.desc).map (fun d => d.parameters.length) = some 2 := by decide +kernel
theorem f_yX4_loom : (yX4_loom.cls ≠ "java/lang/invoke/MethodHandle" ∧ yX4_loom.cls ≠ "java/lang/invoke/VarHandle") ∧ (parseMethodDescriptor yX4_loom.desc).map (fun d => d.parameters.length) = some 3 := by decide +kernel
theorem f_yX4_match : (yX4_match.cls ≠ "java/lang/invoke/MethodHandle" ∧ yX4_match.cls ≠ "java/lang/invoke/VarHandle") ∧ (parseMethodDescriptor yX4_match.desc).map (fun d => d.parameters.length) = some 2 := by decide +kernel
theorem f_yX4_mayWeave : (yX4_mayWeave.cls ≠ "java/lang/invoke/MethodHandle" ∧ yX4_mayWeave.cls ≠ "java/lang/invoke/VarHandle") ∧ (parseMethodDescriptor yX4_mayWeave.desc).map (fun d => d.parameters.length) = some 2 := by decide +kernel
theorem f_yX4_numberOf : (yX4_numberOf.cls ≠ "java/lang/invoke/MethodHandle" ∧ yX4_numberOf.cls ≠ "java/lang/invoke/VarHandle") ∧ (parseMethodDescriptor yX4_numberOf.desc).map (fun d => d.parameters.length) = some 1 := by decide +kernel
theorem f_yX4_pieceIs : (yX4_pieceIs.cls ≠ "java/lang/invoke/MethodHandle" ∧ yX4_pieceIs.cls ≠ "java/lang/invoke/VarHandle") ∧ (parseMethodDescriptor yX4_pieceIs.desc).map (fun d => d.parameters.length) = some 2 := by decide +kernel
theorem f_yX4_row : (yX4_row.cls ≠ "java/lang/invoke/MethodHandle" ∧ yX4_row.cls ≠ "java/lang/invoke/VarHandle") ∧ (parseMethodDescriptor yX4_row.desc).map (fun d => d.parameters.length) = some 1 := by decide +kernel
theorem f_yX4_runs : (yX4_runs.cls ≠ "java/lang/invoke/MethodHandle" ∧ yX4_runs.cls ≠ "java/lang/invoke/VarHandle") ∧ (parseMethodDescriptor yX4_runs.desc).map (fun d => d.parameters.length) = some 4 := by decide +kernel
theorem f_yX4_setsColumn : (yX4_setsColumn.cls ≠ "java/lang/invoke/MethodHandle" ∧ yX4_setsColumn.cls ≠ "java/lang/invoke/VarHandle") ∧ (parseMethodDescriptor yX4_setsColumn.desc).map (fun d => d.parameters.length) = some 4 := by decide +kernel
theorem f_yX4_sew : (yX4_sew.cls ≠ "java/lang/invoke/MethodHandle" ∧ yX4_sew.cls ≠ "java/lang/invoke/VarHandle") ∧ (parseMethodDescriptor yX4_sew.desc).map (fun d => d.parameters.length) = some 2 := by decide +kernel
theorem f_yX4_shades : (yX4_shades.cls ≠ "java/lang/invoke/MethodHandle" ∧ yX4_shades.cls ≠ "java/lang/invoke/VarHandle") ∧ (parseMethodDescriptor yX4_shades.desc).map (fun d => d.parameters.length) = some 1 := by decide +kernel
theorem f_yX4_slits : (yX4_slits.cls ≠ "java/lang/invoke/MethodHandle" ∧ yX4_slits.cls ≠ "java/lang/invoke/VarHandle") ∧ (parseMethodDescriptor yX4_slits.desc).map (fun d => d.parameters.length) = some 1 := by decide +kernel
theorem f_yX4_thrown : (yX4_thrown.cls ≠ "java/lang/invoke/MethodHandle" ∧ yX4_thrown.cls ≠ "java/lang/invoke/VarHandle") ∧ (parseMethodDescriptor yX4_thrown.desc).map (fun d => d.parameters.length) = some 0 := by decide +kernel
theorem f_yX4_type : (yX4_type.cls ≠ "java/lang/invoke/MethodHandle" ∧ yX4_type.cls ≠ "java/lang/invoke/VarHandle") ∧ (parseMethodDescriptor yX4_type.desc).map (fun d => d.parameters.length) = some 1 := by decide +kernel
theorem f_yX4_wash : (yX4_wash.cls ≠ "java/lang/invoke/MethodHandle" ∧ yX4_wash.cls ≠ "java/lang/invoke/VarHandle") ∧ (parseMethodDescriptor yX4_wash.desc).map (fun d => d.parameters.length) = some 1 := by decide +kernel
theorem f_yX4_weave : (yX4_weave.cls ≠ "java/lang/invoke/MethodHandle" ∧ yX4_weave.cls ≠ "java/lang/invoke/VarHandle") ∧ (parseMethodDescriptor yX4_weave.desc).map (fun d => d.parameters.length) = some 2 := by decide +kernel
theorem f_yX4_weaves : (yX4_weaves.cls ≠ "java/lang/invoke/MethodHandle" ∧ yX4_weaves.cls ≠ "java/lang/invoke/VarHandle") ∧ (parseMethodDescriptor yX4_weaves.desc).map (fun d => d.parameters.length) = some 4 := by decide +kernel
theorem f_yX4_wovenIn : (yX4_wovenIn.cls ≠ "java/lang/invoke/MethodHandle" ∧ yX4_wovenIn.cls ≠ "java/lang/invoke/VarHandle") ∧ (parseMethodDescriptor yX4_wovenIn.desc).map (fun d => d.parameters.length) = some 1 := by decide +kernel
theorem f_yX4_wovenOf : (yX4_wovenOf.cls ≠ "java/lang/invoke/MethodHandle" ∧ yX4_wovenOf.cls ≠ "java/lang/invoke/VarHandle") ∧ (parseMethodDescriptor yX4_wovenOf.desc).map (fun d => d.parameters.length) = some 1 := by decide +kernel
end
section
/-! ===== rows in integers; ends; calls; throws ===== -/
theorem t_MX0 : lw_tbl[526]? = some (.static Lib.Math.max.name) := by decide +kernel
theorem t_MX1 : lw_tbl[45]? = some (.initialized "java/lang/Math") := by decide +kernel
theorem t_MX2 : lw_tbl[527]? = some (.code Lib.Math.max.name Lib.Math.max.code 2 (some .int)) := by decide +kernel
theorem t_MX3 : lw_tbl[525]? = some (.methodLink RX2 101 Lib.Math.max.name) := by decide +kernel
theorem t_MX4 : lw_tbl[691]? = some (.methodLink RX3 259 Lib.Math.max.name) := by decide +kernel
section OPS
variable {p : Program} {l : Launch} {e : Env} {R : Room} {s : State} {m : MethodId} {args : Array Value} {below : List Frame} {meth : Method} {c : Code} {H : Heap} {locs : List Loc} {cells slots : Nat} {Q : State → Prop}
variable {cc : ByteArray} {pc : Nat} {ls : Array Slot} {rest st0 : List Value} {g : GT} {base : Nat} {ad : Nat → Nat → Nat} {S : St} {own : String}
theorem q_iadd (hx : p.tables.exec = Jvm.exec) (hb : c.code = cc) {a b : Int} (hdg : decode cc pc = .ok (.iadd, 1)) (k : W p l e R s m args below meth c H locs cells slots Q (F0 m (pc + 1) ls (.int (i32 (a + b)) :: rest))) : W p l e R s m args below meth c H locs cells slots Q (F0 m pc ls (.int (i32 b) :: .int (i32 a) :: rest)) := lv_iadd hx hb hdg (by rw [i32_add]; exact k)
theorem q_isub (hx : p.tables.exec = Jvm.exec) (hb : c.code = cc) {a b : Int} (hdg : decode cc pc = .ok (.isub, 1)) (k : W p l e R s m args below meth c H locs cells slots Q (F0 m (pc + 1) ls (.int (i32 (a - b)) :: rest))) : W p l e R s m args below meth c H locs cells slots Q (F0 m pc ls (.int (i32 b) :: .int (i32 a) :: rest)) := lv_isub hx hb hdg (by rw [i32_sub]; exact k)
theorem q_imul (hx : p.tables.exec = Jvm.exec) (hb : c.code = cc) {a b : Int} (hdg : decode cc pc = .ok (.imul, 1)) (k : W p l e R s m args below meth c H locs cells slots Q (F0 m (pc + 1) ls (.int (i32 (a * b)) :: rest))) : W p l e R s m args below meth c H locs cells slots Q (F0 m pc ls (.int (i32 b) :: .int (i32 a) :: rest)) := lv_imul hx hb hdg (by rw [i32_mul]; exact k)
theorem i32_ne0 {b : Int} (h0 : 0 < b) (h1 : b < 2147483648) : ¬ i32 b = 0 := by
  rw [← i32_0, i32_inj ⟨by omega, h1⟩ rng_0]
  omega
theorem q_idiv (hx : p.tables.exec = Jvm.exec) (hb : c.code = cc) {a b : Int} (ha : 0 ≤ a) (ha2 : a < 2147483648) (hb1 : 0 < b) (hb2 : b < 2147483648) (hdg : decode cc pc = .ok (.idiv, 1)) (k : W p l e R s m args below meth c H locs cells slots Q (F0 m (pc + 1) ls (.int (i32 (a / b)) :: rest))) : W p l e R s m args below meth c H locs cells slots Q (F0 m pc ls (.int (i32 b) :: .int (i32 a) :: rest)) := lv_idiv hx hb hdg (i32_ne0 hb1 hb2) (by rw [i32_div ha ha2 hb1 hb2]; exact k)
theorem q_irem (hx : p.tables.exec = Jvm.exec) (hb : c.code = cc) {a b : Int} (ha : 0 ≤ a) (ha2 : a < 2147483648) (hb1 : 0 < b) (hb2 : b < 2147483648) (hdg : decode cc pc = .ok (.irem, 1)) (k : W p l e R s m args below meth c H locs cells slots Q (F0 m (pc + 1) ls (.int (i32 (a % b)) :: rest))) : W p l e R s m args below meth c H locs cells slots Q (F0 m pc ls (.int (i32 b) :: .int (i32 a) :: rest)) := lv_irem hx hb hdg (i32_ne0 hb1 hb2) (by rw [i32_rem ha ha2 hb1 hb2]; exact k)
theorem q_if_eq (hx : p.tables.exec = Jvm.exec) (hb : c.code = cc) {a : Int} {off : Int} {tgt : Nat} (ra : rng a) (hdg : decode cc pc = .ok (.ifCond .eq off, 3)) (ht : (pc : Int) + off = (tgt : Int))
    (kt : a = 0 → W p l e R s m args below meth c H locs cells slots Q (F0 m tgt ls rest)) (kf : a ≠ 0 → W p l e R s m args below meth c H locs cells slots Q (F0 m (pc + 3) ls rest)) : W p l e R s m args below meth c H locs cells slots Q (F0 m pc ls (.int (i32 a) :: rest)) :=
  lv_if_eq hx hb hdg ht (fun h => kt ((i32_inj ra rng_0).mp h)) (fun h => kf (fun e => h ((i32_inj ra rng_0).mpr e)))
theorem q_if_ne (hx : p.tables.exec = Jvm.exec) (hb : c.code = cc) {a : Int} {off : Int} {tgt : Nat} (ra : rng a) (hdg : decode cc pc = .ok (.ifCond .ne off, 3)) (ht : (pc : Int) + off = (tgt : Int))
    (kt : a ≠ 0 → W p l e R s m args below meth c H locs cells slots Q (F0 m tgt ls rest)) (kf : a = 0 → W p l e R s m args below meth c H locs cells slots Q (F0 m (pc + 3) ls rest)) : W p l e R s m args below meth c H locs cells slots Q (F0 m pc ls (.int (i32 a) :: rest)) :=
  lv_if_ne hx hb hdg ht (fun h => kt (fun e => h ((i32_inj ra rng_0).mpr e))) (fun h => kf ((i32_inj ra rng_0).mp h))
theorem q_if_lt (hx : p.tables.exec = Jvm.exec) (hb : c.code = cc) {a : Int} {off : Int} {tgt : Nat} (ra : rng a) (hdg : decode cc pc = .ok (.ifCond .lt off, 3)) (ht : (pc : Int) + off = (tgt : Int))
    (kt : a < 0 → W p l e R s m args below meth c H locs cells slots Q (F0 m tgt ls rest)) (kf : 0 ≤ a → W p l e R s m args below meth c H locs cells slots Q (F0 m (pc + 3) ls rest)) : W p l e R s m args below meth c H locs cells slots Q (F0 m pc ls (.int (i32 a) :: rest)) :=
  lv_if_lt hx hb hdg ht (fun h => kt ((i32_lt ra rng_0).mp h)) (fun h => kf (Int.not_lt.mp (fun e => h ((i32_lt ra rng_0).mpr e))))
theorem q_if_ge (hx : p.tables.exec = Jvm.exec) (hb : c.code = cc) {a : Int} {off : Int} {tgt : Nat} (ra : rng a) (hdg : decode cc pc = .ok (.ifCond .ge off, 3)) (ht : (pc : Int) + off = (tgt : Int))
    (kt : 0 ≤ a → W p l e R s m args below meth c H locs cells slots Q (F0 m tgt ls rest)) (kf : a < 0 → W p l e R s m args below meth c H locs cells slots Q (F0 m (pc + 3) ls rest)) : W p l e R s m args below meth c H locs cells slots Q (F0 m pc ls (.int (i32 a) :: rest)) :=
  lv_if_ge hx hb hdg ht (fun h => kt ((i32_le rng_0 ra).mp h)) (fun h => kf (Int.not_le.mp (fun e => h ((i32_le rng_0 ra).mpr e))))
theorem q_if_gt (hx : p.tables.exec = Jvm.exec) (hb : c.code = cc) {a : Int} {off : Int} {tgt : Nat} (ra : rng a) (hdg : decode cc pc = .ok (.ifCond .gt off, 3)) (ht : (pc : Int) + off = (tgt : Int))
    (kt : 0 < a → W p l e R s m args below meth c H locs cells slots Q (F0 m tgt ls rest)) (kf : a ≤ 0 → W p l e R s m args below meth c H locs cells slots Q (F0 m (pc + 3) ls rest)) : W p l e R s m args below meth c H locs cells slots Q (F0 m pc ls (.int (i32 a) :: rest)) :=
  lv_if_gt hx hb hdg ht (fun h => kt ((i32_lt rng_0 ra).mp h)) (fun h => kf (Int.not_lt.mp (fun e => h ((i32_lt rng_0 ra).mpr e))))
theorem q_if_le (hx : p.tables.exec = Jvm.exec) (hb : c.code = cc) {a : Int} {off : Int} {tgt : Nat} (ra : rng a) (hdg : decode cc pc = .ok (.ifCond .le off, 3)) (ht : (pc : Int) + off = (tgt : Int))
    (kt : a ≤ 0 → W p l e R s m args below meth c H locs cells slots Q (F0 m tgt ls rest)) (kf : 0 < a → W p l e R s m args below meth c H locs cells slots Q (F0 m (pc + 3) ls rest)) : W p l e R s m args below meth c H locs cells slots Q (F0 m pc ls (.int (i32 a) :: rest)) :=
  lv_if_le hx hb hdg ht (fun h => kt ((i32_le ra rng_0).mp h)) (fun h => kf (Int.not_le.mp (fun e => h ((i32_le ra rng_0).mpr e))))
theorem q_icmp_eq (hx : p.tables.exec = Jvm.exec) (hb : c.code = cc) {a b : Int} {off : Int} {tgt : Nat} (ra : rng a) (rb : rng b) (hdg : decode cc pc = .ok (.if_icmp .eq off, 3)) (ht : (pc : Int) + off = (tgt : Int))
    (kt : a = b → W p l e R s m args below meth c H locs cells slots Q (F0 m tgt ls rest)) (kf : a ≠ b → W p l e R s m args below meth c H locs cells slots Q (F0 m (pc + 3) ls rest)) : W p l e R s m args below meth c H locs cells slots Q (F0 m pc ls (.int (i32 b) :: .int (i32 a) :: rest)) :=
  lv_icmp_eq hx hb hdg ht (fun h => kt ((i32_inj ra rb).mp h)) (fun h => kf (fun e => h ((i32_inj ra rb).mpr e)))
theorem q_icmp_ne (hx : p.tables.exec = Jvm.exec) (hb : c.code = cc) {a b : Int} {off : Int} {tgt : Nat} (ra : rng a) (rb : rng b) (hdg : decode cc pc = .ok (.if_icmp .ne off, 3)) (ht : (pc : Int) + off = (tgt : Int))
    (kt : a ≠ b → W p l e R s m args below meth c H locs cells slots Q (F0 m tgt ls rest)) (kf : a = b → W p l e R s m args below meth c H locs cells slots Q (F0 m (pc + 3) ls rest)) : W p l e R s m args below meth c H locs cells slots Q (F0 m pc ls (.int (i32 b) :: .int (i32 a) :: rest)) :=
  lv_icmp_ne hx hb hdg ht (fun h => kt (fun e => h ((i32_inj ra rb).mpr e))) (fun h => kf ((i32_inj ra rb).mp h))
theorem q_icmp_lt (hx : p.tables.exec = Jvm.exec) (hb : c.code = cc) {a b : Int} {off : Int} {tgt : Nat} (ra : rng a) (rb : rng b) (hdg : decode cc pc = .ok (.if_icmp .lt off, 3)) (ht : (pc : Int) + off = (tgt : Int))
    (kt : a < b → W p l e R s m args below meth c H locs cells slots Q (F0 m tgt ls rest)) (kf : b ≤ a → W p l e R s m args below meth c H locs cells slots Q (F0 m (pc + 3) ls rest)) : W p l e R s m args below meth c H locs cells slots Q (F0 m pc ls (.int (i32 b) :: .int (i32 a) :: rest)) :=
  lv_icmp_lt hx hb hdg ht (fun h => kt ((i32_lt ra rb).mp h)) (fun h => kf (Int.not_lt.mp (fun e => h ((i32_lt ra rb).mpr e))))
theorem q_icmp_ge (hx : p.tables.exec = Jvm.exec) (hb : c.code = cc) {a b : Int} {off : Int} {tgt : Nat} (ra : rng a) (rb : rng b) (hdg : decode cc pc = .ok (.if_icmp .ge off, 3)) (ht : (pc : Int) + off = (tgt : Int))
    (kt : b ≤ a → W p l e R s m args below meth c H locs cells slots Q (F0 m tgt ls rest)) (kf : a < b → W p l e R s m args below meth c H locs cells slots Q (F0 m (pc + 3) ls rest)) : W p l e R s m args below meth c H locs cells slots Q (F0 m pc ls (.int (i32 b) :: .int (i32 a) :: rest)) :=
  lv_icmp_ge hx hb hdg ht (fun h => kt ((i32_le rb ra).mp h)) (fun h => kf (Int.not_le.mp (fun e => h ((i32_le rb ra).mpr e))))
theorem q_icmp_gt (hx : p.tables.exec = Jvm.exec) (hb : c.code = cc) {a b : Int} {off : Int} {tgt : Nat} (ra : rng a) (rb : rng b) (hdg : decode cc pc = .ok (.if_icmp .gt off, 3)) (ht : (pc : Int) + off = (tgt : Int))
    (kt : b < a → W p l e R s m args below meth c H locs cells slots Q (F0 m tgt ls rest)) (kf : a ≤ b → W p l e R s m args below meth c H locs cells slots Q (F0 m (pc + 3) ls rest)) : W p l e R s m args below meth c H locs cells slots Q (F0 m pc ls (.int (i32 b) :: .int (i32 a) :: rest)) :=
  lv_icmp_gt hx hb hdg ht (fun h => kt ((i32_lt rb ra).mp h)) (fun h => kf (Int.not_lt.mp (fun e => h ((i32_lt rb ra).mpr e))))
theorem q_icmp_le (hx : p.tables.exec = Jvm.exec) (hb : c.code = cc) {a b : Int} {off : Int} {tgt : Nat} (ra : rng a) (rb : rng b) (hdg : decode cc pc = .ok (.if_icmp .le off, 3)) (ht : (pc : Int) + off = (tgt : Int))
    (kt : a ≤ b → W p l e R s m args below meth c H locs cells slots Q (F0 m tgt ls rest)) (kf : b < a → W p l e R s m args below meth c H locs cells slots Q (F0 m (pc + 3) ls rest)) : W p l e R s m args below meth c H locs cells slots Q (F0 m pc ls (.int (i32 b) :: .int (i32 a) :: rest)) :=
  lv_icmp_le hx hb hdg ht (fun h => kt ((i32_le ra rb).mp h)) (fun h => kf (Int.not_le.mp (fun e => h ((i32_le ra rb).mpr e))))
/-- a number with another name -/
theorem q_nm {a b : Int} (h : a = b) (k : W p l e R s m args below meth c H locs cells slots Q (F0 m pc ls (.int (i32 b) :: rest))) : W p l e R s m args below meth c H locs cells slots Q (F0 m pc ls (.int (i32 a) :: rest)) := h ▸ k
theorem q_max (hx : p.tables.exec = Jvm.exec) (hb : c.code = cc) (hown : s.vm.findClass own = some m.cls) (hK : KK g s) {nL : Nat} (hml : c.maxLocals = nL) (hls : ls.size = nL) {index il : Nat} (hl : lw_tbl[il]? = some (.methodLink own index Lib.Math.max.name))
    (hR : 1 ≤ R.frames ∧ (rest.map fun v => v.category).sum + 13 ≤ R.locals) (hc : cells ≤ R.cells) (hs : slots ≤ R.slots) {a b : Int} (ra : rng a) (rb : rng b) (hdg : decode cc pc = .ok (.invokestatic index, 3))
    (kk : W p l e R s m args below meth c H locs cells slots Q (F0 m (pc + 3) ls (.int (i32 (if a < b then b else a)) :: rest))) : W p l e R s m args below meth c H locs cells slots Q (F0 m pc ls (.int (i32 b) :: .int (i32 a) :: rest)) := by
  refine va_mmax hx hb (hml.trans hls.symm) hown (hK.b il hl rfl) (hK.b 526 t_MX0 rfl) (hK.b 45 t_MX1 rfl) (hK.b 527 t_MX2 rfl) hR.1 hR.2 hc hs hdg ?_
  have : (if i32 a < i32 b then i32 b else i32 a) = i32 (if a < b then b else a) := by
    by_cases h : a < b
    · rw [if_pos h, if_pos ((i32_lt ra rb).mpr h)]
    · rw [if_neg h, if_neg (fun q => h ((i32_lt ra rb).mp q))]
  rw [this]
  exact kk
/-! ends -/
variable {P : Option Value → (Nat → Nat → Nat) → St → Prop} {mc ms : Nat} {ad' : Nat → Nat → Nat} {S' : St} {XC : String → State → State → Prop}
theorem q_iret (hx : p.tables.exec = Jvm.exec) (hb : c.code = cc) (hr : meth.sig.returnType = some .int) (hlocks : meth.locks = false) (hP : pic g base ad' S' H) (hS : va_S (fun q => base ≤ q) s.heap H locs) {v : Int} (hQ : P (some (.int (i32 v))) ad' S') (h1 : cells ≤ mc) (h2 : slots ≤ ms) (hdg : decode cc pc = .ok (.ireturn, 1)) : W p l e R s m args below meth c H locs cells slots (MQ below (gQ g base P) args s mc ms (fun q => base ≤ q)) (F0 m pc ls [.int (i32 v)]) :=
  W.widen h1 h2 (W.iret (v := i32 v) hx hb hr (fun t ht _ => ⟨⟨_, _, _, rfl, hQ, by rw [ht]; exact hP⟩, hS.F ht⟩) hS.2.2 hdg hlocks)
theorem q_zret (hx : p.tables.exec = Jvm.exec) (hb : c.code = cc) (hr : meth.sig.returnType = some .boolean) (hlocks : meth.locks = false) (hP : pic g base ad' S' H) (hS : va_S (fun q => base ≤ q) s.heap H locs) {v : Int} (hv : v = 0 ∨ v = 1) (hQ : P (some (.int (i32 v))) ad' S') (h1 : cells ≤ mc) (h2 : slots ≤ ms) (hdg : decode cc pc = .ok (.ireturn, 1)) : W p l e R s m args below meth c H locs cells slots (MQ below (gQ g base P) args s mc ms (fun q => base ≤ q)) (F0 m pc ls [.int (i32 v)]) :=
  W.widen h1 h2 (W.zret (v := i32 v) hx hb hr (by rcases hv with rfl | rfl <;> rfl) (fun t ht _ => ⟨⟨_, _, _, rfl, hQ, by rw [ht]; exact hP⟩, hS.F ht⟩) hS.2.2 hdg hlocks)
theorem q_vret (hx : p.tables.exec = Jvm.exec) (hb : c.code = cc) (hr : meth.sig.returnType = none) (hlocks : meth.locks = false) (hP : pic g base ad' S' H) (hS : va_S (fun q => base ≤ q) s.heap H locs) (hQ : P none ad' S') (h1 : cells ≤ mc) (h2 : slots ≤ ms) (hdg : decode cc pc = .ok (.return_, 1)) : W p l e R s m args below meth c H locs cells slots (MQ below (gQ g base P) args s mc ms (fun q => base ≤ q)) (F0 m pc ls []) :=
  W.widen h1 h2 (W.vret hx hb hr (fun t ht _ => ⟨⟨_, _, _, rfl, hQ, by rw [ht]; exact hP⟩, hS.F ht⟩) hS.2.2 hdg hlocks)
theorem q_aret (hx : p.tables.exec = Jvm.exec) (hb : c.code = cc) {nm : String} (hr : meth.sig.returnType = some (.object nm)) (hlocks : meth.locks = false) (hP : pic g base ad' S' H) (hS : va_S (fun q => base ≤ q) s.heap H locs) {a : Nat} (hQ : P (some (.ref a)) ad' S') (h1 : cells ≤ mc) (h2 : slots ≤ ms) (hdg : decode cc pc = .ok (.areturn, 1)) : W p l e R s m args below meth c H locs cells slots (MQ below (gQ g base P) args s mc ms (fun q => base ≤ q)) (F0 m pc ls [.ref a]) :=
  W.widen h1 h2 (W.aret (v := .ref a) hx hb hr (Or.inl ⟨_, rfl⟩) (Or.inr ⟨_, rfl⟩) (fun t ht _ => ⟨⟨_, _, _, rfl, hQ, by rw [ht]; exact hP⟩, hS.F ht⟩) hS.2.2 hdg hlocks)
/-- a method that throws leaves all as it was -/
def xQ (g : GT) (base : Nat) (ad : Nat → Nat → Nat) (S : St) (PX : String → Prop) : String → State → State → Prop := fun E s t => PX E ∧ pic g base ad S t.heap ∧ va_F (fun q => base ≤ q) s t
theorem pic.grow (h : pic g base ad S H) {H1 : Heap} (hz : H.size ≤ H1.size) (hq : ∀ q : Nat, q < H.size → H1[q]? = H[q]?) : pic g base ad S H1 :=
  ⟨fun o r h1 h2 => ⟨(h.1 o r h1 h2).1.kept (hq _ (h.1 o r h1 h2).1.lt), (h.1 o r h1 h2).2⟩, h.2.1, Nat.le_trans h.2.2.1 hz, h.2.2.2⟩
theorem va_S.grow {A : Nat → Prop} {s : State} (hS : va_S A s.heap H locs) {t : State} (hz : H.size ≤ t.heap.size) (hq : ∀ q : Nat, q < H.size → t.heap[q]? = H[q]?) : va_F A s t :=
  ⟨Nat.le_trans hS.1 hz, fun q h1 h2 => by rw [hq q (Nat.lt_of_lt_of_le h1 hS.1)]; exact hS.2.1 q h1 h2⟩
/-- 'throw new E("text")' -/
theorem q_throw (hx : p.tables.exec = Jvm.exec) (hb : c.code = cc) (hfl : l.stackTraces = false) {cls text : String} {ik is ic it ii iss : Nat} {nL : Nat} (hml : c.maxLocals = nL) (hls : ls.size = nL)
    (hown : s.vm.findClass own = some m.cls) (hK : KK g s) (hZ : ZZ base s s.heap) (hcls : Bundle.fit cls = true)
    (hk : lw_tbl[ik]? = some (.classLink own it cls)) (hini : lw_tbl[ii]? = some (.initialized cls)) (hstr : lw_tbl[iss]? = some (.stringRef own is text)) (hat : ∀ w ∈ vx_atS own ic cls ["java/lang/RuntimeException", "java/lang/Exception"], w.before args s = true)
    (hgood : ∀ w ∈ Cond.classLink own it cls :: Cond.initialized cls :: vx_atS own ic cls ["java/lang/RuntimeException", "java/lang/Exception"], vx_ot w = true)
    (hP : pic g base ad S H) (hS : va_S (fun q => base ≤ q) s.heap H locs)
    (d0 : decode cc pc = .ok (.new it, 3)) (d3 : decode cc (pc + 3) = .ok (.dup, 1)) (d4 : decode cc (pc + 4) = .ok (.ldc is, 2)) (d6 : decode cc (pc + 6) = .ok (.invokespecial ic, 3)) (d9 : decode cc (pc + 9) = .ok (.athrow, 1))
    (hout : ∀ x ∈ c.exceptionTable.toList, False)
    (hRf : 5 < R.frames) (hRl : (rest.map fun v => v.category).sum + 82 ≤ R.locals) (hRc : cells + 1 ≤ R.cells) (hRs : slots + 6 ≤ R.slots) (hlocks : meth.locks = false) {PX : String → Prop} (hPX : PX cls) {Qc : Array Value → State → Outcome → State → Prop}
    (hc : cells + 1 ≤ mc) (hs : slots + 6 ≤ ms) :
    W p l e R s m args below meth c H locs cells slots (vx_MQ below Qc (xQ g base ad S PX) args s mc ms (fun q => base ≤ q)) (F0 m pc ls rest) := by
  obtain ⟨sa, hsa⟩ := hK.2.2.1 iss own is text hstr
  refine vx_throwS (names := ["java/lang/RuntimeException", "java/lang/Exception"]) (A := fun q => base ≤ q) hx hb hfl hown hcls (by decide) (hK.b ik hk rfl) (hK.b ii hini rfl) hsa hat hgood hZ.1 hZ.2 hS (hls.trans hml.symm) d0 d3 d4 d6 d9 (fun x h => (hout x h).elim) hRf hRl hRc hRs hlocks (fun t _ h1 h2 => ⟨hPX, hP.grow h1 h2, hS.grow h1 h2⟩) hS.2.2 hc hs
/-- an exception of a callee goes on to the caller -/
theorem q_out {E : String} {ce : Cell} {q : Nat} (hout : ∀ x ∈ c.exceptionTable.toList, False) (hlocks : meth.locks = false) (hcell : H[q]? = some ce) (hv : ce.vm = .none) (hcl : s.vm.findClass E = some ce.cls) (hP : pic g base ad S H) (hS : va_S (fun q => base ≤ q) s.heap H locs) {PX : String → Prop} (hPX : PX E) {Qc : Array Value → State → Outcome → State → Prop} (hc : cells ≤ mc) (hs : slots ≤ ms) :
    vx_W p l e R s m args below meth c H locs cells slots (vx_MQ below Qc (xQ g base ad S PX) args s mc ms (fun q => base ≤ q)) (F0 m pc ls rest) q :=
  vx_out (fun x h => (hout x h).elim) hlocks hcell hv hcl (fun t ht _ => ⟨hPX, by rw [ht]; exact hP, hS.F ht⟩) hS.2.2 hc hs
/-! calls -/
variable {y : MethodName} {bytes : ByteArray} {maxL nL n index : Nat} {ret : Option FieldType} {rm : Room} {As : List Value}
theorem q_callB (hK : KK g s) (il ii ic : Nat) (hl : lw_tbl[il]? = some (.methodLink own index y)) (hi : lw_tbl[ii]? = some (.initialized y.cls)) (hc : lw_tbl[ic]? = some (.code y bytes maxL ret)) (hf : (y.cls ≠ "java/lang/invoke/MethodHandle" ∧ y.cls ≠ "java/lang/invoke/VarHandle") ∧ (parseMethodDescriptor y.desc).map (fun d => d.parameters.length) = some n) (hR : rm.frames + 1 ≤ R.frames ∧ 8 + (maxL + 11) + rm.locals ≤ R.locals) : CallB R s args own index y bytes maxL ret [Cond.code y bytes maxL ret] rm rm.cells rm.slots n := by
  refine ⟨rfl, rfl, hR.1, hR.2, fun w hw a' U hW => ?_, List.mem_cons_self, hK.b ic hc rfl, hK.b ii hi rfl, hf.1, fun sig h => ?_, hK.b il hl rfl⟩
  · rw [List.mem_singleton.mp hw]
    exact (hK.warm hW).b ic hc rfl
  · have h2 := hf.2
    rw [h] at h2
    exact (Option.some.inj h2).symm
theorem q_pre (hK : KK g s) (hZ : ZZ base s s.heap) (hP : pic g base ad S H) (hS : va_S (fun q => base ≤ q) s.heap H locs) (av : List Value) : FrameBlind (va_Pc av (PK g base ad S)) ∧ ∀ U : State, U.heap = H → s.WarmedH U.vm → (va_Pc av (PK g base ad S)) av.toArray U :=
  ⟨PK_blind, fun U hU hW => ⟨rfl, hK.warm hW, by rw [hU]; exact hZ.go hW.alike hS.2.1, by rw [hU]; exact hP⟩⟩
theorem q_keep {st₀ t T' : State} {L : List Loc} (h0 : st₀.heap = H) (e1 : T'.heap = t.heap) (hS : va_S (fun q => base ≤ q) s.heap H locs) (hL : ∀ q ∈ L, base ≤ q.base) (hF : va_F (fun q => base ≤ q) st₀ t) : va_S (fun q => base ≤ q) s.heap T'.heap (locs ++ L) :=
  (vx_keep h0 e1 hS (fun _ _ h => h) (fun _ h => h) hL hF).2.2
/-- behind a call that returns -/
theorem q_go {a : Array Value} (hr : va_Run p l e R s m args below meth c H locs cells slots mc ms (F0 m pc ls st0) rest (gQ g base P a) (fun q => base ≤ q)) (hS : va_S (fun q => base ≤ q) s.heap H locs)
    (kk : ∀ (r : Option Value) (ad' : Nat → Nat → Nat) (S' : St) (H1 : Heap) (locs1 : List Loc), P r ad' S' → pic g base ad' S' H1 → va_S (fun q => base ≤ q) s.heap H1 locs1 → W p l e R s m args below meth c H1 locs1 (cells + mc) (slots + ms) Q (F0 m (pc + 3) ls (r.toList ++ rest))) : W p l e R s m args below meth c H locs cells slots Q (F0 m pc ls st0) := by
  intro T hT X
  obtain ⟨v, st₀, t, T', L, h0, X', hL, e1, e2, ⟨⟨r, ad', S', hv, hp, hb⟩, hF⟩, st⟩ := hr T hT X
  cases hv
  obtain ⟨t2, a1, b1⟩ := kk v ad' S' T'.heap (locs ++ L) hp (by rw [e1]; exact hb) (q_keep h0 e1 hS hL hF) T' rfl X'
  exact ⟨t2, st t2 a1, b1⟩
/-- behind a call that returns or throws -/
theorem q_gox {a : Array Value} {PX : String → Prop} (hr : vx_Run p l e R s m args below meth c H locs cells slots mc ms (F0 m pc ls st0) rest (gQ g base P a) (xQ g base ad S PX) (fun q => base ≤ q)) (hS : va_S (fun q => base ≤ q) s.heap H locs)
    (kx : ∀ (E : String) (ce : Cell) (q : Nat) (H1 : Heap) (locs1 : List Loc), PX E → H1[q]? = some ce → ce.vm = .none → s.vm.findClass E = some ce.cls → pic g base ad S H1 → va_S (fun q => base ≤ q) s.heap H1 locs1 → vx_W p l e R s m args below meth c H1 locs1 (cells + mc) (slots + ms) Q (F0 m pc ls rest) q)
    (kk : ∀ (r : Option Value) (ad' : Nat → Nat → Nat) (S' : St) (H1 : Heap) (locs1 : List Loc), P r ad' S' → pic g base ad' S' H1 → va_S (fun q => base ≤ q) s.heap H1 locs1 → W p l e R s m args below meth c H1 locs1 (cells + mc) (slots + ms) Q (F0 m (pc + 3) ls (r.toList ++ rest))) : W p l e R s m args below meth c H locs cells slots Q (F0 m pc ls st0) := by
  intro T hT X
  rcases hr T hT X with ⟨v, st₀, t, T', L, h0, X', hL, e1, e2, ⟨⟨r, ad', S', hv, hp, hb⟩, hF⟩, st⟩ | ⟨q, st₀, t, T', L, E, ce, h0, X', hL, e1, e2, ⟨hpx, hpp, hF⟩, hce, hcv, hcl, st⟩
  · cases hv
    obtain ⟨t2, a1, b1⟩ := kk v ad' S' T'.heap (locs ++ L) hp (by rw [e1]; exact hb) (q_keep h0 e1 hS hL hF) T' rfl X'
    exact ⟨t2, st t2 a1, b1⟩
  · obtain ⟨t2, a1, b1⟩ := kx E ce q T'.heap (locs ++ L) hpx (by rw [e1]; exact hce) hcv hcl (by rw [e1]; exact hpp) (q_keep h0 e1 hS hL hF) T' rfl X'
    exact ⟨t2, st.trans a1, b1⟩
theorem q_recv (hK : KK g s) (hP : pic g base ad S H) {o k : Nat} (hal : S o 0 (-1) = 1) (hk : kd o = k) (hok : okr k 0 = true) {C : String} {T : u_T} {N : Nat} (hc : vwCl[clsK k]? = some (C, T, N)) : ∃ cell : Cell, H[ad o 0]? = some cell ∧ cell.vm.isStatics = false ∧ s.vm.findClass C = some cell.cls :=
  va_recv hK.1 (hP.one hal hk hok (x := .inr (clsK k, fldsK k ad o (S o 0))) (by rfl)) hc (q0 := 0) rfl
/-- a static method -/
theorem q_callS (hx : p.tables.exec = Jvm.exec) (hb : c.code = cc) (hml : c.maxLocals = nL) (hls : ls.size = nL) (hown : s.vm.findClass own = some m.cls) (hK : KK g s) (hZ : ZZ base s s.heap) (hP : pic g base ad S H) (hS : va_S (fun q => base ≤ q) s.heap H locs)
    (hM : Met l y [Cond.code y bytes maxL ret] rm (va_Pc As (PK g base ad S)) (gQ g base P) rm.cells rm.slots (fun q => base ≤ q)) {is : Nat} (hst : lw_tbl[is]? = some (.static y)) (cb : CallB R s args own index y bytes maxL ret [Cond.code y bytes maxL ret] rm rm.cells rm.slots n) (hn : As.length = n) (hstk : st0 = As.reverse ++ rest) (hcat : (rest.map fun v => v.category).sum ≤ 8) (hdg : decode cc pc = .ok (.invokestatic index, 3)) (hf : cells + rm.cells ≤ R.cells ∧ slots + rm.slots ≤ R.slots)
    (kk : ∀ (r : Option Value) (ad' : Nat → Nat → Nat) (S' : St) (H1 : Heap) (locs1 : List Loc), P r ad' S' → pic g base ad' S' H1 → va_S (fun q => base ≤ q) s.heap H1 locs1 → W p l e R s m args below meth c H1 locs1 (cells + rm.cells) (slots + rm.slots) Q (F0 m (pc + 3) ls (r.toList ++ rest))) : W p l e R s m args below meth c H locs cells slots Q (F0 m pc ls st0) :=
  q_go (va_runS (As := As) (rest := rest) (Ts := []) ⟨hx, hb, hml, hown, fun _ h => nomatch h⟩ hM ⟨cb, hK.b is hst rfl⟩ (q_pre hK hZ hP hS As) rfl hn hls hstk (lv_room hcat) hdg hf) hS kk
theorem q_callSx (hx : p.tables.exec = Jvm.exec) (hb : c.code = cc) (hml : c.maxLocals = nL) (hls : ls.size = nL) (hown : s.vm.findClass own = some m.cls) (hK : KK g s) (hZ : ZZ base s s.heap) (hP : pic g base ad S H) (hS : va_S (fun q => base ≤ q) s.heap H locs) {PX : String → Prop}
    (hM : vx_Met l y [Cond.code y bytes maxL ret] rm (va_Pc As (PK g base ad S)) (gQ g base P) (xQ g base ad S PX) rm.cells rm.slots (fun q => base ≤ q)) {is : Nat} (hst : lw_tbl[is]? = some (.static y)) (cb : CallB R s args own index y bytes maxL ret [Cond.code y bytes maxL ret] rm rm.cells rm.slots n) (hn : As.length = n) (hstk : st0 = As.reverse ++ rest) (hcat : (rest.map fun v => v.category).sum ≤ 8) (hdg : decode cc pc = .ok (.invokestatic index, 3)) (hf : cells + rm.cells ≤ R.cells ∧ slots + rm.slots ≤ R.slots)
    (kx : ∀ (E : String) (ce : Cell) (q : Nat) (H1 : Heap) (locs1 : List Loc), PX E → H1[q]? = some ce → ce.vm = .none → s.vm.findClass E = some ce.cls → pic g base ad S H1 → va_S (fun q => base ≤ q) s.heap H1 locs1 → vx_W p l e R s m args below meth c H1 locs1 (cells + rm.cells) (slots + rm.slots) Q (F0 m pc ls rest) q)
    (kk : ∀ (r : Option Value) (ad' : Nat → Nat → Nat) (S' : St) (H1 : Heap) (locs1 : List Loc), P r ad' S' → pic g base ad' S' H1 → va_S (fun q => base ≤ q) s.heap H1 locs1 → W p l e R s m args below meth c H1 locs1 (cells + rm.cells) (slots + rm.slots) Q (F0 m (pc + 3) ls (r.toList ++ rest))) : W p l e R s m args below meth c H locs cells slots Q (F0 m pc ls st0) :=
  q_gox (vx_runS (As := As) (rest := rest) (Ts := []) ⟨hx, hb, hml, hown, fun _ h => nomatch h⟩ hM ⟨cb, hK.b is hst rfl⟩ (q_pre hK hZ hP hS As) rfl hn hls hstk (lv_room hcat) hdg hf) hS kx kk
/-- a static method of a nest mate -/
theorem q_callN (hx : p.tables.exec = Jvm.exec) (hb : c.code = cc) (hml : c.maxLocals = nL) (hls : ls.size = nL) (hown : s.vm.findClass own = some m.cls) (hK : KK g s) (hZ : ZZ base s s.heap) (hP : pic g base ad S H) (hS : va_S (fun q => base ≤ q) s.heap H locs)
    (hM : Met l y [Cond.code y bytes maxL ret] rm (va_Pc As (PK g base ad S)) (gQ g base P) rm.cells rm.slots (fun q => base ≤ q)) {il ii ic is : Nat} {host : String} (hl : lw_tbl[il]? = some (.methodLinkNest own index y host)) (hi : lw_tbl[ii]? = some (.initialized y.cls)) (hc : lw_tbl[ic]? = some (.code y bytes maxL ret)) (hst : lw_tbl[is]? = some (.static y)) (hfa : (y.cls ≠ "java/lang/invoke/MethodHandle" ∧ y.cls ≠ "java/lang/invoke/VarHandle") ∧ (parseMethodDescriptor y.desc).map (fun d => d.parameters.length) = some n) (hR : rm.frames + 1 ≤ R.frames ∧ 8 + (maxL + 11) + rm.locals ≤ R.locals) (hn : As.length = n) (hstk : st0 = As.reverse ++ rest) (hcat : (rest.map fun v => v.category).sum ≤ 8) (hdg : decode cc pc = .ok (.invokestatic index, 3)) (hf : cells + rm.cells ≤ R.cells ∧ slots + rm.slots ≤ R.slots)
    (kk : ∀ (r : Option Value) (ad' : Nat → Nat → Nat) (S' : St) (H1 : Heap) (locs1 : List Loc), P r ad' S' → pic g base ad' S' H1 → va_S (fun q => base ≤ q) s.heap H1 locs1 → W p l e R s m args below meth c H1 locs1 (cells + rm.cells) (slots + rm.slots) Q (F0 m (pc + 3) ls (r.toList ++ rest))) : W p l e R s m args below meth c H locs cells slots Q (F0 m pc ls st0) := by
  refine q_go (va_runSN (As := As) (rest := rest) (Ts := []) (host := host) ⟨hx, hb, hml, hown, fun _ h => nomatch h⟩ hM ⟨⟨⟨rfl, rfl, hR.1, hR.2, fun w hw a' U hW => ?_, List.mem_cons_self⟩, hK.b ic hc rfl, hK.b ii hi rfl, hfa.1, fun sig h => ?_, hK.b il hl rfl⟩, hK.b is hst rfl, trivial⟩ (q_pre hK hZ hP hS As) rfl hn hls hstk (lv_room hcat) hdg hf) hS kk
  · rw [List.mem_singleton.mp hw]
    exact (hK.warm hW).b ic hc rfl
  · have h2 := hfa.2
    rw [h] at h2
    exact (Option.some.inj h2).symm
/-- a method of an object -/
theorem q_callV (hx : p.tables.exec = Jvm.exec) (hb : c.code = cc) (hml : c.maxLocals = nL) (hls : ls.size = nL) (hown : s.vm.findClass own = some m.cls) (hK : KK g s) (hZ : ZZ base s s.heap) (hP : pic g base ad S H) (hS : va_S (fun q => base ≤ q) s.heap H locs) {o k : Nat} (hal : S o 0 (-1) = 1) (hk : kd o = k) (hok : okr k 0 = true) {C : String} {T : u_T} {N : Nat} (hcl : vwCl[clsK k]? = some (C, T, N))
    (hM : Met l y [Cond.code y bytes maxL ret] rm (va_Pc (.ref (ad o 0) :: As) (PK g base ad S)) (gQ g base P) rm.cells rm.slots (fun q => base ≤ q)) {im is : Nat} (him : lw_tbl[im]? = some (.instanceMethod y)) (his : lw_tbl[is]? = some (.selects C y y)) (cb : CallB R s args own index y bytes maxL ret [Cond.code y bytes maxL ret] rm rm.cells rm.slots n) (hn : As.length = n) (hstk : st0 = As.reverse ++ .ref (ad o 0) :: rest) (hcat : (rest.map fun v => v.category).sum ≤ 8) (hdg : decode cc pc = .ok (.invokevirtual index, 3)) (hf : cells + rm.cells ≤ R.cells ∧ slots + rm.slots ≤ R.slots)
    (kk : ∀ (r : Option Value) (ad' : Nat → Nat → Nat) (S' : St) (H1 : Heap) (locs1 : List Loc), P r ad' S' → pic g base ad' S' H1 → va_S (fun q => base ≤ q) s.heap H1 locs1 → W p l e R s m args below meth c H1 locs1 (cells + rm.cells) (slots + rm.slots) Q (F0 m (pc + 3) ls (r.toList ++ rest))) : W p l e R s m args below meth c H locs cells slots Q (F0 m pc ls st0) :=
  q_go (va_runV (As := As) (rest := rest) (Ts := []) ⟨hx, hb, hml, hown, fun _ h => nomatch h⟩ hM ⟨cb, hK.b im him rfl, hK.b is his rfl⟩ ⟨(q_pre hK hZ hP hS _).1, q_recv hK hP hal hk hok hcl, (q_pre hK hZ hP hS _).2⟩ rfl hn hls hstk (lv_room hcat) hdg hf) hS kk
theorem q_callVx (hx : p.tables.exec = Jvm.exec) (hb : c.code = cc) (hml : c.maxLocals = nL) (hls : ls.size = nL) (hown : s.vm.findClass own = some m.cls) (hK : KK g s) (hZ : ZZ base s s.heap) (hP : pic g base ad S H) (hS : va_S (fun q => base ≤ q) s.heap H locs) {o k : Nat} (hal : S o 0 (-1) = 1) (hk : kd o = k) (hok : okr k 0 = true) {C : String} {T : u_T} {N : Nat} (hcl : vwCl[clsK k]? = some (C, T, N)) {PX : String → Prop}
    (hM : vx_Met l y [Cond.code y bytes maxL ret] rm (va_Pc (.ref (ad o 0) :: As) (PK g base ad S)) (gQ g base P) (xQ g base ad S PX) rm.cells rm.slots (fun q => base ≤ q)) {im is : Nat} (him : lw_tbl[im]? = some (.instanceMethod y)) (his : lw_tbl[is]? = some (.selects C y y)) (cb : CallB R s args own index y bytes maxL ret [Cond.code y bytes maxL ret] rm rm.cells rm.slots n) (hn : As.length = n) (hstk : st0 = As.reverse ++ .ref (ad o 0) :: rest) (hcat : (rest.map fun v => v.category).sum ≤ 8) (hdg : decode cc pc = .ok (.invokevirtual index, 3)) (hf : cells + rm.cells ≤ R.cells ∧ slots + rm.slots ≤ R.slots)
    (kx : ∀ (E : String) (ce : Cell) (q : Nat) (H1 : Heap) (locs1 : List Loc), PX E → H1[q]? = some ce → ce.vm = .none → s.vm.findClass E = some ce.cls → pic g base ad S H1 → va_S (fun q => base ≤ q) s.heap H1 locs1 → vx_W p l e R s m args below meth c H1 locs1 (cells + rm.cells) (slots + rm.slots) Q (F0 m pc ls rest) q)
    (kk : ∀ (r : Option Value) (ad' : Nat → Nat → Nat) (S' : St) (H1 : Heap) (locs1 : List Loc), P r ad' S' → pic g base ad' S' H1 → va_S (fun q => base ≤ q) s.heap H1 locs1 → W p l e R s m args below meth c H1 locs1 (cells + rm.cells) (slots + rm.slots) Q (F0 m (pc + 3) ls (r.toList ++ rest))) : W p l e R s m args below meth c H locs cells slots Q (F0 m pc ls st0) :=
  q_gox (vx_runV (As := As) (rest := rest) (Ts := []) ⟨hx, hb, hml, hown, fun _ h => nomatch h⟩ hM ⟨cb, hK.b im him rfl, hK.b is his rfl⟩ ⟨(q_pre hK hZ hP hS _).1, q_recv hK hP hal hk hok hcl, (q_pre hK hZ hP hS _).2⟩ rfl hn hls hstk (lv_room hcat) hdg hf) hS kx kk
end OPS
theorem mk_metx {l : Launch} {y : MethodName} {cc : ByteArray} {maxL : Nat} {ret : Option FieldType} {own : String} {g : GT} {base : Nat} {ad : Nat → Nat → Nat} {S : St} {av : List Value} {lv0 : List (Nat × Value)} {rm : Room} {Qc : Array Value → State → Outcome → State → Prop} {XC : String → State → State → Prop} {mc ms : Nat}
    (hy : plainName y.cls = true) (ho : y.cls = own) (hn : (lg_sl av).length ≤ maxL) (hlv : lv_args 0 av = lv0)
    (body : ∀ (p : Program) (e : Env) (s : State) (m : MethodId) (below : List Frame) (meth : Method) (c : Code), p.tables.exec = Jvm.exec → c.code = cc → meth.sig.returnType = ret → c.maxLocals = maxL → s.vm.findClass own = some m.cls → meth.locks = false → meth.name = y.name → (∀ x ∈ c.exceptionTable.toList, False) → KK g s → ZZ base s s.heap → pic g base ad S s.heap → ∀ ls : Array Slot, lv_has ls maxL lv0 →
      W p l e rm s m av.toArray below meth c s.heap [] 0 0 (vx_MQ below Qc XC av.toArray s mc ms (fun q => base ≤ q)) (F0 m 0 ls [])) :
    vx_Met l y [Cond.code y cc maxL ret] rm (va_Pc av (PK g base ad S)) Qc XC mc ms (fun q => base ≤ q) := by
  refine vx_ofW (cc := cc) (maxL := maxL) (ret := ret) hy rfl ?_
  intro p e s m args below meth c s₁ B hml hout hv
  obtain ⟨rfl, hK, hZ, hP⟩ := hv
  have hown : s.vm.findClass own = some m.cls := by rw [← ho]; exact findClass_of_methodNamed B.named
  rw [lg_entry_eq]
  exact body p e s m below meth c B.exec B.bytes B.returns hml hown B.notSynchronized (name_of_methodNamed B.named B.method).1 hout hK hZ hP _ (hlv ▸ lv_entry av hn)
end
section
/-! ===== booleans as 1 and 0; sums; answers ===== -/
noncomputable def b2 (φ : Prop) : Int := @ite Int φ (Classical.propDecidable φ) 1 0
theorem b2_t {φ : Prop} (h : φ) : b2 φ = 1 := by unfold b2; exact if_pos h
theorem b2_f {φ : Prop} (h : ¬ φ) : b2 φ = 0 := by unfold b2; exact if_neg h
theorem b2_c {φ ψ : Prop} (h : φ ↔ ψ) : b2 φ = b2 ψ := by rw [propext h]
theorem b2_01 (φ : Prop) : b2 φ = 0 ∨ b2 φ = 1 := by
  by_cases h : φ
  · exact Or.inr (b2_t h)
  · exact Or.inl (b2_f h)
theorem b2_rng (φ : Prop) : rng (b2 φ) := by rcases b2_01 φ with h | h <;> rw [h] <;> exact ⟨by decide, by decide⟩
theorem b2_1 {φ : Prop} : b2 φ = 1 ↔ φ := by
  by_cases h : φ
  · exact ⟨fun _ => h, fun _ => b2_t h⟩
  · refine ⟨fun q => ?_, fun q => absurd q h⟩
    rw [b2_f h] at q
    exact absurd q (by decide)
theorem b2_0 {φ : Prop} : b2 φ = 0 ↔ ¬ φ := by
  by_cases h : φ
  · refine ⟨fun q => ?_, fun q => absurd h q⟩
    rw [b2_t h] at q
    exact absurd q (by decide)
  · exact ⟨fun _ => h, fun _ => b2_f h⟩
/-- f 0 + .. + f (n - 1) -/
def sm (f : Int → Int) : Nat → Int
  | 0 => 0
  | n + 1 => sm f n + f n
theorem sm_0 (f : Int → Int) : sm f 0 = 0 := rfl
theorem sm_1 (f : Int → Int) {i : Int} (h : 0 ≤ i) : sm f (i + 1).toNat = sm f i.toNat + f i := by
  obtain ⟨n, rfl⟩ := Int.eq_ofNat_of_zero_le h
  show sm f (n + 1) = sm f n + f n
  rfl
theorem sm_c {f g : Int → Int} {n : Nat} (h : ∀ i : Int, 0 ≤ i → i < n → f i = g i) : sm f n = sm g n := by
  induction n with
  | zero => rfl
  | succ n ih =>
    show sm f n + f n = sm g n + g n
    rw [ih (fun i h0 h1 => h i h0 (by omega)), h n (by omega) (by omega)]
section QB
variable {p : Program} {l : Launch} {e : Env} {R : Room} {s : State} {m : MethodId} {args : Array Value} {below : List Frame} {meth : Method} {c : Code} {H : Heap} {locs : List Loc} {cells slots : Nat} {Q : State → Prop}
variable {cc : ByteArray} {pc : Nat} {ls : Array Slot} {rest st0 : List Value} {g : GT} {base : Nat} {ad : Nat → Nat → Nat} {S : St} {own : String}
theorem q_if_eqb (hx : p.tables.exec = Jvm.exec) (hb : c.code = cc) {φ : Prop} {off : Int} {tgt : Nat} (hdg : decode cc pc = .ok (.ifCond .eq off, 3)) (ht : (pc : Int) + off = (tgt : Int))
    (kt : ¬ φ → W p l e R s m args below meth c H locs cells slots Q (F0 m tgt ls rest)) (kf : φ → W p l e R s m args below meth c H locs cells slots Q (F0 m (pc + 3) ls rest)) : W p l e R s m args below meth c H locs cells slots Q (F0 m pc ls (.int (i32 (b2 φ)) :: rest)) :=
  q_if_eq hx hb (b2_rng φ) hdg ht (fun h => kt (b2_0.mp h)) (fun h => kf (Classical.byContradiction fun q => h (b2_f q)))
theorem q_if_neb (hx : p.tables.exec = Jvm.exec) (hb : c.code = cc) {φ : Prop} {off : Int} {tgt : Nat} (hdg : decode cc pc = .ok (.ifCond .ne off, 3)) (ht : (pc : Int) + off = (tgt : Int))
    (kt : φ → W p l e R s m args below meth c H locs cells slots Q (F0 m tgt ls rest)) (kf : ¬ φ → W p l e R s m args below meth c H locs cells slots Q (F0 m (pc + 3) ls rest)) : W p l e R s m args below meth c H locs cells slots Q (F0 m pc ls (.int (i32 (b2 φ)) :: rest)) :=
  q_if_ne hx hb (b2_rng φ) hdg ht (fun h => kt (Classical.byContradiction fun q => h (b2_f q))) (fun h => kf (b2_0.mp h))
theorem q_an {v : Option Value} {ad2 : Nat → Nat → Nat} {S2 : St} {G : Option Value → (Nat → Nat → Nat) → St → Heap → List Loc → Prop} (kk : ∀ (H1 : Heap) (locs1 : List Loc), pic g base ad2 S2 H1 → va_S (fun q => base ≤ q) s.heap H1 locs1 → G v ad2 S2 H1 locs1) :
    ∀ (r : Option Value) (ad' : Nat → Nat → Nat) (S' : St) (H1 : Heap) (locs1 : List Loc), an v ad2 S2 r ad' S' → pic g base ad' S' H1 → va_S (fun q => base ≤ q) s.heap H1 locs1 → G r ad' S' H1 locs1 := by
  intro r ad' S' H1 locs1 h hP hS
  obtain ⟨h1, h2, h3⟩ := h
  rw [h1, h2, h3]
  rw [h2, h3] at hP
  exact kk H1 locs1 hP hS
end QB
/-! the fields of ints that are written -/
theorem set_0_0 (ad : Nat → Nat → Nat) (o : Nat) (f : Int → Int) (v : Int) : (fldsK 0 ad o f).set 0 (.int (i32 v)) = fldsK 0 ad o (ud f 0 v) := by simp [fldsK, ud]
theorem set_0_2 (ad : Nat → Nat → Nat) (o : Nat) (f : Int → Int) (v : Int) : (fldsK 0 ad o f).set 2 (.int (i32 v)) = fldsK 0 ad o (ud f 2 v) := by simp [fldsK, ud]
theorem set_0_8 (ad : Nat → Nat → Nat) (o : Nat) (f : Int → Int) (v : Int) : (fldsK 0 ad o f).set 8 (.int (i32 v)) = fldsK 0 ad o (ud f 8 v) := by simp [fldsK, ud]
theorem set_0_14 (ad : Nat → Nat → Nat) (o : Nat) (f : Int → Int) (v : Int) : (fldsK 0 ad o f).set 14 (.int (i32 v)) = fldsK 0 ad o (ud f 14 v) := by simp [fldsK, ud]
theorem set_0_27 (ad : Nat → Nat → Nat) (o : Nat) (f : Int → Int) (v : Int) : (fldsK 0 ad o f).set 27 (.int (i32 v)) = fldsK 0 ad o (ud f 27 v) := by simp [fldsK, ud]
theorem set_1_1 (ad : Nat → Nat → Nat) (o : Nat) (f : Int → Int) (v : Int) : (fldsK 1 ad o f).set 1 (.int (i32 v)) = fldsK 1 ad o (ud f 1 v) := by simp [fldsK, ud]
theorem set_1_3 (ad : Nat → Nat → Nat) (o : Nat) (f : Int → Int) (v : Int) : (fldsK 1 ad o f).set 3 (.int (i32 v)) = fldsK 1 ad o (ud f 3 v) := by simp [fldsK, ud]
theorem set_1_6 (ad : Nat → Nat → Nat) (o : Nat) (f : Int → Int) (v : Int) : (fldsK 1 ad o f).set 6 (.int (i32 v)) = fldsK 1 ad o (ud f 6 v) := by simp [fldsK, ud]
theorem set_2_0 (ad : Nat → Nat → Nat) (o : Nat) (f : Int → Int) (v : Int) : (fldsK 2 ad o f).set 0 (.int (i32 v)) = fldsK 2 ad o (ud f 0 v) := by simp [fldsK, ud]
theorem set_4_1 (ad : Nat → Nat → Nat) (o : Nat) (f : Int → Int) (v : Int) : (fldsK 4 ad o f).set 1 (.int (i32 v)) = fldsK 4 ad o (ud f 1 v) := by simp [fldsK, ud]
theorem set_4_3 (ad : Nat → Nat → Nat) (o : Nat) (f : Int → Int) (v : Int) : (fldsK 4 ad o f).set 3 (.int (i32 v)) = fldsK 4 ad o (ud f 3 v) := by simp [fldsK, ud]
theorem set_4_4 (ad : Nat → Nat → Nat) (o : Nat) (f : Int → Int) (v : Int) : (fldsK 4 ad o f).set 4 (.int (i32 v)) = fldsK 4 ad o (ud f 4 v) := by simp [fldsK, ud]
theorem set_5_0 (ad : Nat → Nat → Nat) (o : Nat) (f : Int → Int) (v : Int) : (fldsK 5 ad o f).set 0 (.int (i32 v)) = fldsK 5 ad o (ud f 0 v) := by simp [fldsK, ud]
noncomputable def vA (S : St) (o r n : Nat) (z : Int) : Int := if 0 ≤ z ∧ z < n then S o r z else -1
theorem vA_in {S : St} {o r n : Nat} {z : Int} (h0 : 0 ≤ z) (h1 : z < n) : vA S o r n z = S o r z := if_pos ⟨h0, h1⟩
noncomputable def sA (S : St) (o r n : Nat) (z v : Int) : St := if 0 ≤ z ∧ z < n then st S o r z v else S
theorem sA_in {S : St} {o r n : Nat} {z v : Int} (h0 : 0 ≤ z) (h1 : z < n) : sA S o r n z v = st S o r z v := if_pos ⟨h0, h1⟩
/-- a letter's sign -/
def sg (z : Int) : Int := if z = 82 then 0 else if z = 66 then 1 else if z = 89 then 2 else if z = 71 then 3 else if z = 87 then 4 else if z = 90 then 5 else if z = 88 then 6 else -1
/-- which exception: that of the first condition that does not hold -/
noncomputable def thr (A B C : Prop) : Int := @ite Int A (Classical.propDecidable A) (@ite Int B (Classical.propDecidable B) (@ite Int C (Classical.propDecidable C) 0 3) 2) 1
theorem thr_1 {A B C : Prop} (a : ¬ A) : thr A B C = 1 := by unfold thr; exact if_neg a
theorem thr_2 {A B C : Prop} (a : A) (b : ¬ B) : thr A B C = 2 := by unfold thr; rw [if_pos a, if_neg b]
theorem thr_3 {A B C : Prop} (a : A) (b : B) (c : ¬ C) : thr A B C = 3 := by unfold thr; rw [if_pos a, if_pos b, if_neg c]
theorem thr_0 {A B C : Prop} (a : A) (b : B) (c : C) : thr A B C = 0 := by unfold thr; rw [if_pos a, if_pos b, if_pos c]
theorem thr_rng (A B C : Prop) : rng (thr A B C) := by
  by_cases a : A
  · by_cases b : B
    · by_cases c : C
      · rw [thr_0 a b c]; exact ⟨by decide, by decide⟩
      · rw [thr_3 a b c]; exact ⟨by decide, by decide⟩
    · rw [thr_2 a b]; exact ⟨by decide, by decide⟩
  · rw [thr_1 a]; exact ⟨by decide, by decide⟩
theorem thr_z {A B C : Prop} : thr A B C = 0 ↔ A ∧ B ∧ C := by
  refine ⟨fun h => ?_, fun h => thr_0 h.1 h.2.1 h.2.2⟩
  by_cases a : A
  · by_cases b : B
    · by_cases c : C
      · exact ⟨a, b, c⟩
      · rw [thr_3 a b c] at h; exact absurd h (by decide)
    · rw [thr_2 a b] at h; exact absurd h (by decide)
  · rw [thr_1 a] at h; exact absurd h (by decide)
theorem mk_m {l : Launch} {y : MethodName} {cc : ByteArray} {maxL : Nat} {ret : Option FieldType} {own : String} {g : GT} {base : Nat} {ad : Nat → Nat → Nat} {S : St} {av : List Value} {lv0 : List (Nat × Value)} {rm : Room} {Qc : Array Value → State → Outcome → State → Prop} {mc ms : Nat}
    (hy : plainName y.cls = true) (ho : y.cls = own) (hn : (lg_sl av).length ≤ maxL) (hlv : lv_args 0 av = lv0)
    (body : ∀ (p : Program) (e : Env) (s : State) (m : MethodId) (below : List Frame) (meth : Method) (c : Code) (av : Array Value) (Qm : State → Prop), p.tables.exec = Jvm.exec → c.code = cc → meth.sig.returnType = ret → c.maxLocals = maxL → s.vm.findClass own = some m.cls → meth.locks = false → KK g s → ZZ base s s.heap → pic g base ad S s.heap → Qm = MQ below Qc av s mc ms (fun q => base ≤ q) → ∀ ls : Array Slot, lv_has ls maxL lv0 →
      W p l e rm s m av below meth c s.heap [] 0 0 Qm (F0 m 0 ls [])) :
    Met l y [Cond.code y cc maxL ret] rm (va_Pc av (PK g base ad S)) Qc mc ms (fun q => base ≤ q) :=
  mk_met hy ho hn hlv (fun p e s m below meth c hx hb hr hml hown hlocks _ hK hZ hP ls hl => body p e s m below meth c _ _ hx hb hr hml hown hlocks hK hZ hP rfl ls hl)
theorem mk_mx {l : Launch} {y : MethodName} {cc : ByteArray} {maxL : Nat} {ret : Option FieldType} {own : String} {g : GT} {base : Nat} {ad : Nat → Nat → Nat} {S : St} {av : List Value} {lv0 : List (Nat × Value)} {rm : Room} {Qc : Array Value → State → Outcome → State → Prop} {XC : String → State → State → Prop} {mc ms : Nat}
    (hy : plainName y.cls = true) (ho : y.cls = own) (hn : (lg_sl av).length ≤ maxL) (hlv : lv_args 0 av = lv0)
    (body : ∀ (p : Program) (e : Env) (s : State) (m : MethodId) (below : List Frame) (meth : Method) (c : Code) (av : Array Value) (Qm : State → Prop), p.tables.exec = Jvm.exec → c.code = cc → meth.sig.returnType = ret → c.maxLocals = maxL → s.vm.findClass own = some m.cls → meth.locks = false → (∀ x ∈ c.exceptionTable.toList, False) → KK g s → ZZ base s s.heap → pic g base ad S s.heap → Qm = vx_MQ below Qc XC av s mc ms (fun q => base ≤ q) → ∀ ls : Array Slot, lv_has ls maxL lv0 →
      W p l e rm s m av below meth c s.heap [] 0 0 Qm (F0 m 0 ls [])) :
    vx_Met l y [Cond.code y cc maxL ret] rm (va_Pc av (PK g base ad S)) Qc XC mc ms (fun q => base ≤ q) :=
  mk_metx hy ho hn hlv (fun p e s m below meth c hx hb hr hml hown hlocks _ hout hK hZ hP ls hl => body p e s m below meth c _ _ hx hb hr hml hown hlocks hout hK hZ hP rfl ls hl)
end
section
set_option maxHeartbeats 4000000 in
set_option maxRecDepth 100000 in
theorem c_X3_valueAt (l : Launch) (g : GT) (base : Nat) (ad : Nat → Nat → Nat) (S : St) (o r k n : Nat) (z : Int) (hal : S o 0 (-1) = 1) (hkd : kd o = k) (har : arK k r = some (0, n)) (hr0 : r ≠ 0) (hnn : n < 2147483648) (hrn : rng z) : Met l yX3_valueAt [Cond.code yX3_valueAt cX3_valueAt 2 (some FieldType.int)] ({ frames := 0, cells := 0, slots := 0, locals := 0 }) (va_Pc [.ref (ad o r), .int (i32 (z))] (PK g base ad S)) (gQ g base (an (some (.int (i32 (vA S o r n z)))) ad S)) 0 0 (fun q => base ≤ q) := by
  refine mk_m (own := RX3) (lv0 := [(0, .ref (ad o r)), (1, .int (i32 (z)))]) (by decide) rfl (Nat.le_of_ble_eq_true rfl) rfl ?_
  intro p e s m below meth cz av Qm hx hb hr hml hown hlocks hK hZ hP hQm ls hl
  have hS : va_S (fun q => base ≤ q) s.heap s.heap [] := va_S.rf
  have rS : ∀ (a b : Nat) (i : Int), rng (S a b i) := fun a b i => hP.rg a b i
  obtain ⟨hz1, hz2⟩ := id hrn
  refine lv_iload_n hx hb dX3_valueAt_0 rfl (lv_at hl 1 rfl) ?_
  have J17 : ∀ (b17 : Int) (H : Heap) (locs : List Loc), (((z < 0) ∧ b17 = -1) ∨ ((0 ≤ z) ∧ (z < n) ∧ b17 = S o r z) ∨ ((0 ≤ z) ∧ (n ≤ z) ∧ b17 = -1)) → pic g base ad S H → va_S (fun q => base ≤ q) s.heap H locs → W p l e ({ frames := 0, cells := 0, slots := 0, locals := 0 } : Room) s m av below meth cz H locs 0 0 Qm (F0 m 17 ls (Value.int (i32 b17) :: [])) := by
    intro b17 H locs hb17 hP hS
    refine q_nm (show (b17 : Int) = vA S o r n z from by unfold vA; split <;> omega) ?_
    subst hQm
    exact q_iret hx hb hr hlocks hP hS ⟨rfl, rfl, rfl⟩ (by decide) (by decide) dX3_valueAt_17
  refine q_if_lt (tgt := 10) hx hb hrn dX3_valueAt_1 (by decide) (fun c_1 => ?_) (fun c_1 => ?_)
  · -- z < 0
    refine lv_iconst (v := i32 (-1)) hx hb dX3_valueAt_10 rfl ?_
    refine lv_goto (tgt := 17) hx hb dX3_valueAt_11 (by decide) ?_
    exact J17 _ _ _ (by first | omega | (simp only [*]; done) | simp_all) hP hS
  · -- 0 ≤ z
    refine lv_iload_n hx hb dX3_valueAt_4 rfl (lv_at hl 1 rfl) ?_
    refine lv_aload_n hx hb dX3_valueAt_5 rfl (lv_at hl 0 rfl) ?_
    refine p_alen (k := k) (r := r) (q := 0) (n := n) hx hb hK hP hal hkd har hr0 (by decide) dX3_valueAt_6 ?_
    refine q_icmp_lt (tgt := 14) hx hb hrn ⟨by omega, by omega⟩ dX3_valueAt_7 (by decide) (fun c_2 => ?_) (fun c_2 => ?_)
    · -- z < n
      refine lv_aload_n hx hb dX3_valueAt_14 rfl (lv_at hl 0 rfl) ?_
      refine lv_iload_n hx hb dX3_valueAt_15 rfl (lv_at hl 1 rfl) ?_
      refine p_iald (k := k) (r := r) (n := n) hx hb hK hP hal hkd har hr0 hnn (by omega) (by omega) dX3_valueAt_16 ?_
      exact J17 _ _ _ (by first | omega | (simp only [*]; done) | simp_all) hP hS
    · -- n ≤ z
      refine lv_iconst (v := i32 (-1)) hx hb dX3_valueAt_10 rfl ?_
      refine lv_goto (tgt := 17) hx hb dX3_valueAt_11 (by decide) ?_
      exact J17 _ _ _ (by first | omega | (simp only [*]; done) | simp_all) hP hS

set_option maxHeartbeats 4000000 in
set_option maxRecDepth 100000 in
theorem c_X3_setAt (l : Launch) (g : GT) (base : Nat) (ad : Nat → Nat → Nat) (S : St) (o r k n : Nat) (z v : Int) (hal : S o 0 (-1) = 1) (hkd : kd o = k) (har : arK k r = some (0, n)) (hr0 : r ≠ 0) (hnn : n < 2147483648) (hrn : rng z) (hrv : rng v) : Met l yX3_setAt [Cond.code yX3_setAt cX3_setAt 3 (none : Option FieldType)] ({ frames := 0, cells := 0, slots := 0, locals := 0 }) (va_Pc [.ref (ad o r), .int (i32 (z)), .int (i32 (v))] (PK g base ad S)) (gQ g base (an (none) ad (sA S o r n z v))) 0 0 (fun q => base ≤ q) := by
  refine mk_m (own := RX3) (lv0 := [(0, .ref (ad o r)), (1, .int (i32 (z))), (2, .int (i32 (v)))]) (by decide) rfl (Nat.le_of_ble_eq_true rfl) rfl ?_
  intro p e s m below meth cz av Qm hx hb hr hml hown hlocks hK hZ hP hQm ls hl
  have hS : va_S (fun q => base ≤ q) s.heap s.heap [] := va_S.rf
  have rS : ∀ (a b : Nat) (i : Int), rng (S a b i) := fun a b i => hP.rg a b i
  obtain ⟨hz1, hz2⟩ := id hrn
  refine lv_iload_n hx hb dX3_setAt_0 rfl (lv_at hl 1 rfl) ?_
  refine q_if_lt (tgt := 14) hx hb hrn dX3_setAt_1 (by decide) (fun c_1 => ?_) (fun c_1 => ?_)
  · -- z < 0
    subst hQm
    exact q_vret hx hb hr hlocks hP hS ⟨rfl, rfl, (by unfold sA; rw [if_neg (by omega)])⟩ (by decide) (by decide) dX3_setAt_14
  · -- 0 ≤ z
    refine lv_iload_n hx hb dX3_setAt_4 rfl (lv_at hl 1 rfl) ?_
    refine lv_aload_n hx hb dX3_setAt_5 rfl (lv_at hl 0 rfl) ?_
    refine p_alen (k := k) (r := r) (q := 0) (n := n) hx hb hK hP hal hkd har hr0 (by decide) dX3_setAt_6 ?_
    refine q_icmp_ge (tgt := 14) hx hb hrn ⟨by omega, by omega⟩ dX3_setAt_7 (by decide) (fun c_2 => ?_) (fun c_2 => ?_)
    · -- n ≤ z
      subst hQm
      exact q_vret hx hb hr hlocks hP hS ⟨rfl, rfl, (by unfold sA; rw [if_neg (by omega)])⟩ (by decide) (by decide) dX3_setAt_14
    · -- z < n
      refine lv_aload_n hx hb dX3_setAt_10 rfl (lv_at hl 0 rfl) ?_
      refine lv_iload_n hx hb dX3_setAt_11 rfl (lv_at hl 1 rfl) ?_
      refine lv_iload_n hx hb dX3_setAt_12 rfl (lv_at hl 2 rfl) ?_
      refine p_iast (k := k) (r := r) (n := n) hx hb hK hP hS hal hkd har hr0 hnn (by omega) (by omega) hrv dX3_setAt_13 (fun H locs hP hS => ?_)
      generalize eS3 : st S o r z v = S3 at hP
      have qS3 : ∀ (a b : Nat) (i : Int), S3 a b i = if a = o ∧ b = r ∧ i = z then v else S a b i := fun a b i => by rw [← eS3]; exact st_at _ _ _ _ _ _ _ _
      have rS3 : ∀ (a b : Nat) (i : Int), rng (S3 a b i) := fun a b i => hP.rg a b i
      have aS3_o : S3 o 0 (-1) = 1 := by rw [qS3, if_neg (by omega)]; exact hal
      subst hQm
      exact q_vret hx hb hr hlocks hP hS ⟨rfl, rfl, (by unfold sA; rw [if_pos ⟨by omega, by omega⟩, ← eS3])⟩ (by decide) (by decide) dX3_setAt_14

set_option maxHeartbeats 4000000 in
set_option maxRecDepth 100000 in
theorem c_X0_width (l : Launch) (g : GT) (base : Nat) (ad : Nat → Nat → Nat) (S : St) (o : Nat) (hal : S o 0 (-1) = 1) (hkd : kd o = 4) : Met l yX0_width [Cond.code yX0_width cX0_width 1 (some FieldType.int)] ({ frames := 0, cells := 0, slots := 0, locals := 0 }) (va_Pc [.ref (ad o 0)] (PK g base ad S)) (gQ g base (an (some (.int (i32 (S o 0 0)))) ad S)) 0 0 (fun q => base ≤ q) := by
  refine mk_m (own := RX0) (lv0 := [(0, .ref (ad o 0))]) (by decide) rfl (Nat.le_of_ble_eq_true rfl) rfl ?_
  intro p e s m below meth cz av Qm hx hb hr hml hown hlocks hK hZ hP hQm ls hl
  have hS : va_S (fun q => base ≤ q) s.heap s.heap [] := va_S.rf
  have rS : ∀ (a b : Nat) (i : Int), rng (S a b i) := fun a b i => hP.rg a b i
  refine lv_aload_n hx hb dX0_width_0 rfl (lv_at hl 0 rfl) ?_
  refine p_get (k := 4) hx hb hown hK hP hal hkd rfl rfl (lay_X0 hK) 0 263 (by decide) t_263 rfl rfl dX0_width_1 ?_
  subst hQm
  exact q_iret hx hb hr hlocks hP hS ⟨rfl, rfl, rfl⟩ (by decide) (by decide) dX0_width_4

set_option maxHeartbeats 4000000 in
set_option maxRecDepth 100000 in
theorem c_X0_height (l : Launch) (g : GT) (base : Nat) (ad : Nat → Nat → Nat) (S : St) (o : Nat) (hal : S o 0 (-1) = 1) (hkd : kd o = 4) : Met l yX0_height [Cond.code yX0_height cX0_height 1 (some FieldType.int)] ({ frames := 0, cells := 0, slots := 0, locals := 0 }) (va_Pc [.ref (ad o 0)] (PK g base ad S)) (gQ g base (an (some (.int (i32 (S o 0 1)))) ad S)) 0 0 (fun q => base ≤ q) := by
  refine mk_m (own := RX0) (lv0 := [(0, .ref (ad o 0))]) (by decide) rfl (Nat.le_of_ble_eq_true rfl) rfl ?_
  intro p e s m below meth cz av Qm hx hb hr hml hown hlocks hK hZ hP hQm ls hl
  have hS : va_S (fun q => base ≤ q) s.heap s.heap [] := va_S.rf
  have rS : ∀ (a b : Nat) (i : Int), rng (S a b i) := fun a b i => hP.rg a b i
  refine lv_aload_n hx hb dX0_height_0 rfl (lv_at hl 0 rfl) ?_
  refine p_get (k := 4) hx hb hown hK hP hal hkd rfl rfl (lay_X0 hK) 1 264 (by decide) t_264 rfl rfl dX0_height_1 ?_
  subst hQm
  exact q_iret hx hb hr hlocks hP hS ⟨rfl, rfl, rfl⟩ (by decide) (by decide) dX0_height_4

set_option maxHeartbeats 4000000 in
set_option maxRecDepth 100000 in
theorem c_X1_count (l : Launch) (g : GT) (base : Nat) (ad : Nat → Nat → Nat) (S : St) (o : Nat) (hal : S o 0 (-1) = 1) (hkd : kd o = 2) : Met l yX1_count [Cond.code yX1_count cX1_count 1 (some FieldType.int)] ({ frames := 0, cells := 0, slots := 0, locals := 0 }) (va_Pc [.ref (ad o 0)] (PK g base ad S)) (gQ g base (an (some (.int (i32 (S o 0 0)))) ad S)) 0 0 (fun q => base ≤ q) := by
  refine mk_m (own := RX1) (lv0 := [(0, .ref (ad o 0))]) (by decide) rfl (Nat.le_of_ble_eq_true rfl) rfl ?_
  intro p e s m below meth cz av Qm hx hb hr hml hown hlocks hK hZ hP hQm ls hl
  have hS : va_S (fun q => base ≤ q) s.heap s.heap [] := va_S.rf
  have rS : ∀ (a b : Nat) (i : Int), rng (S a b i) := fun a b i => hP.rg a b i
  refine lv_aload_n hx hb dX1_count_0 rfl (lv_at hl 0 rfl) ?_
  refine p_get (k := 2) hx hb hown hK hP hal hkd rfl rfl (lay_X1 hK) 0 62 (by decide) t_62 rfl rfl dX1_count_1 ?_
  subst hQm
  exact q_iret hx hb hr hlocks hP hS ⟨rfl, rfl, rfl⟩ (by decide) (by decide) dX1_count_4

set_option maxHeartbeats 4000000 in
set_option maxRecDepth 100000 in
theorem c_X2_width (l : Launch) (g : GT) (base : Nat) (ad : Nat → Nat → Nat) (S : St) (o : Nat) (hal : S o 0 (-1) = 1) (hkd : kd o = 5) : Met l yX2_width [Cond.code yX2_width cX2_width 1 (some FieldType.int)] ({ frames := 0, cells := 0, slots := 0, locals := 0 }) (va_Pc [.ref (ad o 0)] (PK g base ad S)) (gQ g base (an (some (.int (i32 (S o 0 0)))) ad S)) 0 0 (fun q => base ≤ q) := by
  refine mk_m (own := RX2) (lv0 := [(0, .ref (ad o 0))]) (by decide) rfl (Nat.le_of_ble_eq_true rfl) rfl ?_
  intro p e s m below meth cz av Qm hx hb hr hml hown hlocks hK hZ hP hQm ls hl
  have hS : va_S (fun q => base ≤ q) s.heap s.heap [] := va_S.rf
  have rS : ∀ (a b : Nat) (i : Int), rng (S a b i) := fun a b i => hP.rg a b i
  refine lv_aload_n hx hb dX2_width_0 rfl (lv_at hl 0 rfl) ?_
  refine p_get (k := 5) hx hb hown hK hP hal hkd rfl rfl (lay_X2 hK) 0 388 (by decide) t_388 rfl rfl dX2_width_1 ?_
  subst hQm
  exact q_iret hx hb hr hlocks hP hS ⟨rfl, rfl, rfl⟩ (by decide) (by decide) dX2_width_4

set_option maxHeartbeats 4000000 in
set_option maxRecDepth 100000 in
theorem c_X2_height (l : Launch) (g : GT) (base : Nat) (ad : Nat → Nat → Nat) (S : St) (o : Nat) (hal : S o 0 (-1) = 1) (hkd : kd o = 5) : Met l yX2_height [Cond.code yX2_height cX2_height 1 (some FieldType.int)] ({ frames := 0, cells := 0, slots := 0, locals := 0 }) (va_Pc [.ref (ad o 0)] (PK g base ad S)) (gQ g base (an (some (.int (i32 (S o 0 1)))) ad S)) 0 0 (fun q => base ≤ q) := by
  refine mk_m (own := RX2) (lv0 := [(0, .ref (ad o 0))]) (by decide) rfl (Nat.le_of_ble_eq_true rfl) rfl ?_
  intro p e s m below meth cz av Qm hx hb hr hml hown hlocks hK hZ hP hQm ls hl
  have hS : va_S (fun q => base ≤ q) s.heap s.heap [] := va_S.rf
  have rS : ∀ (a b : Nat) (i : Int), rng (S a b i) := fun a b i => hP.rg a b i
  refine lv_aload_n hx hb dX2_height_0 rfl (lv_at hl 0 rfl) ?_
  refine p_get (k := 5) hx hb hown hK hP hal hkd rfl rfl (lay_X2 hK) 1 389 (by decide) t_389 rfl rfl dX2_height_1 ?_
  subst hQm
  exact q_iret hx hb hr hlocks hP hS ⟨rfl, rfl, rfl⟩ (by decide) (by decide) dX2_height_4

set_option maxHeartbeats 4000000 in
set_option maxRecDepth 100000 in
theorem c_X2_weavers (l : Launch) (g : GT) (base : Nat) (ad : Nat → Nat → Nat) (S : St) (o : Nat) (hal : S o 0 (-1) = 1) (hkd : kd o = 5) : Met l yX2_weavers [Cond.code yX2_weavers cX2_weavers 1 (some FieldType.int)] ({ frames := 0, cells := 0, slots := 0, locals := 0 }) (va_Pc [.ref (ad o 0)] (PK g base ad S)) (gQ g base (an (some (.int (i32 (S o 0 2)))) ad S)) 0 0 (fun q => base ≤ q) := by
  refine mk_m (own := RX2) (lv0 := [(0, .ref (ad o 0))]) (by decide) rfl (Nat.le_of_ble_eq_true rfl) rfl ?_
  intro p e s m below meth cz av Qm hx hb hr hml hown hlocks hK hZ hP hQm ls hl
  have hS : va_S (fun q => base ≤ q) s.heap s.heap [] := va_S.rf
  have rS : ∀ (a b : Nat) (i : Int), rng (S a b i) := fun a b i => hP.rg a b i
  refine lv_aload_n hx hb dX2_weavers_0 rfl (lv_at hl 0 rfl) ?_
  refine p_get (k := 5) hx hb hown hK hP hal hkd rfl rfl (lay_X2 hK) 2 390 (by decide) t_390 rfl rfl dX2_weavers_1 ?_
  subst hQm
  exact q_iret hx hb hr hlocks hP hS ⟨rfl, rfl, rfl⟩ (by decide) (by decide) dX2_weavers_4

set_option maxHeartbeats 4000000 in
set_option maxRecDepth 100000 in
theorem c_X4_thrown (l : Launch) (g : GT) (base : Nat) (ad : Nat → Nat → Nat) (S : St)  (hal : S 0 0 (-1) = 1) : Met l yX4_thrown [Cond.code yX4_thrown cX4_thrown 1 (some FieldType.int)] ({ frames := 0, cells := 0, slots := 0, locals := 0 }) (va_Pc [.ref (ad 0 0)] (PK g base ad S)) (gQ g base (an (some (.int (i32 (S 0 0 27)))) ad S)) 0 0 (fun q => base ≤ q) := by
  refine mk_m (own := RX4) (lv0 := [(0, .ref (ad 0 0))]) (by decide) rfl (Nat.le_of_ble_eq_true rfl) rfl ?_
  intro p e s m below meth cz av Qm hx hb hr hml hown hlocks hK hZ hP hQm ls hl
  have hS : va_S (fun q => base ≤ q) s.heap s.heap [] := va_S.rf
  have rS : ∀ (a b : Nat) (i : Int), rng (S a b i) := fun a b i => hP.rg a b i
  refine lv_aload_n hx hb dX4_thrown_0 rfl (lv_at hl 0 rfl) ?_
  refine p_get (k := 0) hx hb hown hK hP hal rfl rfl rfl (lay_X4 hK) 27 725 (by decide) t_725 rfl rfl dX4_thrown_1 ?_
  subst hQm
  exact q_iret hx hb hr hlocks hP hS ⟨rfl, rfl, rfl⟩ (by decide) (by decide) dX4_thrown_4

set_option maxHeartbeats 4000000 in
set_option maxRecDepth 100000 in
theorem c_X4_in (l : Launch) (g : GT) (base : Nat) (ad : Nat → Nat → Nat) (S : St) (v lo hi : Int) (hrn : rng v) (hrn2 : rng lo) (hrn3 : rng hi) : Met l yX4_in [Cond.code yX4_in cX4_in 3 (some FieldType.boolean)] ({ frames := 0, cells := 0, slots := 0, locals := 0 }) (va_Pc [.int (i32 (v)), .int (i32 (lo)), .int (i32 (hi))] (PK g base ad S)) (gQ g base (an (some (.int (i32 (b2 (lo ≤ v ∧ v ≤ hi))))) ad S)) 0 0 (fun q => base ≤ q) := by
  refine mk_m (own := RX4) (lv0 := [(0, .int (i32 (v))), (1, .int (i32 (lo))), (2, .int (i32 (hi)))]) (by decide) rfl (Nat.le_of_ble_eq_true rfl) rfl ?_
  intro p e s m below meth cz av Qm hx hb hr hml hown hlocks hK hZ hP hQm ls hl
  have hS : va_S (fun q => base ≤ q) s.heap s.heap [] := va_S.rf
  have rS : ∀ (a b : Nat) (i : Int), rng (S a b i) := fun a b i => hP.rg a b i
  refine lv_iload_n hx hb dX4_in_0 rfl (lv_at hl 0 rfl) ?_
  refine lv_iload_n hx hb dX4_in_1 rfl (lv_at hl 1 rfl) ?_
  have J15 : ∀ (H : Heap) (locs : List Loc), pic g base ad S H → va_S (fun q => base ≤ q) s.heap H locs → W p l e ({ frames := 0, cells := 0, slots := 0, locals := 0 } : Room) s m av below meth cz H locs 0 0 Qm (F0 m 15 ls (Value.int (i32 (b2 ((lo ≤ v) ∧ (v ≤ hi)))) :: [])) := by
    intro H locs hP hS
    refine q_nm (b2_c (show ((lo ≤ v) ∧ (v ≤ hi)) ↔ (lo ≤ v ∧ v ≤ hi) from by first | omega | (simp only [*]; done) | simp_all)) ?_
    subst hQm
    exact q_zret hx hb hr hlocks hP hS (b2_01 _) ⟨rfl, rfl, rfl⟩ (by decide) (by decide) dX4_in_15
  refine q_icmp_lt (tgt := 14) hx hb hrn hrn2 dX4_in_2 (by decide) (fun c_1 => ?_) (fun c_1 => ?_)
  · -- v < lo
    refine lv_iconst (v := i32 (0)) hx hb dX4_in_14 rfl ?_
    refine q_nm (b2_f (show ¬ ((lo ≤ v) ∧ (v ≤ hi)) from by first | omega | (simp only [*]; done) | simp_all)).symm ?_
    exact J15 _ _ hP hS
  · -- lo ≤ v
    refine lv_iload_n hx hb dX4_in_5 rfl (lv_at hl 0 rfl) ?_
    refine lv_iload_n hx hb dX4_in_6 rfl (lv_at hl 2 rfl) ?_
    refine q_icmp_gt (tgt := 14) hx hb hrn hrn3 dX4_in_7 (by decide) (fun c_2 => ?_) (fun c_2 => ?_)
    · -- hi < v
      refine lv_iconst (v := i32 (0)) hx hb dX4_in_14 rfl ?_
      refine q_nm (b2_f (show ¬ ((lo ≤ v) ∧ (v ≤ hi)) from by first | omega | (simp only [*]; done) | simp_all)).symm ?_
      exact J15 _ _ hP hS
    · -- v ≤ hi
      refine lv_iconst (v := i32 (1)) hx hb dX4_in_10 rfl ?_
      refine lv_goto (tgt := 15) hx hb dX4_in_11 (by decide) ?_
      refine q_nm (b2_t (show (lo ≤ v) ∧ (v ≤ hi) from by first | omega | (simp only [*]; done) | simp_all)).symm ?_
      exact J15 _ _ hP hS

set_option maxHeartbeats 4000000 in
set_option maxRecDepth 100000 in
theorem c_X4_isColour (l : Launch) (g : GT) (base : Nat) (ad : Nat → Nat → Nat) (S : St) (v : Int) (hrn : rng v) : Met l yX4_isColour [Cond.code yX4_isColour cX4_isColour 1 (some FieldType.boolean)] ({ frames := 1, cells := 0, slots := 0, locals := 22 }) (va_Pc [.int (i32 (v))] (PK g base ad S)) (gQ g base (an (some (.int (i32 (b2 (0 ≤ v ∧ v ≤ 5))))) ad S)) 0 0 (fun q => base ≤ q) := by
  refine mk_m (own := RX4) (lv0 := [(0, .int (i32 (v)))]) (by decide) rfl (Nat.le_of_ble_eq_true rfl) rfl ?_
  intro p e s m below meth cz av Qm hx hb hr hml hown hlocks hK hZ hP hQm ls hl
  have hS : va_S (fun q => base ≤ q) s.heap s.heap [] := va_S.rf
  have rS : ∀ (a b : Nat) (i : Int), rng (S a b i) := fun a b i => hP.rg a b i
  refine lv_iload_n hx hb dX4_isColour_0 rfl (lv_at hl 0 rfl) ?_
  refine lv_iconst (v := i32 (0)) hx hb dX4_isColour_1 rfl ?_
  refine lv_iconst (v := i32 (5)) hx hb dX4_isColour_2 rfl ?_
  refine q_callS hx hb hml hl.1 hown hK hZ hP hS (c_X4_in l g base ad S v 0 5 hrn ⟨by decide, by decide⟩ ⟨by decide, by decide⟩) t_807 (q_callB hK 806 36 808 t_806 t_36 t_808 f_yX4_in ⟨by decide, by decide⟩) rfl rfl (by decide) dX4_isColour_3 ⟨by decide, by decide⟩  (q_an (fun H locs hP hS => ?_))
  subst hQm
  exact q_zret hx hb hr hlocks hP hS (b2_01 _) ⟨rfl, rfl, rfl⟩ (by decide) (by decide) dX4_isColour_6

set_option maxHeartbeats 4000000 in
set_option maxRecDepth 100000 in
theorem c_X4_at (l : Launch) (g : GT) (base : Nat) (ad : Nat → Nat → Nat) (S : St) (x c r : Int)  : Met l yX4_at [Cond.code yX4_at cX4_at 3 (some FieldType.int)] ({ frames := 0, cells := 0, slots := 0, locals := 0 }) (va_Pc [.int (i32 (x)), .int (i32 (c)), .int (i32 (r))] (PK g base ad S)) (gQ g base (an (some (.int (i32 (240 * x + 10 * c + r)))) ad S)) 0 0 (fun q => base ≤ q) := by
  refine mk_m (own := RX4) (lv0 := [(0, .int (i32 (x))), (1, .int (i32 (c))), (2, .int (i32 (r)))]) (by decide) rfl (Nat.le_of_ble_eq_true rfl) rfl ?_
  intro p e s m below meth cz av Qm hx hb hr hml hown hlocks hK hZ hP hQm ls hl
  have hS : va_S (fun q => base ≤ q) s.heap s.heap [] := va_S.rf
  have rS : ∀ (a b : Nat) (i : Int), rng (S a b i) := fun a b i => hP.rg a b i
  refine lv_sipush (v := i32 (240)) hx hb dX4_at_0 (by decide) ?_
  refine lv_iload_n hx hb dX4_at_3 rfl (lv_at hl 0 rfl) ?_
  refine q_imul hx hb dX4_at_4 ?_
  refine lv_bipush (v := i32 (10)) hx hb dX4_at_5 (by decide) ?_
  refine lv_iload_n hx hb dX4_at_7 rfl (lv_at hl 1 rfl) ?_
  refine q_imul hx hb dX4_at_8 ?_
  refine q_iadd hx hb dX4_at_9 ?_
  refine lv_iload_n hx hb dX4_at_10 rfl (lv_at hl 2 rfl) ?_
  refine q_iadd hx hb dX4_at_11 ?_
  refine q_nm (show (((240 * x) + (10 * c)) + r : Int) = 240 * x + 10 * c + r from by omega) ?_
  subst hQm
  exact q_iret hx hb hr hlocks hP hS ⟨rfl, rfl, rfl⟩ (by decide) (by decide) dX4_at_12

set_option maxHeartbeats 4000000 in
set_option maxRecDepth 100000 in
theorem c_X2_placeOf (l : Launch) (g : GT) (base : Nat) (ad : Nat → Nat → Nat) (S : St) (r c : Int)  : Met l yX2_placeOf [Cond.code yX2_placeOf cX2_placeOf 2 (some FieldType.int)] ({ frames := 0, cells := 0, slots := 0, locals := 0 }) (va_Pc [.int (i32 (r)), .int (i32 (c))] (PK g base ad S)) (gQ g base (an (some (.int (i32 (r * 24 + c)))) ad S)) 0 0 (fun q => base ≤ q) := by
  refine mk_m (own := RX2) (lv0 := [(0, .int (i32 (r))), (1, .int (i32 (c)))]) (by decide) rfl (Nat.le_of_ble_eq_true rfl) rfl ?_
  intro p e s m below meth cz av Qm hx hb hr hml hown hlocks hK hZ hP hQm ls hl
  have hS : va_S (fun q => base ≤ q) s.heap s.heap [] := va_S.rf
  have rS : ∀ (a b : Nat) (i : Int), rng (S a b i) := fun a b i => hP.rg a b i
  refine lv_iload_n hx hb dX2_placeOf_0 rfl (lv_at hl 0 rfl) ?_
  refine lv_bipush (v := i32 (24)) hx hb dX2_placeOf_1 (by decide) ?_
  refine q_imul hx hb dX2_placeOf_3 ?_
  refine lv_iload_n hx hb dX2_placeOf_4 rfl (lv_at hl 1 rfl) ?_
  refine q_iadd hx hb dX2_placeOf_5 ?_
  refine q_nm (show ((r * 24) + c : Int) = r * 24 + c from by omega) ?_
  subst hQm
  exact q_iret hx hb hr hlocks hP hS ⟨rfl, rfl, rfl⟩ (by decide) (by decide) dX2_placeOf_6

set_option maxHeartbeats 4000000 in
set_option maxRecDepth 100000 in
theorem c_X2_originOf (l : Launch) (g : GT) (base : Nat) (ad : Nat → Nat → Nat) (S : St) (r c : Int)  : Met l yX2_originOf [Cond.code yX2_originOf cX2_originOf 2 (some FieldType.int)] ({ frames := 0, cells := 0, slots := 0, locals := 0 }) (va_Pc [.int (i32 (r)), .int (i32 (c))] (PK g base ad S)) (gQ g base (an (some (.int (i32 (r * 24 + c)))) ad S)) 0 0 (fun q => base ≤ q) := by
  refine mk_m (own := RX2) (lv0 := [(0, .int (i32 (r))), (1, .int (i32 (c)))]) (by decide) rfl (Nat.le_of_ble_eq_true rfl) rfl ?_
  intro p e s m below meth cz av Qm hx hb hr hml hown hlocks hK hZ hP hQm ls hl
  have hS : va_S (fun q => base ≤ q) s.heap s.heap [] := va_S.rf
  have rS : ∀ (a b : Nat) (i : Int), rng (S a b i) := fun a b i => hP.rg a b i
  refine lv_iload_n hx hb dX2_originOf_0 rfl (lv_at hl 0 rfl) ?_
  refine lv_bipush (v := i32 (24)) hx hb dX2_originOf_1 (by decide) ?_
  refine q_imul hx hb dX2_originOf_3 ?_
  refine lv_iload_n hx hb dX2_originOf_4 rfl (lv_at hl 1 rfl) ?_
  refine q_iadd hx hb dX2_originOf_5 ?_
  refine q_nm (show ((r * 24) + c : Int) = r * 24 + c from by omega) ?_
  subst hQm
  exact q_iret hx hb hr hlocks hP hS ⟨rfl, rfl, rfl⟩ (by decide) (by decide) dX2_originOf_6

set_option maxHeartbeats 4000000 in
set_option maxRecDepth 100000 in
theorem c_X3_signOf (l : Launch) (g : GT) (base : Nat) (ad : Nat → Nat → Nat) (S : St) (z : Int) (hrn : rng z) : Met l yX3_signOf [Cond.code yX3_signOf cX3_signOf 1 (some FieldType.int)] ({ frames := 0, cells := 0, slots := 0, locals := 0 }) (va_Pc [.int (i32 (z))] (PK g base ad S)) (gQ g base (an (some (.int (i32 (sg z)))) ad S)) 0 0 (fun q => base ≤ q) := by
  refine mk_m (own := RX3) (lv0 := [(0, .int (i32 (z)))]) (by decide) rfl (Nat.le_of_ble_eq_true rfl) rfl ?_
  intro p e s m below meth cz av Qm hx hb hr hml hown hlocks hK hZ hP hQm ls hl
  have hS : va_S (fun q => base ≤ q) s.heap s.heap [] := va_S.rf
  have rS : ∀ (a b : Nat) (i : Int), rng (S a b i) := fun a b i => hP.rg a b i
  refine lv_iload_n hx hb dX3_signOf_0 rfl (lv_at hl 0 rfl) ?_
  by_cases w_1_66 : z = 66
  · have hw : (i32 z).toInt = 66 := by rw [i32_toInt hrn]; exact w_1_66
    refine lv_tableIn (off := 117) (tgt := 118) hx hb dX3_signOf_1 (by rw [hw]; decide) (by rw [hw]; decide) (by rw [hw]; rfl) (by decide) ?_
    refine lv_iconst (v := i32 (1)) hx hb dX3_signOf_118 rfl ?_
    refine q_nm (show (1 : Int) = sg z from by rw [w_1_66]; decide) ?_
    subst hQm
    exact q_iret hx hb hr hlocks hP hS ⟨rfl, rfl, rfl⟩ (by decide) (by decide) dX3_signOf_119
  by_cases w_1_71 : z = 71
  · have hw : (i32 z).toInt = 71 := by rw [i32_toInt hrn]; exact w_1_71
    refine lv_tableIn (off := 121) (tgt := 122) hx hb dX3_signOf_1 (by rw [hw]; decide) (by rw [hw]; decide) (by rw [hw]; rfl) (by decide) ?_
    refine lv_iconst (v := i32 (3)) hx hb dX3_signOf_122 rfl ?_
    refine q_nm (show (3 : Int) = sg z from by rw [w_1_71]; decide) ?_
    subst hQm
    exact q_iret hx hb hr hlocks hP hS ⟨rfl, rfl, rfl⟩ (by decide) (by decide) dX3_signOf_123
  by_cases w_1_82 : z = 82
  · have hw : (i32 z).toInt = 82 := by rw [i32_toInt hrn]; exact w_1_82
    refine lv_tableIn (off := 115) (tgt := 116) hx hb dX3_signOf_1 (by rw [hw]; decide) (by rw [hw]; decide) (by rw [hw]; rfl) (by decide) ?_
    refine lv_iconst (v := i32 (0)) hx hb dX3_signOf_116 rfl ?_
    refine q_nm (show (0 : Int) = sg z from by rw [w_1_82]; decide) ?_
    subst hQm
    exact q_iret hx hb hr hlocks hP hS ⟨rfl, rfl, rfl⟩ (by decide) (by decide) dX3_signOf_117
  by_cases w_1_87 : z = 87
  · have hw : (i32 z).toInt = 87 := by rw [i32_toInt hrn]; exact w_1_87
    refine lv_tableIn (off := 123) (tgt := 124) hx hb dX3_signOf_1 (by rw [hw]; decide) (by rw [hw]; decide) (by rw [hw]; rfl) (by decide) ?_
    refine lv_iconst (v := i32 (4)) hx hb dX3_signOf_124 rfl ?_
    refine q_nm (show (4 : Int) = sg z from by rw [w_1_87]; decide) ?_
    subst hQm
    exact q_iret hx hb hr hlocks hP hS ⟨rfl, rfl, rfl⟩ (by decide) (by decide) dX3_signOf_125
  by_cases w_1_88 : z = 88
  · have hw : (i32 z).toInt = 88 := by rw [i32_toInt hrn]; exact w_1_88
    refine lv_tableIn (off := 127) (tgt := 128) hx hb dX3_signOf_1 (by rw [hw]; decide) (by rw [hw]; decide) (by rw [hw]; rfl) (by decide) ?_
    refine lv_bipush (v := i32 (6)) hx hb dX3_signOf_128 (by decide) ?_
    refine q_nm (show (6 : Int) = sg z from by rw [w_1_88]; decide) ?_
    subst hQm
    exact q_iret hx hb hr hlocks hP hS ⟨rfl, rfl, rfl⟩ (by decide) (by decide) dX3_signOf_130
  by_cases w_1_89 : z = 89
  · have hw : (i32 z).toInt = 89 := by rw [i32_toInt hrn]; exact w_1_89
    refine lv_tableIn (off := 119) (tgt := 120) hx hb dX3_signOf_1 (by rw [hw]; decide) (by rw [hw]; decide) (by rw [hw]; rfl) (by decide) ?_
    refine lv_iconst (v := i32 (2)) hx hb dX3_signOf_120 rfl ?_
    refine q_nm (show (2 : Int) = sg z from by rw [w_1_89]; decide) ?_
    subst hQm
    exact q_iret hx hb hr hlocks hP hS ⟨rfl, rfl, rfl⟩ (by decide) (by decide) dX3_signOf_121
  by_cases w_1_90 : z = 90
  · have hw : (i32 z).toInt = 90 := by rw [i32_toInt hrn]; exact w_1_90
    refine lv_tableIn (off := 125) (tgt := 126) hx hb dX3_signOf_1 (by rw [hw]; decide) (by rw [hw]; decide) (by rw [hw]; rfl) (by decide) ?_
    refine lv_iconst (v := i32 (5)) hx hb dX3_signOf_126 rfl ?_
    refine q_nm (show (5 : Int) = sg z from by rw [w_1_90]; decide) ?_
    subst hQm
    exact q_iret hx hb hr hlocks hP hS ⟨rfl, rfl, rfl⟩ (by decide) (by decide) dX3_signOf_127
  have hdf : ∀ (H : Heap) (locs : List Loc), pic g base ad S H → va_S (fun q => base ≤ q) s.heap H locs → W p l e ({ frames := 0, cells := 0, slots := 0, locals := 0 } : Room) s m av below meth cz H locs 0 0 Qm (F0 m 131 ls ([])) := by
    intro H locs hP hS
    refine lv_iconst (v := i32 (-1)) hx hb dX3_signOf_131 rfl ?_
    refine q_nm (show (-1 : Int) = sg z from by unfold sg; rw [if_neg (by omega), if_neg (by omega), if_neg (by omega), if_neg (by omega), if_neg (by omega), if_neg (by omega), if_neg (by omega)]) ?_
    subst hQm
    exact q_iret hx hb hr hlocks hP hS ⟨rfl, rfl, rfl⟩ (by decide) (by decide) dX3_signOf_132
  by_cases w_1_67 : z = 67
  · have hw : (i32 z).toInt = 67 := by rw [i32_toInt hrn]; exact w_1_67
    exact lv_tableIn (off := 130) (tgt := 131) hx hb dX3_signOf_1 (by rw [hw]; decide) (by rw [hw]; decide) (by rw [hw]; rfl) (by decide) (hdf _ _ hP hS)
  by_cases w_1_68 : z = 68
  · have hw : (i32 z).toInt = 68 := by rw [i32_toInt hrn]; exact w_1_68
    exact lv_tableIn (off := 130) (tgt := 131) hx hb dX3_signOf_1 (by rw [hw]; decide) (by rw [hw]; decide) (by rw [hw]; rfl) (by decide) (hdf _ _ hP hS)
  by_cases w_1_69 : z = 69
  · have hw : (i32 z).toInt = 69 := by rw [i32_toInt hrn]; exact w_1_69
    exact lv_tableIn (off := 130) (tgt := 131) hx hb dX3_signOf_1 (by rw [hw]; decide) (by rw [hw]; decide) (by rw [hw]; rfl) (by decide) (hdf _ _ hP hS)
  by_cases w_1_70 : z = 70
  · have hw : (i32 z).toInt = 70 := by rw [i32_toInt hrn]; exact w_1_70
    exact lv_tableIn (off := 130) (tgt := 131) hx hb dX3_signOf_1 (by rw [hw]; decide) (by rw [hw]; decide) (by rw [hw]; rfl) (by decide) (hdf _ _ hP hS)
  by_cases w_1_72 : z = 72
  · have hw : (i32 z).toInt = 72 := by rw [i32_toInt hrn]; exact w_1_72
    exact lv_tableIn (off := 130) (tgt := 131) hx hb dX3_signOf_1 (by rw [hw]; decide) (by rw [hw]; decide) (by rw [hw]; rfl) (by decide) (hdf _ _ hP hS)
  by_cases w_1_73 : z = 73
  · have hw : (i32 z).toInt = 73 := by rw [i32_toInt hrn]; exact w_1_73
    exact lv_tableIn (off := 130) (tgt := 131) hx hb dX3_signOf_1 (by rw [hw]; decide) (by rw [hw]; decide) (by rw [hw]; rfl) (by decide) (hdf _ _ hP hS)
  by_cases w_1_74 : z = 74
  · have hw : (i32 z).toInt = 74 := by rw [i32_toInt hrn]; exact w_1_74
    exact lv_tableIn (off := 130) (tgt := 131) hx hb dX3_signOf_1 (by rw [hw]; decide) (by rw [hw]; decide) (by rw [hw]; rfl) (by decide) (hdf _ _ hP hS)
  by_cases w_1_75 : z = 75
  · have hw : (i32 z).toInt = 75 := by rw [i32_toInt hrn]; exact w_1_75
    exact lv_tableIn (off := 130) (tgt := 131) hx hb dX3_signOf_1 (by rw [hw]; decide) (by rw [hw]; decide) (by rw [hw]; rfl) (by decide) (hdf _ _ hP hS)
  by_cases w_1_76 : z = 76
  · have hw : (i32 z).toInt = 76 := by rw [i32_toInt hrn]; exact w_1_76
    exact lv_tableIn (off := 130) (tgt := 131) hx hb dX3_signOf_1 (by rw [hw]; decide) (by rw [hw]; decide) (by rw [hw]; rfl) (by decide) (hdf _ _ hP hS)
  by_cases w_1_77 : z = 77
  · have hw : (i32 z).toInt = 77 := by rw [i32_toInt hrn]; exact w_1_77
    exact lv_tableIn (off := 130) (tgt := 131) hx hb dX3_signOf_1 (by rw [hw]; decide) (by rw [hw]; decide) (by rw [hw]; rfl) (by decide) (hdf _ _ hP hS)
  by_cases w_1_78 : z = 78
  · have hw : (i32 z).toInt = 78 := by rw [i32_toInt hrn]; exact w_1_78
    exact lv_tableIn (off := 130) (tgt := 131) hx hb dX3_signOf_1 (by rw [hw]; decide) (by rw [hw]; decide) (by rw [hw]; rfl) (by decide) (hdf _ _ hP hS)
  by_cases w_1_79 : z = 79
  · have hw : (i32 z).toInt = 79 := by rw [i32_toInt hrn]; exact w_1_79
    exact lv_tableIn (off := 130) (tgt := 131) hx hb dX3_signOf_1 (by rw [hw]; decide) (by rw [hw]; decide) (by rw [hw]; rfl) (by decide) (hdf _ _ hP hS)
  by_cases w_1_80 : z = 80
  · have hw : (i32 z).toInt = 80 := by rw [i32_toInt hrn]; exact w_1_80
    exact lv_tableIn (off := 130) (tgt := 131) hx hb dX3_signOf_1 (by rw [hw]; decide) (by rw [hw]; decide) (by rw [hw]; rfl) (by decide) (hdf _ _ hP hS)
  by_cases w_1_81 : z = 81
  · have hw : (i32 z).toInt = 81 := by rw [i32_toInt hrn]; exact w_1_81
    exact lv_tableIn (off := 130) (tgt := 131) hx hb dX3_signOf_1 (by rw [hw]; decide) (by rw [hw]; decide) (by rw [hw]; rfl) (by decide) (hdf _ _ hP hS)
  by_cases w_1_83 : z = 83
  · have hw : (i32 z).toInt = 83 := by rw [i32_toInt hrn]; exact w_1_83
    exact lv_tableIn (off := 130) (tgt := 131) hx hb dX3_signOf_1 (by rw [hw]; decide) (by rw [hw]; decide) (by rw [hw]; rfl) (by decide) (hdf _ _ hP hS)
  by_cases w_1_84 : z = 84
  · have hw : (i32 z).toInt = 84 := by rw [i32_toInt hrn]; exact w_1_84
    exact lv_tableIn (off := 130) (tgt := 131) hx hb dX3_signOf_1 (by rw [hw]; decide) (by rw [hw]; decide) (by rw [hw]; rfl) (by decide) (hdf _ _ hP hS)
  by_cases w_1_85 : z = 85
  · have hw : (i32 z).toInt = 85 := by rw [i32_toInt hrn]; exact w_1_85
    exact lv_tableIn (off := 130) (tgt := 131) hx hb dX3_signOf_1 (by rw [hw]; decide) (by rw [hw]; decide) (by rw [hw]; rfl) (by decide) (hdf _ _ hP hS)
  by_cases w_1_86 : z = 86
  · have hw : (i32 z).toInt = 86 := by rw [i32_toInt hrn]; exact w_1_86
    exact lv_tableIn (off := 130) (tgt := 131) hx hb dX3_signOf_1 (by rw [hw]; decide) (by rw [hw]; decide) (by rw [hw]; rfl) (by decide) (hdf _ _ hP hS)
  exact lv_tableOut (tgt := 131) hx hb dX3_signOf_1 (by rw [i32_toInt hrn]; omega) (by decide) (hdf _ _ hP hS)

set_option maxHeartbeats 4000000 in
set_option maxRecDepth 100000 in
theorem c_X4_numberOf (l : Launch) (g : GT) (base : Nat) (ad : Nat → Nat → Nat) (S : St) (z : Int) (hrn : rng z) : Met l yX4_numberOf [Cond.code yX4_numberOf cX4_numberOf 1 (some FieldType.int)] ({ frames := 0, cells := 0, slots := 0, locals := 0 }) (va_Pc [.int (i32 (z))] (PK g base ad S)) (gQ g base (an (some (.int (i32 (sg z)))) ad S)) 0 0 (fun q => base ≤ q) := by
  refine mk_m (own := RX4) (lv0 := [(0, .int (i32 (z)))]) (by decide) rfl (Nat.le_of_ble_eq_true rfl) rfl ?_
  intro p e s m below meth cz av Qm hx hb hr hml hown hlocks hK hZ hP hQm ls hl
  have hS : va_S (fun q => base ≤ q) s.heap s.heap [] := va_S.rf
  have rS : ∀ (a b : Nat) (i : Int), rng (S a b i) := fun a b i => hP.rg a b i
  refine lv_iload_n hx hb dX4_numberOf_0 rfl (lv_at hl 0 rfl) ?_
  by_cases w_1_66 : z = 66
  · have hw : (i32 z).toInt = 66 := by rw [i32_toInt hrn]; exact w_1_66
    refine lv_tableIn (off := 117) (tgt := 118) hx hb dX4_numberOf_1 (by rw [hw]; decide) (by rw [hw]; decide) (by rw [hw]; rfl) (by decide) ?_
    refine lv_iconst (v := i32 (1)) hx hb dX4_numberOf_118 rfl ?_
    refine q_nm (show (1 : Int) = sg z from by rw [w_1_66]; decide) ?_
    subst hQm
    exact q_iret hx hb hr hlocks hP hS ⟨rfl, rfl, rfl⟩ (by decide) (by decide) dX4_numberOf_119
  by_cases w_1_71 : z = 71
  · have hw : (i32 z).toInt = 71 := by rw [i32_toInt hrn]; exact w_1_71
    refine lv_tableIn (off := 121) (tgt := 122) hx hb dX4_numberOf_1 (by rw [hw]; decide) (by rw [hw]; decide) (by rw [hw]; rfl) (by decide) ?_
    refine lv_iconst (v := i32 (3)) hx hb dX4_numberOf_122 rfl ?_
    refine q_nm (show (3 : Int) = sg z from by rw [w_1_71]; decide) ?_
    subst hQm
    exact q_iret hx hb hr hlocks hP hS ⟨rfl, rfl, rfl⟩ (by decide) (by decide) dX4_numberOf_123
  by_cases w_1_82 : z = 82
  · have hw : (i32 z).toInt = 82 := by rw [i32_toInt hrn]; exact w_1_82
    refine lv_tableIn (off := 115) (tgt := 116) hx hb dX4_numberOf_1 (by rw [hw]; decide) (by rw [hw]; decide) (by rw [hw]; rfl) (by decide) ?_
    refine lv_iconst (v := i32 (0)) hx hb dX4_numberOf_116 rfl ?_
    refine q_nm (show (0 : Int) = sg z from by rw [w_1_82]; decide) ?_
    subst hQm
    exact q_iret hx hb hr hlocks hP hS ⟨rfl, rfl, rfl⟩ (by decide) (by decide) dX4_numberOf_117
  by_cases w_1_87 : z = 87
  · have hw : (i32 z).toInt = 87 := by rw [i32_toInt hrn]; exact w_1_87
    refine lv_tableIn (off := 123) (tgt := 124) hx hb dX4_numberOf_1 (by rw [hw]; decide) (by rw [hw]; decide) (by rw [hw]; rfl) (by decide) ?_
    refine lv_iconst (v := i32 (4)) hx hb dX4_numberOf_124 rfl ?_
    refine q_nm (show (4 : Int) = sg z from by rw [w_1_87]; decide) ?_
    subst hQm
    exact q_iret hx hb hr hlocks hP hS ⟨rfl, rfl, rfl⟩ (by decide) (by decide) dX4_numberOf_125
  by_cases w_1_88 : z = 88
  · have hw : (i32 z).toInt = 88 := by rw [i32_toInt hrn]; exact w_1_88
    refine lv_tableIn (off := 127) (tgt := 128) hx hb dX4_numberOf_1 (by rw [hw]; decide) (by rw [hw]; decide) (by rw [hw]; rfl) (by decide) ?_
    refine lv_bipush (v := i32 (6)) hx hb dX4_numberOf_128 (by decide) ?_
    refine q_nm (show (6 : Int) = sg z from by rw [w_1_88]; decide) ?_
    subst hQm
    exact q_iret hx hb hr hlocks hP hS ⟨rfl, rfl, rfl⟩ (by decide) (by decide) dX4_numberOf_130
  by_cases w_1_89 : z = 89
  · have hw : (i32 z).toInt = 89 := by rw [i32_toInt hrn]; exact w_1_89
    refine lv_tableIn (off := 119) (tgt := 120) hx hb dX4_numberOf_1 (by rw [hw]; decide) (by rw [hw]; decide) (by rw [hw]; rfl) (by decide) ?_
    refine lv_iconst (v := i32 (2)) hx hb dX4_numberOf_120 rfl ?_
    refine q_nm (show (2 : Int) = sg z from by rw [w_1_89]; decide) ?_
    subst hQm
    exact q_iret hx hb hr hlocks hP hS ⟨rfl, rfl, rfl⟩ (by decide) (by decide) dX4_numberOf_121
  by_cases w_1_90 : z = 90
  · have hw : (i32 z).toInt = 90 := by rw [i32_toInt hrn]; exact w_1_90
    refine lv_tableIn (off := 125) (tgt := 126) hx hb dX4_numberOf_1 (by rw [hw]; decide) (by rw [hw]; decide) (by rw [hw]; rfl) (by decide) ?_
    refine lv_iconst (v := i32 (5)) hx hb dX4_numberOf_126 rfl ?_
    refine q_nm (show (5 : Int) = sg z from by rw [w_1_90]; decide) ?_
    subst hQm
    exact q_iret hx hb hr hlocks hP hS ⟨rfl, rfl, rfl⟩ (by decide) (by decide) dX4_numberOf_127
  have hdf : ∀ (H : Heap) (locs : List Loc), pic g base ad S H → va_S (fun q => base ≤ q) s.heap H locs → W p l e ({ frames := 0, cells := 0, slots := 0, locals := 0 } : Room) s m av below meth cz H locs 0 0 Qm (F0 m 131 ls ([])) := by
    intro H locs hP hS
    refine lv_iconst (v := i32 (-1)) hx hb dX4_numberOf_131 rfl ?_
    refine q_nm (show (-1 : Int) = sg z from by unfold sg; rw [if_neg (by omega), if_neg (by omega), if_neg (by omega), if_neg (by omega), if_neg (by omega), if_neg (by omega), if_neg (by omega)]) ?_
    subst hQm
    exact q_iret hx hb hr hlocks hP hS ⟨rfl, rfl, rfl⟩ (by decide) (by decide) dX4_numberOf_132
  by_cases w_1_67 : z = 67
  · have hw : (i32 z).toInt = 67 := by rw [i32_toInt hrn]; exact w_1_67
    exact lv_tableIn (off := 130) (tgt := 131) hx hb dX4_numberOf_1 (by rw [hw]; decide) (by rw [hw]; decide) (by rw [hw]; rfl) (by decide) (hdf _ _ hP hS)
  by_cases w_1_68 : z = 68
  · have hw : (i32 z).toInt = 68 := by rw [i32_toInt hrn]; exact w_1_68
    exact lv_tableIn (off := 130) (tgt := 131) hx hb dX4_numberOf_1 (by rw [hw]; decide) (by rw [hw]; decide) (by rw [hw]; rfl) (by decide) (hdf _ _ hP hS)
  by_cases w_1_69 : z = 69
  · have hw : (i32 z).toInt = 69 := by rw [i32_toInt hrn]; exact w_1_69
    exact lv_tableIn (off := 130) (tgt := 131) hx hb dX4_numberOf_1 (by rw [hw]; decide) (by rw [hw]; decide) (by rw [hw]; rfl) (by decide) (hdf _ _ hP hS)
  by_cases w_1_70 : z = 70
  · have hw : (i32 z).toInt = 70 := by rw [i32_toInt hrn]; exact w_1_70
    exact lv_tableIn (off := 130) (tgt := 131) hx hb dX4_numberOf_1 (by rw [hw]; decide) (by rw [hw]; decide) (by rw [hw]; rfl) (by decide) (hdf _ _ hP hS)
  by_cases w_1_72 : z = 72
  · have hw : (i32 z).toInt = 72 := by rw [i32_toInt hrn]; exact w_1_72
    exact lv_tableIn (off := 130) (tgt := 131) hx hb dX4_numberOf_1 (by rw [hw]; decide) (by rw [hw]; decide) (by rw [hw]; rfl) (by decide) (hdf _ _ hP hS)
  by_cases w_1_73 : z = 73
  · have hw : (i32 z).toInt = 73 := by rw [i32_toInt hrn]; exact w_1_73
    exact lv_tableIn (off := 130) (tgt := 131) hx hb dX4_numberOf_1 (by rw [hw]; decide) (by rw [hw]; decide) (by rw [hw]; rfl) (by decide) (hdf _ _ hP hS)
  by_cases w_1_74 : z = 74
  · have hw : (i32 z).toInt = 74 := by rw [i32_toInt hrn]; exact w_1_74
    exact lv_tableIn (off := 130) (tgt := 131) hx hb dX4_numberOf_1 (by rw [hw]; decide) (by rw [hw]; decide) (by rw [hw]; rfl) (by decide) (hdf _ _ hP hS)
  by_cases w_1_75 : z = 75
  · have hw : (i32 z).toInt = 75 := by rw [i32_toInt hrn]; exact w_1_75
    exact lv_tableIn (off := 130) (tgt := 131) hx hb dX4_numberOf_1 (by rw [hw]; decide) (by rw [hw]; decide) (by rw [hw]; rfl) (by decide) (hdf _ _ hP hS)
  by_cases w_1_76 : z = 76
  · have hw : (i32 z).toInt = 76 := by rw [i32_toInt hrn]; exact w_1_76
    exact lv_tableIn (off := 130) (tgt := 131) hx hb dX4_numberOf_1 (by rw [hw]; decide) (by rw [hw]; decide) (by rw [hw]; rfl) (by decide) (hdf _ _ hP hS)
  by_cases w_1_77 : z = 77
  · have hw : (i32 z).toInt = 77 := by rw [i32_toInt hrn]; exact w_1_77
    exact lv_tableIn (off := 130) (tgt := 131) hx hb dX4_numberOf_1 (by rw [hw]; decide) (by rw [hw]; decide) (by rw [hw]; rfl) (by decide) (hdf _ _ hP hS)
  by_cases w_1_78 : z = 78
  · have hw : (i32 z).toInt = 78 := by rw [i32_toInt hrn]; exact w_1_78
    exact lv_tableIn (off := 130) (tgt := 131) hx hb dX4_numberOf_1 (by rw [hw]; decide) (by rw [hw]; decide) (by rw [hw]; rfl) (by decide) (hdf _ _ hP hS)
  by_cases w_1_79 : z = 79
  · have hw : (i32 z).toInt = 79 := by rw [i32_toInt hrn]; exact w_1_79
    exact lv_tableIn (off := 130) (tgt := 131) hx hb dX4_numberOf_1 (by rw [hw]; decide) (by rw [hw]; decide) (by rw [hw]; rfl) (by decide) (hdf _ _ hP hS)
  by_cases w_1_80 : z = 80
  · have hw : (i32 z).toInt = 80 := by rw [i32_toInt hrn]; exact w_1_80
    exact lv_tableIn (off := 130) (tgt := 131) hx hb dX4_numberOf_1 (by rw [hw]; decide) (by rw [hw]; decide) (by rw [hw]; rfl) (by decide) (hdf _ _ hP hS)
  by_cases w_1_81 : z = 81
  · have hw : (i32 z).toInt = 81 := by rw [i32_toInt hrn]; exact w_1_81
    exact lv_tableIn (off := 130) (tgt := 131) hx hb dX4_numberOf_1 (by rw [hw]; decide) (by rw [hw]; decide) (by rw [hw]; rfl) (by decide) (hdf _ _ hP hS)
  by_cases w_1_83 : z = 83
  · have hw : (i32 z).toInt = 83 := by rw [i32_toInt hrn]; exact w_1_83
    exact lv_tableIn (off := 130) (tgt := 131) hx hb dX4_numberOf_1 (by rw [hw]; decide) (by rw [hw]; decide) (by rw [hw]; rfl) (by decide) (hdf _ _ hP hS)
  by_cases w_1_84 : z = 84
  · have hw : (i32 z).toInt = 84 := by rw [i32_toInt hrn]; exact w_1_84
    exact lv_tableIn (off := 130) (tgt := 131) hx hb dX4_numberOf_1 (by rw [hw]; decide) (by rw [hw]; decide) (by rw [hw]; rfl) (by decide) (hdf _ _ hP hS)
  by_cases w_1_85 : z = 85
  · have hw : (i32 z).toInt = 85 := by rw [i32_toInt hrn]; exact w_1_85
    exact lv_tableIn (off := 130) (tgt := 131) hx hb dX4_numberOf_1 (by rw [hw]; decide) (by rw [hw]; decide) (by rw [hw]; rfl) (by decide) (hdf _ _ hP hS)
  by_cases w_1_86 : z = 86
  · have hw : (i32 z).toInt = 86 := by rw [i32_toInt hrn]; exact w_1_86
    exact lv_tableIn (off := 130) (tgt := 131) hx hb dX4_numberOf_1 (by rw [hw]; decide) (by rw [hw]; decide) (by rw [hw]; rfl) (by decide) (hdf _ _ hP hS)
  exact lv_tableOut (tgt := 131) hx hb dX4_numberOf_1 (by rw [i32_toInt hrn]; omega) (by decide) (hdf _ _ hP hS)

set_option maxHeartbeats 4000000 in
set_option maxRecDepth 100000 in
theorem c_X4_goes (l : Launch) (g : GT) (base : Nat) (ad : Nat → Nat → Nat) (S : St) (A B C : Prop) (hal : S 0 0 (-1) = 1) : Met l yX4_goes [Cond.code yX4_goes cX4_goes 4 (some FieldType.boolean)] ({ frames := 0, cells := 0, slots := 0, locals := 0 }) (va_Pc [.ref (ad 0 0), .int (i32 (b2 (A))), .int (i32 (b2 (B))), .int (i32 (b2 (C)))] (PK g base ad S)) (gQ g base (an (some (.int (i32 (b2 (A ∧ B ∧ C))))) ad (st S 0 0 27 (thr A B C)))) 0 0 (fun q => base ≤ q) := by
  refine mk_m (own := RX4) (lv0 := [(0, .ref (ad 0 0)), (1, .int (i32 (b2 (A)))), (2, .int (i32 (b2 (B)))), (3, .int (i32 (b2 (C))))]) (by decide) rfl (Nat.le_of_ble_eq_true rfl) rfl ?_
  intro p e s m below meth cz av Qm hx hb hr hml hown hlocks hK hZ hP hQm ls hl
  have hS : va_S (fun q => base ≤ q) s.heap s.heap [] := va_S.rf
  have rS : ∀ (a b : Nat) (i : Int), rng (S a b i) := fun a b i => hP.rg a b i
  refine lv_aload_n hx hb dX4_goes_0 rfl (lv_at hl 0 rfl) ?_
  refine lv_iload_n hx hb dX4_goes_1 rfl (lv_at hl 1 rfl) ?_
  have J26 : ∀ (b26 : Int) (H : Heap) (locs : List Loc), (((A) ∧ (B) ∧ (C) ∧ b26 = 0) ∨ ((A) ∧ (B) ∧ (¬ (C)) ∧ b26 = 3) ∨ ((A) ∧ (¬ (B)) ∧ b26 = 2) ∨ ((¬ (A)) ∧ b26 = 1)) → pic g base ad S H → va_S (fun q => base ≤ q) s.heap H locs → W p l e ({ frames := 0, cells := 0, slots := 0, locals := 0 } : Room) s m av below meth cz H locs 0 0 Qm (F0 m 26 ls (Value.int (i32 b26) :: Value.ref (ad 0 0) :: [])) := by
    intro b26 H locs hb26 hP hS
    have et : b26 = thr A B C := by
      rcases hb26 with ⟨h1, h2, h3, h⟩ | ⟨h1, h2, h3, h⟩ | ⟨h1, h2, h⟩ | ⟨h1, h⟩
      · rw [h, thr_0 h1 h2 h3]
      · rw [h, thr_3 h1 h2 h3]
      · rw [h, thr_2 h1 h2]
      · rw [h, thr_1 h1]
    subst et
    refine p_put (k := 0) hx hb hown hK hP hS hal rfl rfl rfl (lay_X4 hK) tyX4 tyX4_ok nmX4 27 725 (by decide) t_725 rfl rfl (by decide +kernel) (thr_rng _ _ _) (Nat.le_of_ble_eq_true rfl) (set_0_27 _ _ _ _) dX4_goes_26 (fun H locs hP hS => ?_)
    generalize eS1 : st S 0 0 27 (thr A B C) = S1 at hP
    have qS1 : ∀ (a b : Nat) (i : Int), S1 a b i = if a = 0 ∧ b = 0 ∧ i = 27 then thr A B C else S a b i := fun a b i => by rw [← eS1]; exact st_at _ _ _ _ _ _ _ _
    have rS1 : ∀ (a b : Nat) (i : Int), rng (S1 a b i) := fun a b i => hP.rg a b i
    have aS1_0 : S1 0 0 (-1) = 1 := by rw [qS1, if_neg (by omega)]; exact hal
    refine lv_aload_n hx hb dX4_goes_29 rfl (lv_at hl 0 rfl) ?_
    refine p_get (k := 0) hx hb hown hK hP aS1_0 rfl rfl rfl (lay_X4 hK) 27 725 (by decide) t_725 rfl rfl dX4_goes_30 ?_
    refine q_nm (show S1 0 0 27 = thr A B C from by rw [qS1, if_pos ⟨rfl, rfl, rfl⟩]) ?_
    have J41 : ∀ (H : Heap) (locs : List Loc), pic g base ad S1 H → va_S (fun q => base ≤ q) s.heap H locs → W p l e ({ frames := 0, cells := 0, slots := 0, locals := 0 } : Room) s m av below meth cz H locs 0 0 Qm (F0 m 41 ls (Value.int (i32 (b2 (((thr A B C) = 0)))) :: [])) := by
      intro H locs hP hS
      refine q_nm (b2_c (show (((thr A B C) = 0)) ↔ (A ∧ B ∧ C) from by exact thr_z)) ?_
      subst hQm
      exact q_zret hx hb hr hlocks hP hS (b2_01 _) ⟨rfl, rfl, (by rw [← eS1])⟩ (by decide) (by decide) dX4_goes_41
    refine q_if_ne (tgt := 40) hx hb (thr_rng _ _ _) dX4_goes_33 (by decide) (fun c_2 => ?_) (fun c_2 => ?_)
    · -- (thr A B C) ≠ 0
      refine lv_iconst (v := i32 (0)) hx hb dX4_goes_40 rfl ?_
      refine q_nm (b2_f (show ¬ (((thr A B C) = 0)) from by first | omega | (simp only [*]; done) | simp_all)).symm ?_
      exact J41 _ _ hP hS
    · -- (thr A B C) = 0
      refine lv_iconst (v := i32 (1)) hx hb dX4_goes_36 rfl ?_
      refine lv_goto (tgt := 41) hx hb dX4_goes_37 (by decide) ?_
      refine q_nm (b2_t (show ((thr A B C) = 0) from by first | omega | (simp only [*]; done) | simp_all)).symm ?_
      exact J41 _ _ hP hS
  refine q_if_neb (tgt := 9) hx hb dX4_goes_2 (by decide) (fun c_3 => ?_) (fun c_3 => ?_)
  · -- A
    refine lv_iload_n hx hb dX4_goes_9 rfl (lv_at hl 2 rfl) ?_
    refine q_if_neb (tgt := 17) hx hb dX4_goes_10 (by decide) (fun c_4 => ?_) (fun c_4 => ?_)
    · -- B
      refine lv_iload_n hx hb dX4_goes_17 rfl (lv_at hl 3 rfl) ?_
      refine q_if_neb (tgt := 25) hx hb dX4_goes_18 (by decide) (fun c_5 => ?_) (fun c_5 => ?_)
      · -- C
        refine lv_iconst (v := i32 (0)) hx hb dX4_goes_25 rfl ?_
        exact J26 _ _ _ (by first | omega | (simp only [*]; done) | simp_all) hP hS
      · -- ¬ (C)
        refine lv_iconst (v := i32 (3)) hx hb dX4_goes_21 rfl ?_
        refine lv_goto (tgt := 26) hx hb dX4_goes_22 (by decide) ?_
        exact J26 _ _ _ (by first | omega | (simp only [*]; done) | simp_all) hP hS
    · -- ¬ (B)
      refine lv_iconst (v := i32 (2)) hx hb dX4_goes_13 rfl ?_
      refine lv_goto (tgt := 26) hx hb dX4_goes_14 (by decide) ?_
      exact J26 _ _ _ (by first | omega | (simp only [*]; done) | simp_all) hP hS
  · -- ¬ (A)
    refine lv_iconst (v := i32 (1)) hx hb dX4_goes_5 rfl ?_
    refine lv_goto (tgt := 26) hx hb dX4_goes_6 (by decide) ?_
    exact J26 _ _ _ (by first | omega | (simp only [*]; done) | simp_all) hP hS
end
section
/-! ===== the reference's state: bounds that its walk needs ===== -/
def wM (S : St) : Prop :=
  S 0 0 (-1) = 1 ∧ (0 ≤ S 0 0 0 ∧ S 0 0 0 ≤ 12) ∧ (0 ≤ S 0 0 2 ∧ S 0 0 2 ≤ 5) ∧ (0 ≤ S 0 0 8 ∧ S 0 0 8 ≤ 20) ∧ (0 ≤ S 0 0 14 ∧ S 0 0 14 ≤ 20) ∧
  (∀ x, 0 ≤ x → x < 5 → 0 ≤ S 0 4 x ∧ S 0 4 x ≤ 12 ∧ 0 ≤ S 0 5 x ∧ S 0 5 x ≤ 10) ∧
  (∀ x, 0 ≤ x → x < 20 → 0 ≤ S 0 16 x ∧ S 0 16 x ≤ 24 ∧ 0 ≤ S 0 17 x ∧ S 0 17 x ≤ 10 ∧ 0 ≤ S 0 18 x ∧ S 0 18 x ≤ 4 ∧ 0 ≤ S 0 21 x ∧ S 0 21 x ≤ 12) ∧
  (∀ x, 0 ≤ x → x < S 0 0 14 → 1 ≤ S 0 17 x) ∧
  (∀ x, 0 ≤ x → x < 80 → 0 ≤ S 0 20 x ∧ S 0 20 x ≤ 10)
def wrow (r : Nat) (j : Int) : Prop := (r = 0 ∧ (j = -1 ∨ j = 0 ∨ j = 2 ∨ j = 8 ∨ j = 14)) ∨ r = 4 ∨ r = 5 ∨ r = 16 ∨ r = 17 ∨ r = 18 ∨ r = 20 ∨ r = 21
theorem wM.al {S : St} (h : wM S) : S 0 0 (-1) = 1 := h.1
theorem wM.le {S : St} (h : wM S) : 0 ≤ S 0 0 0 ∧ S 0 0 0 ≤ 12 := h.2.1
theorem wM.cs {S : St} (h : wM S) : 0 ≤ S 0 0 2 ∧ S 0 0 2 ≤ 5 := h.2.2.1
theorem wM.lt {S : St} (h : wM S) : 0 ≤ S 0 0 8 ∧ S 0 0 8 ≤ 20 := h.2.2.2.1
theorem wM.ps {S : St} (h : wM S) : 0 ≤ S 0 0 14 ∧ S 0 0 14 ≤ 20 := h.2.2.2.2.1
theorem wM.cw {S : St} (h : wM S) (x : Int) (h0 : 0 ≤ x) (h1 : x < 5) : 0 ≤ S 0 4 x ∧ S 0 4 x ≤ 12 ∧ 0 ≤ S 0 5 x ∧ S 0 5 x ≤ 10 := h.2.2.2.2.2.1 x h0 h1
theorem wM.pc {S : St} (h : wM S) (x : Int) (h0 : 0 ≤ x) (h1 : x < 20) : 0 ≤ S 0 16 x ∧ S 0 16 x ≤ 24 ∧ 0 ≤ S 0 17 x ∧ S 0 17 x ≤ 10 ∧ 0 ≤ S 0 18 x ∧ S 0 18 x ≤ 4 ∧ 0 ≤ S 0 21 x ∧ S 0 21 x ≤ 12 := h.2.2.2.2.2.2.1 x h0 h1
theorem wM.pr {S : St} (h : wM S) (x : Int) (h0 : 0 ≤ x) (h1 : x < S 0 0 14) : 1 ≤ S 0 17 x := h.2.2.2.2.2.2.2.1 x h0 h1
theorem wM.wv {S : St} (h : wM S) (x : Int) (h0 : 0 ≤ x) (h1 : x < 80) : 0 ≤ S 0 20 x ∧ S 0 20 x ≤ 10 := h.2.2.2.2.2.2.2.2 x h0 h1
theorem wM.keep {S S' : St} (h : wM S) (e : ∀ r j, wrow r j → S' 0 r j = S 0 r j) : wM S' := by
  refine ⟨?_, ?_, ?_, ?_, ?_, fun x h0 h1 => ?_, fun x h0 h1 => ?_, fun x h0 h1 => ?_, fun x h0 h1 => ?_⟩
  · rw [e 0 (-1) (by unfold wrow; omega)]; exact h.al
  · rw [e 0 0 (by unfold wrow; omega)]; exact h.le
  · rw [e 0 2 (by unfold wrow; omega)]; exact h.cs
  · rw [e 0 8 (by unfold wrow; omega)]; exact h.lt
  · rw [e 0 14 (by unfold wrow; omega)]; exact h.ps
  · rw [e 4 x (by unfold wrow; omega), e 5 x (by unfold wrow; omega)]; exact h.cw x h0 h1
  · rw [e 16 x (by unfold wrow; omega), e 17 x (by unfold wrow; omega), e 18 x (by unfold wrow; omega), e 21 x (by unfold wrow; omega)]; exact h.pc x h0 h1
  · rw [e 0 14 (by unfold wrow; omega)] at h1
    rw [e 17 x (by unfold wrow; omega)]; exact h.pr x h0 h1
  · rw [e 20 x (by unfold wrow; omega)]; exact h.wv x h0 h1
def isC (S : St) (x : Int) : Prop := 0 ≤ x ∧ x < S 0 0 2
def isP (S : St) (x : Int) : Prop := 0 ≤ x ∧ x < S 0 0 14 ∧ S 0 19 x = 0
def dnM (S : St) (x : Int) : Prop := ∀ j, 0 ≤ j → j < S 0 18 x → S 0 20 (4 * x + j) = S 0 17 x
theorem b2_n {a : Int} {φ : Prop} (h : a = b2 φ) : a ≠ 0 ↔ φ := by
  rw [h]
  refine ⟨fun q => Classical.byContradiction fun r => q (b2_f r), fun q => ?_⟩
  rw [b2_t q]
  decide
theorem all_s {φ : Int → Prop} {i : Int} (h : 0 ≤ i) : (∀ j, 0 ≤ j → j < i + 1 → φ j) ↔ (∀ j, 0 ≤ j → j < i → φ j) ∧ φ i := by
  refine ⟨fun q => ⟨fun j h0 h1 => q j h0 (by omega), q i h (by omega)⟩, fun q j h0 h1 => ?_⟩
  by_cases e : j = i
  · rw [e]; exact q.2
  · exact q.1 j h0 (by omega)
theorem ex_s {φ : Int → Prop} {i : Int} (h : 0 ≤ i) : (∃ j, 0 ≤ j ∧ j < i + 1 ∧ φ j) ↔ (∃ j, 0 ≤ j ∧ j < i ∧ φ j) ∨ φ i := by
  refine ⟨fun ⟨j, h0, h1, h2⟩ => ?_, fun q => ?_⟩
  · by_cases e : j = i
    · rw [e] at h2; exact Or.inr h2
    · exact Or.inl ⟨j, h0, by omega, h2⟩
  · rcases q with ⟨j, h0, h1, h2⟩ | q
    · exact ⟨j, h0, by omega, h2⟩
    · exact ⟨i, h, by omega, q⟩
/-- how many rows up to the last of n are unlike, one above the other -/
noncomputable def rl (u : Int → Prop) : Nat → Int
  | 0 => 0
  | n + 1 => @ite Int (u n) (Classical.propDecidable _) (rl u n + 1) 0
theorem rl_t (u : Int → Prop) {i : Int} (h : 0 ≤ i) (hu : u i) : rl u (i + 1).toNat = rl u i.toNat + 1 := by
  obtain ⟨n, rfl⟩ := Int.eq_ofNat_of_zero_le h
  show rl u (n + 1) = rl u n + 1
  unfold rl
  rw [if_pos hu]
  cases n <;> rfl
theorem rl_f (u : Int → Prop) {i : Int} (h : 0 ≤ i) (hu : ¬ u i) : rl u (i + 1).toNat = 0 := by
  obtain ⟨n, rfl⟩ := Int.eq_ofNat_of_zero_le h
  show rl u (n + 1) = 0
  unfold rl
  rw [if_neg hu]
def unM (S : St) (x c : Int) : Int → Prop := fun r => S 0 25 (240 * x + 10 * (c - 1) + r) ≠ S 0 25 (240 * x + 10 * c + r)
def slM (S : St) (x c : Int) : Prop := (∃ j, 0 ≤ j ∧ j < S 0 17 x ∧ rl (unM S x c) (j + 1).toNat = 3) ∧ S 0 24 (24 * x + c) = 0
noncomputable def cif (φ : Prop) (a b : Int) : Int := @ite Int φ (Classical.propDecidable φ) a b
theorem cif_t {φ : Prop} {a b : Int} (h : φ) : cif φ a b = a := by unfold cif; exact if_pos h
theorem cif_f {φ : Prop} {a b : Int} (h : ¬ φ) : cif φ a b = b := by unfold cif; exact if_neg h
theorem dmb {n C R : Int} (h0 : 0 ≤ n) (h1 : n < C * R) (hR : 0 < R) : 0 ≤ n / R ∧ n / R < C ∧ 0 ≤ n % R ∧ n % R < R :=
  ⟨Int.ediv_nonneg h0 (by omega), Int.ediv_lt_of_lt_mul hR h1, Int.emod_nonneg _ (by omega), Int.emod_lt_of_pos _ hR⟩
theorem mul240 {C R : Int} (h1 : 0 ≤ C) (h2 : C ≤ 24) (h3 : 0 ≤ R) (h4 : R ≤ 10) : C * R ≤ 240 := by
  have := Int.mul_le_mul h2 h4 h3 (by decide : (0 : Int) ≤ 24)
  omega
/-- what stands in the n-th cell of a piece, by columns -/
def cM (S : St) (row : Nat) (x : Int) : Int → Int := fun n => S 0 row (240 * x + 10 * (n / S 0 17 x) + n % S 0 17 x)
def shM (S : St) (x : Int) : Int := sm (cM S 27 x) (S 0 16 x * S 0 17 x).toNat
noncomputable def wnM (S : St) (x : Int) : Int := sm (fun n => b2 (cM S 26 x n ≠ -1)) (S 0 16 x * S 0 17 x).toNat
noncomputable def wpM (S : St) (its : Int) : Int → Int := fun x => cif (S 0 19 x = 0) (sm (fun n => b2 (cM S 26 x n = its)) (S 0 16 x * S 0 17 x).toNat) 0
noncomputable def woM (S : St) (its : Int) : Int := sm (wpM S its) (S 0 0 14).toNat
/-- the first from lo on, out of n, for which φ holds; -1 -/
noncomputable def gf (φ : Int → Prop) : Nat → Int → Int
  | 0, _ => -1
  | n + 1, lo => cif (φ lo) lo (gf φ n (lo + 1))
theorem gf_s (φ : Int → Prop) {n : Int} (lo : Int) (h : 0 ≤ n) : gf φ (n + 1).toNat lo = cif (φ lo) lo (gf φ n.toNat (lo + 1)) := by
  obtain ⟨m, rfl⟩ := Int.eq_ofNat_of_zero_le h
  rfl
def gvP (S : St) (its : Int) : Int → Prop := fun k => S 0 10 k = its ∧ 0 < S 0 12 k
noncomputable def gvM (S : St) (its : Int) : Int := gf (gvP S its) (S 0 0 8).toNat 0
noncomputable def drM (S : St) (i r q : Int) : Int := cif (S 0 8 (120 * i + 12 * r + q) = 6) (cif ((r + q) % 2 = 0) (S 0 6 i) (S 0 7 i)) (S 0 8 (120 * i + 12 * r + q))
def mwM (S : St) (x w : Int) : Prop := S 0 20 (4 * x + w) < S 0 17 x ∧ ¬ (0 < w ∧ S 0 20 (4 * x + w - 1) < S 0 20 (4 * x + w)) ∧ ¬ (w < S 0 18 x - 1 ∧ S 0 20 (4 * x + w + 1) < S 0 20 (4 * x + w))
def inM (S : St) (x q : Int) : Prop := isP S x ∧ 1 ≤ q ∧ q ≤ S 0 16 x - 1
end
section
set_option maxHeartbeats 4000000 in
set_option maxRecDepth 100000 in
theorem c_X4_isCartoon (l : Launch) (g : GT) (base : Nat) (ad : Nat → Nat → Nat) (S : St) (x : Int) (hw : wM S) (hrn : rng x) : Met l yX4_isCartoon [Cond.code yX4_isCartoon cX4_isCartoon 2 (some FieldType.boolean)] ({ frames := 1, cells := 0, slots := 0, locals := 22 }) (va_Pc [.ref (ad 0 0), .int (i32 (x))] (PK g base ad S)) (gQ g base (an (some (.int (i32 (b2 (isC S x))))) ad S)) 0 0 (fun q => base ≤ q) := by
  refine mk_m (own := RX4) (lv0 := [(0, .ref (ad 0 0)), (1, .int (i32 (x)))]) (by decide) rfl (Nat.le_of_ble_eq_true rfl) rfl ?_
  intro p e s m below meth cz av Qm hx hb hr hml hown hlocks hK hZ hP hQm ls hl
  have hS : va_S (fun q => base ≤ q) s.heap s.heap [] := va_S.rf
  have rS : ∀ (a b : Nat) (i : Int), rng (S a b i) := fun a b i => hP.rg a b i
  obtain ⟨hz1, hz2⟩ := id hrn
  obtain ⟨hc1, hc2⟩ := hw.cs
  refine lv_iload_n hx hb dX4_isCartoon_0 rfl (lv_at hl 1 rfl) ?_
  refine lv_iconst (v := i32 (0)) hx hb dX4_isCartoon_1 rfl ?_
  refine lv_aload_n hx hb dX4_isCartoon_2 rfl (lv_at hl 0 rfl) ?_
  refine p_get (k := 0) hx hb hown hK hP hw.al rfl rfl rfl (lay_X4 hK) 2 700 (by decide) t_700 rfl rfl dX4_isCartoon_3 ?_
  refine lv_iconst (v := i32 (1)) hx hb dX4_isCartoon_6 rfl ?_
  refine q_isub hx hb dX4_isCartoon_7 ?_
  refine q_callS hx hb hml hl.1 hown hK hZ hP hS (c_X4_in l g base ad S x 0 ((S 0 0 2) - 1) hrn ⟨by decide, by decide⟩ ⟨by omega, by omega⟩) t_807 (q_callB hK 806 36 808 t_806 t_36 t_808 f_yX4_in ⟨by decide, by decide⟩) rfl rfl (Nat.le_of_ble_eq_true rfl) dX4_isCartoon_8 ⟨by decide, by decide⟩  (q_an (fun H locs hP hS => ?_))
  refine q_nm (b2_c (show (0 ≤ x ∧ x ≤ ((S 0 0 2) - 1)) ↔ (isC S x) from by unfold isC; omega)) ?_
  subst hQm
  exact q_zret hx hb hr hlocks hP hS (b2_01 _) ⟨rfl, rfl, rfl⟩ (by decide) (by decide) dX4_isCartoon_11

set_option maxHeartbeats 4000000 in
set_option maxRecDepth 100000 in
theorem c_X4_isPiece (l : Launch) (g : GT) (base : Nat) (ad : Nat → Nat → Nat) (S : St) (x : Int) (hw : wM S) (hrn : rng x) : Met l yX4_isPiece [Cond.code yX4_isPiece cX4_isPiece 2 (some FieldType.boolean)] ({ frames := 1, cells := 0, slots := 0, locals := 22 }) (va_Pc [.ref (ad 0 0), .int (i32 (x))] (PK g base ad S)) (gQ g base (an (some (.int (i32 (b2 (isP S x))))) ad S)) 0 0 (fun q => base ≤ q) := by
  refine mk_m (own := RX4) (lv0 := [(0, .ref (ad 0 0)), (1, .int (i32 (x)))]) (by decide) rfl (Nat.le_of_ble_eq_true rfl) rfl ?_
  intro p e s m below meth cz av Qm hx hb hr hml hown hlocks hK hZ hP hQm ls hl
  have hS : va_S (fun q => base ≤ q) s.heap s.heap [] := va_S.rf
  have rS : ∀ (a b : Nat) (i : Int), rng (S a b i) := fun a b i => hP.rg a b i
  obtain ⟨hz1, hz2⟩ := id hrn
  obtain ⟨hc1, hc2⟩ := hw.ps
  refine lv_iload_n hx hb dX4_isPiece_0 rfl (lv_at hl 1 rfl) ?_
  refine lv_iconst (v := i32 (0)) hx hb dX4_isPiece_1 rfl ?_
  refine lv_aload_n hx hb dX4_isPiece_2 rfl (lv_at hl 0 rfl) ?_
  refine p_get (k := 0) hx hb hown hK hP hw.al rfl rfl rfl (lay_X4 hK) 14 712 (by decide) t_712 rfl rfl dX4_isPiece_3 ?_
  refine lv_iconst (v := i32 (1)) hx hb dX4_isPiece_6 rfl ?_
  refine q_isub hx hb dX4_isPiece_7 ?_
  refine q_callS hx hb hml hl.1 hown hK hZ hP hS (c_X4_in l g base ad S x 0 ((S 0 0 14) - 1) hrn ⟨by decide, by decide⟩ ⟨by omega, by omega⟩) t_807 (q_callB hK 806 36 808 t_806 t_36 t_808 f_yX4_in ⟨by decide, by decide⟩) rfl rfl (Nat.le_of_ble_eq_true rfl) dX4_isPiece_8 ⟨by decide, by decide⟩  (q_an (fun H locs hP hS => ?_))
  have J28 : ∀ (H : Heap) (locs : List Loc), pic g base ad S H → va_S (fun q => base ≤ q) s.heap H locs → W p l e ({ frames := 1, cells := 0, slots := 0, locals := 22 } : Room) s m av below meth cz H locs 0 0 Qm (F0 m 28 ls (Value.int (i32 (b2 ((0 ≤ x ∧ x ≤ ((S 0 0 14) - 1)) ∧ ((S 0 19 x) = 0)))) :: [])) := by
    intro H locs hP hS
    refine q_nm (b2_c (show ((0 ≤ x ∧ x ≤ ((S 0 0 14) - 1)) ∧ ((S 0 19 x) = 0)) ↔ (isP S x) from by unfold isP; omega)) ?_
    subst hQm
    exact q_zret hx hb hr hlocks hP hS (b2_01 _) ⟨rfl, rfl, rfl⟩ (by decide) (by decide) dX4_isPiece_28
  refine q_if_eqb (tgt := 27) hx hb dX4_isPiece_11 (by decide) (fun c_1 => ?_) (fun c_1 => ?_)
  · -- ¬ (0 ≤ x ∧ x ≤ ((S 0 0 14) - 1))
    refine lv_iconst (v := i32 (0)) hx hb dX4_isPiece_27 rfl ?_
    refine q_nm (b2_f (show ¬ ((0 ≤ x ∧ x ≤ ((S 0 0 14) - 1)) ∧ ((S 0 19 x) = 0)) from by first | omega | (simp only [*]; done) | simp_all)).symm ?_
    exact J28 _ _ hP hS
  · -- 0 ≤ x ∧ x ≤ ((S 0 0 14) - 1)
    refine lv_aload_n hx hb dX4_isPiece_14 rfl (lv_at hl 0 rfl) ?_
    refine p_get (k := 0) hx hb hown hK hP hw.al rfl rfl rfl (lay_X4 hK) 18 716 (by decide) t_716 rfl rfl dX4_isPiece_15 ?_
    refine lv_iload_n hx hb dX4_isPiece_18 rfl (lv_at hl 1 rfl) ?_
    refine p_zald (k := 0) (r := 19) (n := 20) hx hb hK hP hw.al rfl rfl (by decide) (by decide) (by omega) (by omega) dX4_isPiece_19 ?_
    refine q_if_ne (tgt := 27) hx hb (hP.rg _ _ _) dX4_isPiece_20 (by decide) (fun c_2 => ?_) (fun c_2 => ?_)
    · -- (S 0 19 x) ≠ 0
      refine lv_iconst (v := i32 (0)) hx hb dX4_isPiece_27 rfl ?_
      refine q_nm (b2_f (show ¬ ((0 ≤ x ∧ x ≤ ((S 0 0 14) - 1)) ∧ ((S 0 19 x) = 0)) from by first | omega | (simp only [*]; done) | simp_all)).symm ?_
      exact J28 _ _ hP hS
    · -- (S 0 19 x) = 0
      refine lv_iconst (v := i32 (1)) hx hb dX4_isPiece_23 rfl ?_
      refine lv_goto (tgt := 28) hx hb dX4_isPiece_24 (by decide) ?_
      refine q_nm (b2_t (show (0 ≤ x ∧ x ≤ ((S 0 0 14) - 1)) ∧ ((S 0 19 x) = 0) from by first | omega | (simp only [*]; done) | simp_all)).symm ?_
      exact J28 _ _ hP hS

set_option maxHeartbeats 4000000 in
set_option maxRecDepth 100000 in
theorem c_X4_isDone (l : Launch) (g : GT) (base : Nat) (ad : Nat → Nat → Nat) (S : St) (x : Int) (hw : wM S) (hxx : 0 ≤ x ∧ x < 20) : Met l yX4_isDone [Cond.code yX4_isDone cX4_isDone 4 (some FieldType.boolean)] ({ frames := 0, cells := 0, slots := 0, locals := 0 }) (va_Pc [.ref (ad 0 0), .int (i32 (x))] (PK g base ad S)) (gQ g base (an (some (.int (i32 (b2 (dnM S x))))) ad S)) 0 0 (fun q => base ≤ q) := by
  refine mk_m (own := RX4) (lv0 := [(0, .ref (ad 0 0)), (1, .int (i32 (x)))]) (by decide) rfl (Nat.le_of_ble_eq_true rfl) rfl ?_
  intro p e s m below meth cz av Qm hx hb hr hml hown hlocks hK hZ hP hQm ls hl
  have hS : va_S (fun q => base ≤ q) s.heap s.heap [] := va_S.rf
  have rS : ∀ (a b : Nat) (i : Int), rng (S a b i) := fun a b i => hP.rg a b i
  obtain ⟨hx0, hx1⟩ := id hxx
  obtain ⟨hc1, hc2, hr1, hr2, hv1, hv2, hd1, hd2⟩ := hw.pc x hx0 hx1
  refine lv_iconst (v := i32 (1)) hx hb dX4_isDone_0 rfl ?_
  refine lv_istore_n (lv' := [(2, .int (i32 (1))), (0, .ref (ad 0 0)), (1, .int (i32 (x)))]) hx hb dX4_isDone_1 rfl hl (by decide) rfl (fun ls hl => ?_)
  refine lv_iconst (v := i32 (0)) hx hb dX4_isDone_2 rfl ?_
  refine lv_istore_n (lv' := [(3, .int (i32 (0))), (2, .int (i32 (1))), (0, .ref (ad 0 0)), (1, .int (i32 (x)))]) hx hb dX4_isDone_3 rfl hl (by decide) rfl (fun ls hl => ?_)
  have L4 : ∀ (k : Nat) (is1 i : Int) (H : Heap) (locs : List Loc) (ls : Array Slot), (0 ≤ i ∧ i ≤ S 0 18 x) → (is1 = b2 (∀ j, 0 ≤ j → j < i → S 0 20 (4 * x + j) = S 0 17 x)) → S 0 18 x - i < (k : Int) → pic g base ad S H → va_S (fun q => base ≤ q) s.heap H locs → lv_has ls 4 [(3, .int (i32 (i))), (2, .int (i32 (is1))), (0, .ref (ad 0 0)), (1, .int (i32 (x)))] → W p l e ({ frames := 0, cells := 0, slots := 0, locals := 0 } : Room) s m av below meth cz H locs 0 0 Qm (F0 m 4 ls []) := by
    intro k
    induction k with
    | zero => intro is1 i H locs ls hi his hmu _ _ _; exact absurd hmu (by omega)
    | succ k ih4 =>
      intro is1 i H locs ls hi his hmu hP hS hl
      refine lv_iload_n hx hb dX4_isDone_4 rfl (lv_at hl 0 rfl) ?_
      refine lv_aload_n hx hb dX4_isDone_5 rfl (lv_at hl 2 rfl) ?_
      refine p_get (k := 0) hx hb hown hK hP hw.al rfl rfl rfl (lay_X4 hK) 17 715 (by decide) t_715 rfl rfl dX4_isDone_6 ?_
      refine lv_iload_n hx hb dX4_isDone_9 rfl (lv_at hl 3 rfl) ?_
      refine p_iald (k := 0) (r := 18) (n := 20) hx hb hK hP hw.al rfl rfl (by decide) (by decide) (by omega) (by omega) dX4_isDone_10 ?_
      refine q_icmp_ge (tgt := 49) hx hb ⟨by omega, by omega⟩ (hP.rg _ _ _) dX4_isDone_11 (by decide) (fun c_1 => ?_) (fun c_1 => ?_)
      · -- (S 0 18 x) ≤ i
        refine lv_iload_n hx hb dX4_isDone_49 rfl (lv_at hl 1 rfl) ?_
        refine q_nm (show (is1 : Int) = b2 (dnM S x) from by rw [his, show i = S 0 18 x from by omega]; rfl) ?_
        subst hQm
        exact q_zret hx hb hr hlocks hP hS (b2_01 _) ⟨rfl, rfl, rfl⟩ (by decide) (by decide) dX4_isDone_50
      · -- i < (S 0 18 x)
        refine lv_iload_n hx hb dX4_isDone_14 rfl (lv_at hl 1 rfl) ?_
        have J42 : ∀ (H : Heap) (locs : List Loc), pic g base ad S H → va_S (fun q => base ≤ q) s.heap H locs → W p l e ({ frames := 0, cells := 0, slots := 0, locals := 0 } : Room) s m av below meth cz H locs 0 0 Qm (F0 m 42 ls (Value.int (i32 (b2 ((is1 ≠ 0) ∧ ((S 0 20 ((4 * x) + i)) = (S 0 17 x))))) :: [])) := by
          intro H locs hP hS
          refine lv_istore_n (lv' := [(2, .int (i32 (b2 ((is1 ≠ 0) ∧ ((S 0 20 ((4 * x) + i)) = (S 0 17 x)))))), (3, .int (i32 (i))), (0, .ref (ad 0 0)), (1, .int (i32 (x)))]) hx hb dX4_isDone_42 rfl hl (by decide) rfl (fun ls hl => ?_)
          refine lv_iinc (v := i32 (i + 1)) (lv' := [(3, .int (i32 (i + 1))), (2, .int (i32 (b2 ((is1 ≠ 0) ∧ ((S 0 20 ((4 * x) + i)) = (S 0 17 x)))))), (0, .ref (ad 0 0)), (1, .int (i32 (x)))]) hx hb dX4_isDone_43 hl (k := 1) rfl (i32_add _ _) (by decide) rfl (fun ls hl => ?_)
          refine lv_goto (tgt := 4) hx hb dX4_isDone_46 (by decide) ?_
          exact ih4 (b2 ((is1 ≠ 0) ∧ ((S 0 20 ((4 * x) + i)) = (S 0 17 x)))) (i + 1) _ _ _ (by omega) (by exact b2_c ((and_congr (b2_n his) Iff.rfl).trans (all_s hi.1).symm)) (by omega) hP hS (lv_sub hl [0, 1, 2, 3] rfl)
        refine q_if_eq (tgt := 41) hx hb (his ▸ b2_rng _) dX4_isDone_15 (by decide) (fun c_2 => ?_) (fun c_2 => ?_)
        · -- is1 = 0
          refine lv_iconst (v := i32 (0)) hx hb dX4_isDone_41 rfl ?_
          refine q_nm (b2_f (show ¬ ((is1 ≠ 0) ∧ ((S 0 20 ((4 * x) + i)) = (S 0 17 x))) from by first | omega | (simp only [*]; done) | simp_all)).symm ?_
          exact J42 _ _ hP hS
        · -- is1 ≠ 0
          refine lv_aload_n hx hb dX4_isDone_18 rfl (lv_at hl 2 rfl) ?_
          refine p_get (k := 0) hx hb hown hK hP hw.al rfl rfl rfl (lay_X4 hK) 19 717 (by decide) t_717 rfl rfl dX4_isDone_19 ?_
          refine lv_iconst (v := i32 (4)) hx hb dX4_isDone_22 rfl ?_
          refine lv_iload_n hx hb dX4_isDone_23 rfl (lv_at hl 3 rfl) ?_
          refine q_imul hx hb dX4_isDone_24 ?_
          refine lv_iload_n hx hb dX4_isDone_25 rfl (lv_at hl 0 rfl) ?_
          refine q_iadd hx hb dX4_isDone_26 ?_
          refine p_iald (k := 0) (r := 20) (n := 80) hx hb hK hP hw.al rfl rfl (by decide) (by decide) (by omega) (by omega) dX4_isDone_27 ?_
          refine lv_aload_n hx hb dX4_isDone_28 rfl (lv_at hl 2 rfl) ?_
          refine p_get (k := 0) hx hb hown hK hP hw.al rfl rfl rfl (lay_X4 hK) 16 714 (by decide) t_714 rfl rfl dX4_isDone_29 ?_
          refine lv_iload_n hx hb dX4_isDone_32 rfl (lv_at hl 3 rfl) ?_
          refine p_iald (k := 0) (r := 17) (n := 20) hx hb hK hP hw.al rfl rfl (by decide) (by decide) (by omega) (by omega) dX4_isDone_33 ?_
          refine q_icmp_ne (tgt := 41) hx hb (hP.rg _ _ _) (hP.rg _ _ _) dX4_isDone_34 (by decide) (fun c_3 => ?_) (fun c_3 => ?_)
          · -- (S 0 20 ((4 * x) + i)) ≠ (S 0 17 x)
            refine lv_iconst (v := i32 (0)) hx hb dX4_isDone_41 rfl ?_
            refine q_nm (b2_f (show ¬ ((is1 ≠ 0) ∧ ((S 0 20 ((4 * x) + i)) = (S 0 17 x))) from by first | omega | (simp only [*]; done) | simp_all)).symm ?_
            exact J42 _ _ hP hS
          · -- (S 0 20 ((4 * x) + i)) = (S 0 17 x)
            refine lv_iconst (v := i32 (1)) hx hb dX4_isDone_37 rfl ?_
            refine lv_goto (tgt := 42) hx hb dX4_isDone_38 (by decide) ?_
            refine q_nm (b2_t (show (is1 ≠ 0) ∧ ((S 0 20 ((4 * x) + i)) = (S 0 17 x)) from by first | omega | (simp only [*]; done) | simp_all)).symm ?_
            exact J42 _ _ hP hS
  exact L4 ((S 0 18 x - 0) + 1).toNat 1 0 _ _ _ (by omega) (by exact (b2_t (fun j h0 h1 => absurd h1 (by omega))).symm) (by omega) hP hS (lv_sub hl [0, 1, 2, 3] rfl)

set_option maxHeartbeats 4000000 in
set_option maxRecDepth 100000 in
theorem c_X4_isUnlike (l : Launch) (g : GT) (base : Nat) (ad : Nat → Nat → Nat) (S : St) (x c r : Int) (hw : wM S) (hxx : 0 ≤ x ∧ x < 20) (hcc : 1 ≤ c ∧ c < 24) (hrr : 0 ≤ r ∧ r < 10) : Met l yX4_isUnlike [Cond.code yX4_isUnlike cX4_isUnlike 4 (some FieldType.boolean)] ({ frames := 1, cells := 0, slots := 0, locals := 22 }) (va_Pc [.ref (ad 0 0), .int (i32 (x)), .int (i32 (c)), .int (i32 (r))] (PK g base ad S)) (gQ g base (an (some (.int (i32 (b2 (S 0 25 (240 * x + 10 * (c - 1) + r) ≠ S 0 25 (240 * x + 10 * c + r)))))) ad S)) 0 0 (fun q => base ≤ q) := by
  refine mk_m (own := RX4) (lv0 := [(0, .ref (ad 0 0)), (1, .int (i32 (x))), (2, .int (i32 (c))), (3, .int (i32 (r)))]) (by decide) rfl (Nat.le_of_ble_eq_true rfl) rfl ?_
  intro p e s m below meth cz av Qm hx hb hr hml hown hlocks hK hZ hP hQm ls hl
  have hS : va_S (fun q => base ≤ q) s.heap s.heap [] := va_S.rf
  have rS : ∀ (a b : Nat) (i : Int), rng (S a b i) := fun a b i => hP.rg a b i
  refine lv_aload_n hx hb dX4_isUnlike_0 rfl (lv_at hl 0 rfl) ?_
  refine p_get (k := 0) hx hb hown hK hP hw.al rfl rfl rfl (lay_X4 hK) 24 722 (by decide) t_722 rfl rfl dX4_isUnlike_1 ?_
  refine lv_iload_n hx hb dX4_isUnlike_4 rfl (lv_at hl 1 rfl) ?_
  refine lv_iload_n hx hb dX4_isUnlike_5 rfl (lv_at hl 2 rfl) ?_
  refine lv_iconst (v := i32 (1)) hx hb dX4_isUnlike_6 rfl ?_
  refine q_isub hx hb dX4_isUnlike_7 ?_
  refine lv_iload_n hx hb dX4_isUnlike_8 rfl (lv_at hl 3 rfl) ?_
  refine q_callS hx hb hml hl.1 hown hK hZ hP hS (c_X4_at l g base ad S x (c - 1) r ) t_841 (q_callB hK 840 36 842 t_840 t_36 t_842 f_yX4_at ⟨by decide, by decide⟩) rfl rfl (Nat.le_of_ble_eq_true rfl) dX4_isUnlike_9 ⟨by decide, by decide⟩  (q_an (fun H locs hP hS => ?_))
  refine p_iald (k := 0) (r := 25) (n := 4800) hx hb hK hP hw.al rfl rfl (by decide) (by decide) (by omega) (by omega) dX4_isUnlike_12 ?_
  refine lv_aload_n hx hb dX4_isUnlike_13 rfl (lv_at hl 0 rfl) ?_
  refine p_get (k := 0) hx hb hown hK hP hw.al rfl rfl rfl (lay_X4 hK) 24 722 (by decide) t_722 rfl rfl dX4_isUnlike_14 ?_
  refine lv_iload_n hx hb dX4_isUnlike_17 rfl (lv_at hl 1 rfl) ?_
  refine lv_iload_n hx hb dX4_isUnlike_18 rfl (lv_at hl 2 rfl) ?_
  refine lv_iload_n hx hb dX4_isUnlike_19 rfl (lv_at hl 3 rfl) ?_
  refine q_callS hx hb hml hl.1 hown hK hZ hP hS (c_X4_at l g base ad S x c r ) t_841 (q_callB hK 840 36 842 t_840 t_36 t_842 f_yX4_at ⟨by decide, by decide⟩) rfl rfl (Nat.le_of_ble_eq_true rfl) dX4_isUnlike_20 ⟨by decide, by decide⟩  (q_an (fun H locs hP hS => ?_))
  refine p_iald (k := 0) (r := 25) (n := 4800) hx hb hK hP hw.al rfl rfl (by decide) (by decide) (by omega) (by omega) dX4_isUnlike_23 ?_
  have J32 : ∀ (H : Heap) (locs : List Loc), pic g base ad S H → va_S (fun q => base ≤ q) s.heap H locs → W p l e ({ frames := 1, cells := 0, slots := 0, locals := 22 } : Room) s m av below meth cz H locs 0 0 Qm (F0 m 32 ls (Value.int (i32 (b2 (((S 0 25 (240 * x + 10 * (c - 1) + r)) ≠ (S 0 25 (240 * x + 10 * c + r)))))) :: [])) := by
    intro H locs hP hS
    refine q_nm (b2_c (show (((S 0 25 (240 * x + 10 * (c - 1) + r)) ≠ (S 0 25 (240 * x + 10 * c + r)))) ↔ (S 0 25 (240 * x + 10 * (c - 1) + r) ≠ S 0 25 (240 * x + 10 * c + r)) from by first | omega | (simp only [*]; done) | simp_all)) ?_
    subst hQm
    exact q_zret hx hb hr hlocks hP hS (b2_01 _) ⟨rfl, rfl, rfl⟩ (by decide) (by decide) dX4_isUnlike_32
  refine q_icmp_eq (tgt := 31) hx hb (hP.rg _ _ _) (hP.rg _ _ _) dX4_isUnlike_24 (by decide) (fun c_1 => ?_) (fun c_1 => ?_)
  · -- (S 0 25 (240 * x + 10 * (c - 1) + r)) = (S 0 25 (240 * x + 10 * c + r))
    refine lv_iconst (v := i32 (0)) hx hb dX4_isUnlike_31 rfl ?_
    refine q_nm (b2_f (show ¬ (((S 0 25 (240 * x + 10 * (c - 1) + r)) ≠ (S 0 25 (240 * x + 10 * c + r)))) from by first | omega | (simp only [*]; done) | simp_all)).symm ?_
    exact J32 _ _ hP hS
  · -- (S 0 25 (240 * x + 10 * (c - 1) + r)) ≠ (S 0 25 (240 * x + 10 * c + r))
    refine lv_iconst (v := i32 (1)) hx hb dX4_isUnlike_27 rfl ?_
    refine lv_goto (tgt := 32) hx hb dX4_isUnlike_28 (by decide) ?_
    refine q_nm (b2_t (show ((S 0 25 (240 * x + 10 * (c - 1) + r)) ≠ (S 0 25 (240 * x + 10 * c + r))) from by first | omega | (simp only [*]; done) | simp_all)).symm ?_
    exact J32 _ _ hP hS

set_option maxHeartbeats 4000000 in
set_option maxRecDepth 100000 in
theorem c_X4_isSlit (l : Launch) (g : GT) (base : Nat) (ad : Nat → Nat → Nat) (S : St) (x c : Int) (hw : wM S) (hxx : 0 ≤ x ∧ x < 20) (hcc : 1 ≤ c ∧ c < 24) : Met l yX4_isSlit [Cond.code yX4_isSlit cX4_isSlit 6 (some FieldType.boolean)] ({ frames := 2, cells := 0, slots := 0, locals := 45 }) (va_Pc [.ref (ad 0 0), .int (i32 (x)), .int (i32 (c))] (PK g base ad S)) (gQ g base (an (some (.int (i32 (b2 (slM S x c))))) ad S)) 0 0 (fun q => base ≤ q) := by
  refine mk_m (own := RX4) (lv0 := [(0, .ref (ad 0 0)), (1, .int (i32 (x))), (2, .int (i32 (c)))]) (by decide) rfl (Nat.le_of_ble_eq_true rfl) rfl ?_
  intro p e s m below meth cz av Qm hx hb hr hml hown hlocks hK hZ hP hQm ls hl
  have hS : va_S (fun q => base ≤ q) s.heap s.heap [] := va_S.rf
  have rS : ∀ (a b : Nat) (i : Int), rng (S a b i) := fun a b i => hP.rg a b i
  obtain ⟨hx0, hx1⟩ := id hxx
  obtain ⟨hc1, hc2, hr1, hr2, hv1, hv2, hd1, hd2⟩ := hw.pc x hx0 hx1
  refine lv_iconst (v := i32 (0)) hx hb dX4_isSlit_0 rfl ?_
  refine lv_istore_n (lv' := [(3, .int (i32 (0))), (0, .ref (ad 0 0)), (1, .int (i32 (x))), (2, .int (i32 (c)))]) hx hb dX4_isSlit_1 rfl hl (by decide) rfl (fun ls hl => ?_)
  refine lv_iconst (v := i32 (0)) hx hb dX4_isSlit_2 rfl ?_
  refine lv_istore (lv' := [(4, .int (i32 (0))), (3, .int (i32 (0))), (0, .ref (ad 0 0)), (1, .int (i32 (x))), (2, .int (i32 (c)))]) hx hb dX4_isSlit_3 hl (by decide) rfl (fun ls hl => ?_)
  refine lv_iconst (v := i32 (0)) hx hb dX4_isSlit_5 rfl ?_
  refine lv_istore (lv' := [(5, .int (i32 (0))), (4, .int (i32 (0))), (3, .int (i32 (0))), (0, .ref (ad 0 0)), (1, .int (i32 (x))), (2, .int (i32 (c)))]) hx hb dX4_isSlit_6 hl (by decide) rfl (fun ls hl => ?_)
  have L8 : ∀ (k : Nat) (many is1 i : Int) (H : Heap) (locs : List Loc) (ls : Array Slot), (0 ≤ i ∧ i ≤ S 0 17 x) → (0 ≤ many ∧ many ≤ i) → (many = rl (unM S x c) i.toNat) → (is1 = b2 (∃ j, 0 ≤ j ∧ j < i ∧ rl (unM S x c) (j + 1).toNat = 3)) → S 0 17 x - i < (k : Int) → pic g base ad S H → va_S (fun q => base ≤ q) s.heap H locs → lv_has ls 6 [(5, .int (i32 (i))), (4, .int (i32 (is1))), (3, .int (i32 (many))), (0, .ref (ad 0 0)), (1, .int (i32 (x))), (2, .int (i32 (c)))] → W p l e ({ frames := 2, cells := 0, slots := 0, locals := 45 } : Room) s m av below meth cz H locs 0 0 Qm (F0 m 8 ls []) := by
    intro k
    induction k with
    | zero => intro many is1 i H locs ls hi hmb hm his hmu _ _ _; exact absurd hmu (by omega)
    | succ k ih8 =>
      intro many is1 i H locs ls hi hmb hm his hmu hP hS hl
      refine lv_iload hx hb dX4_isSlit_8 (lv_at hl 0 rfl) ?_
      refine lv_aload_n hx hb dX4_isSlit_10 rfl (lv_at hl 3 rfl) ?_
      refine p_get (k := 0) hx hb hown hK hP hw.al rfl rfl rfl (lay_X4 hK) 16 714 (by decide) t_714 rfl rfl dX4_isSlit_11 ?_
      refine lv_iload_n hx hb dX4_isSlit_14 rfl (lv_at hl 4 rfl) ?_
      refine p_iald (k := 0) (r := 17) (n := 20) hx hb hK hP hw.al rfl rfl (by decide) (by decide) (by omega) (by omega) dX4_isSlit_15 ?_
      refine q_icmp_ge (tgt := 61) hx hb ⟨by omega, by omega⟩ (hP.rg _ _ _) dX4_isSlit_16 (by decide) (fun c_1 => ?_) (fun c_1 => ?_)
      · -- (S 0 17 x) ≤ i
        refine lv_iload hx hb dX4_isSlit_61 (lv_at hl 1 rfl) ?_
        have J85 : ∀ (H : Heap) (locs : List Loc), pic g base ad S H → va_S (fun q => base ≤ q) s.heap H locs → W p l e ({ frames := 2, cells := 0, slots := 0, locals := 45 } : Room) s m av below meth cz H locs 0 0 Qm (F0 m 85 ls (Value.int (i32 (b2 ((is1 ≠ 0) ∧ ((S 0 24 ((24 * x) + c)) = 0)))) :: [])) := by
          intro H locs hP hS
          refine q_nm (b2_c (show ((is1 ≠ 0) ∧ ((S 0 24 ((24 * x) + c)) = 0)) ↔ (slM S x c) from by have ei : i = S 0 17 x := (by omega); rw [ei] at his; exact and_congr (b2_n his) Iff.rfl)) ?_
          subst hQm
          exact q_zret hx hb hr hlocks hP hS (b2_01 _) ⟨rfl, rfl, rfl⟩ (by decide) (by decide) dX4_isSlit_85
        refine q_if_eq (tgt := 84) hx hb (his ▸ b2_rng _) dX4_isSlit_63 (by decide) (fun c_2 => ?_) (fun c_2 => ?_)
        · -- is1 = 0
          refine lv_iconst (v := i32 (0)) hx hb dX4_isSlit_84 rfl ?_
          refine q_nm (b2_f (show ¬ ((is1 ≠ 0) ∧ ((S 0 24 ((24 * x) + c)) = 0)) from by first | omega | (simp only [*]; done) | simp_all)).symm ?_
          exact J85 _ _ hP hS
        · -- is1 ≠ 0
          refine lv_aload_n hx hb dX4_isSlit_66 rfl (lv_at hl 3 rfl) ?_
          refine p_get (k := 0) hx hb hown hK hP hw.al rfl rfl rfl (lay_X4 hK) 23 721 (by decide) t_721 rfl rfl dX4_isSlit_67 ?_
          refine lv_bipush (v := i32 (24)) hx hb dX4_isSlit_70 (by decide) ?_
          refine lv_iload_n hx hb dX4_isSlit_72 rfl (lv_at hl 4 rfl) ?_
          refine q_imul hx hb dX4_isSlit_73 ?_
          refine lv_iload_n hx hb dX4_isSlit_74 rfl (lv_at hl 5 rfl) ?_
          refine q_iadd hx hb dX4_isSlit_75 ?_
          refine p_zald (k := 0) (r := 24) (n := 480) hx hb hK hP hw.al rfl rfl (by decide) (by decide) (by omega) (by omega) dX4_isSlit_76 ?_
          refine q_if_ne (tgt := 84) hx hb (hP.rg _ _ _) dX4_isSlit_77 (by decide) (fun c_3 => ?_) (fun c_3 => ?_)
          · -- (S 0 24 ((24 * x) + c)) ≠ 0
            refine lv_iconst (v := i32 (0)) hx hb dX4_isSlit_84 rfl ?_
            refine q_nm (b2_f (show ¬ ((is1 ≠ 0) ∧ ((S 0 24 ((24 * x) + c)) = 0)) from by first | omega | (simp only [*]; done) | simp_all)).symm ?_
            exact J85 _ _ hP hS
          · -- (S 0 24 ((24 * x) + c)) = 0
            refine lv_iconst (v := i32 (1)) hx hb dX4_isSlit_80 rfl ?_
            refine lv_goto (tgt := 85) hx hb dX4_isSlit_81 (by decide) ?_
            refine q_nm (b2_t (show (is1 ≠ 0) ∧ ((S 0 24 ((24 * x) + c)) = 0) from by first | omega | (simp only [*]; done) | simp_all)).symm ?_
            exact J85 _ _ hP hS
      · -- i < (S 0 17 x)
        refine lv_aload_n hx hb dX4_isSlit_19 rfl (lv_at hl 3 rfl) ?_
        refine lv_iload_n hx hb dX4_isSlit_20 rfl (lv_at hl 4 rfl) ?_
        refine lv_iload_n hx hb dX4_isSlit_21 rfl (lv_at hl 5 rfl) ?_
        refine lv_iload hx hb dX4_isSlit_22 (lv_at hl 0 rfl) ?_
        refine q_callV (k := 0) hx hb hml hl.1 hown hK hZ hP hS hw.al rfl rfl rfl (c_X4_isUnlike l g base ad S x c i hw (by omega) (by omega) (by omega)) t_897 t_27 (q_callB hK 895 36 898 t_895 t_36 t_898 f_yX4_isUnlike ⟨by decide, by decide⟩) rfl rfl (Nat.le_of_ble_eq_true rfl) dX4_isSlit_24 ⟨by decide, by decide⟩  (q_an (fun H locs hP hS => ?_))
        have J37 : ∀ (b37 : Int) (H : Heap) (locs : List Loc), (((¬ (S 0 25 (240 * x + 10 * (c - 1) + i) ≠ S 0 25 (240 * x + 10 * c + i))) ∧ b37 = 0) ∨ ((S 0 25 (240 * x + 10 * (c - 1) + i) ≠ S 0 25 (240 * x + 10 * c + i)) ∧ b37 = many + 1)) → pic g base ad S H → va_S (fun q => base ≤ q) s.heap H locs → W p l e ({ frames := 2, cells := 0, slots := 0, locals := 45 } : Room) s m av below meth cz H locs 0 0 Qm (F0 m 37 ls (Value.int (i32 b37) :: [])) := by
          intro b37 H locs hb37 hP hS
          refine lv_istore_n (lv' := [(3, .int (i32 (b37))), (5, .int (i32 (i))), (4, .int (i32 (is1))), (0, .ref (ad 0 0)), (1, .int (i32 (x))), (2, .int (i32 (c)))]) hx hb dX4_isSlit_37 rfl hl (by decide) rfl (fun ls hl => ?_)
          refine lv_iload hx hb dX4_isSlit_38 (lv_at hl 2 rfl) ?_
          have J53 : ∀ (H : Heap) (locs : List Loc), pic g base ad S H → va_S (fun q => base ≤ q) s.heap H locs → W p l e ({ frames := 2, cells := 0, slots := 0, locals := 45 } : Room) s m av below meth cz H locs 0 0 Qm (F0 m 53 ls (Value.int (i32 (b2 (((is1 ≠ 0)) ∨ ((is1 = 0) ∧ (b37 = 3))))) :: [])) := by
            intro H locs hP hS
            refine lv_istore (lv' := [(4, .int (i32 (b2 (((is1 ≠ 0)) ∨ ((is1 = 0) ∧ (b37 = 3)))))), (3, .int (i32 (b37))), (5, .int (i32 (i))), (0, .ref (ad 0 0)), (1, .int (i32 (x))), (2, .int (i32 (c)))]) hx hb dX4_isSlit_53 hl (by decide) rfl (fun ls hl => ?_)
            refine lv_iinc (v := i32 (i + 1)) (lv' := [(5, .int (i32 (i + 1))), (4, .int (i32 (b2 (((is1 ≠ 0)) ∨ ((is1 = 0) ∧ (b37 = 3)))))), (3, .int (i32 (b37))), (0, .ref (ad 0 0)), (1, .int (i32 (x))), (2, .int (i32 (c)))]) hx hb dX4_isSlit_55 hl (k := 2) rfl (i32_add _ _) (by decide) rfl (fun ls hl => ?_)
            refine lv_goto (tgt := 8) hx hb dX4_isSlit_58 (by decide) ?_
            have e37 : b37 = rl (unM S x c) (i + 1).toNat := by
              rcases hb37 with ⟨h1, h2⟩ | ⟨h1, h2⟩
              · rw [h2, rl_f _ hi.1 (show ¬ unM S x c i from h1)]
              · rw [h2, rl_t _ hi.1 (show unM S x c i from h1), ← hm]
            exact ih8 b37 (b2 (((is1 ≠ 0)) ∨ ((is1 = 0) ∧ (b37 = 3)))) (i + 1) _ _ _ (by omega) (by omega) (by exact e37) (by refine b2_c (Iff.trans ?_ (ex_s hi.1).symm); rw [← b2_n his, ← e37]; omega) (by omega) hP hS (lv_sub hl [0, 1, 2, 3, 4, 5] rfl)
          refine q_if_ne (tgt := 48) hx hb (his ▸ b2_rng _) dX4_isSlit_40 (by decide) (fun c_4 => ?_) (fun c_4 => ?_)
          · -- is1 ≠ 0
            refine lv_iconst (v := i32 (1)) hx hb dX4_isSlit_48 rfl ?_
            refine lv_goto (tgt := 53) hx hb dX4_isSlit_49 (by decide) ?_
            refine q_nm (b2_t (show ((is1 ≠ 0)) ∨ ((is1 = 0) ∧ (b37 = 3)) from by first | omega | (simp only [*]; done) | simp_all)).symm ?_
            exact J53 _ _ hP hS
          · -- is1 = 0
            refine lv_iload_n hx hb dX4_isSlit_43 rfl (lv_at hl 0 rfl) ?_
            refine lv_iconst (v := i32 (3)) hx hb dX4_isSlit_44 rfl ?_
            refine q_icmp_ne (tgt := 52) hx hb ⟨by omega, by omega⟩ ⟨by decide, by decide⟩ dX4_isSlit_45 (by decide) (fun c_5 => ?_) (fun c_5 => ?_)
            · -- b37 ≠ 3
              refine lv_iconst (v := i32 (0)) hx hb dX4_isSlit_52 rfl ?_
              refine q_nm (b2_f (show ¬ (((is1 ≠ 0)) ∨ ((is1 = 0) ∧ (b37 = 3))) from by first | omega | (simp only [*]; done) | simp_all)).symm ?_
              exact J53 _ _ hP hS
            · -- b37 = 3
              refine lv_iconst (v := i32 (1)) hx hb dX4_isSlit_48 rfl ?_
              refine lv_goto (tgt := 53) hx hb dX4_isSlit_49 (by decide) ?_
              refine q_nm (b2_t (show ((is1 ≠ 0)) ∨ ((is1 = 0) ∧ (b37 = 3)) from by first | omega | (simp only [*]; done) | simp_all)).symm ?_
              exact J53 _ _ hP hS
        refine q_if_eqb (tgt := 36) hx hb dX4_isSlit_27 (by decide) (fun c_6 => ?_) (fun c_6 => ?_)
        · -- ¬ (S 0 25 (240 * x + 10 * (c - 1) + i) ≠ S 0 25 (240 * x + 10 * c + i))
          refine lv_iconst (v := i32 (0)) hx hb dX4_isSlit_36 rfl ?_
          exact J37 _ _ _ (by first | omega | (simp only [*]; done) | simp_all) hP hS
        · -- S 0 25 (240 * x + 10 * (c - 1) + i) ≠ S 0 25 (240 * x + 10 * c + i)
          refine lv_iload_n hx hb dX4_isSlit_30 rfl (lv_at hl 2 rfl) ?_
          refine lv_iconst (v := i32 (1)) hx hb dX4_isSlit_31 rfl ?_
          refine q_iadd hx hb dX4_isSlit_32 ?_
          refine lv_goto (tgt := 37) hx hb dX4_isSlit_33 (by decide) ?_
          exact J37 _ _ _ (by first | omega | (simp only [*]; done) | simp_all) hP hS
  exact L8 ((S 0 17 x - 0) + 1).toNat 0 0 0 _ _ _ (by omega) (by omega) (by rfl) (by exact (b2_f (fun ⟨j, h0, h1, _⟩ => absurd h1 (by omega))).symm) (by omega) hP hS (lv_sub hl [0, 1, 2, 3, 4, 5] rfl)

set_option maxHeartbeats 4000000 in
set_option maxRecDepth 100000 in
theorem c_X4_shades (l : Launch) (g : GT) (base : Nat) (ad : Nat → Nat → Nat) (S : St) (x : Int) (hw : wM S) (hxx : 0 ≤ x ∧ x < 20) (hrw : 1 ≤ S 0 17 x) : Met l yX4_shades [Cond.code yX4_shades cX4_shades 4 (some FieldType.int)] ({ frames := 1, cells := 0, slots := 0, locals := 22 }) (va_Pc [.ref (ad 0 0), .int (i32 (x))] (PK g base ad S)) (gQ g base (an (some (.int (i32 (shM S x)))) ad S)) 0 0 (fun q => base ≤ q) := by
  refine mk_m (own := RX4) (lv0 := [(0, .ref (ad 0 0)), (1, .int (i32 (x)))]) (by decide) rfl (Nat.le_of_ble_eq_true rfl) rfl ?_
  intro p e s m below meth cz av Qm hx hb hr hml hown hlocks hK hZ hP hQm ls hl
  have hS : va_S (fun q => base ≤ q) s.heap s.heap [] := va_S.rf
  have rS : ∀ (a b : Nat) (i : Int), rng (S a b i) := fun a b i => hP.rg a b i
  obtain ⟨hx0, hx1⟩ := id hxx
  obtain ⟨hc1, hc2, hr1, hr2, hv1, hv2, hd1, hd2⟩ := hw.pc x hx0 hx1
  have hCR : 0 ≤ S 0 16 x * S 0 17 x := Int.mul_nonneg hc1 hr1
  have hCR2 : S 0 16 x * S 0 17 x ≤ 240 := mul240 hc1 hc2 hr1 hr2
  refine lv_iconst (v := i32 (0)) hx hb dX4_shades_0 rfl ?_
  refine lv_istore_n (lv' := [(2, .int (i32 (0))), (0, .ref (ad 0 0)), (1, .int (i32 (x)))]) hx hb dX4_shades_1 rfl hl (by decide) rfl (fun ls hl => ?_)
  refine lv_iconst (v := i32 (0)) hx hb dX4_shades_2 rfl ?_
  refine lv_istore_n (lv' := [(3, .int (i32 (0))), (2, .int (i32 (0))), (0, .ref (ad 0 0)), (1, .int (i32 (x)))]) hx hb dX4_shades_3 rfl hl (by decide) rfl (fun ls hl => ?_)
  have L4 : ∀ (k : Nat) (t n : Int) (H : Heap) (locs : List Loc) (ls : Array Slot), (0 ≤ n ∧ n ≤ S 0 16 x * S 0 17 x) → (t = sm (cM S 27 x) n.toNat) → S 0 16 x * S 0 17 x - n < (k : Int) → pic g base ad S H → va_S (fun q => base ≤ q) s.heap H locs → lv_has ls 4 [(3, .int (i32 (n))), (2, .int (i32 (t))), (0, .ref (ad 0 0)), (1, .int (i32 (x)))] → W p l e ({ frames := 1, cells := 0, slots := 0, locals := 22 } : Room) s m av below meth cz H locs 0 0 Qm (F0 m 4 ls []) := by
    intro k
    induction k with
    | zero => intro t n H locs ls hn ht hmu _ _ _; exact absurd hmu (by omega)
    | succ k ih4 =>
      intro t n H locs ls hn ht hmu hP hS hl
      refine lv_iload_n hx hb dX4_shades_4 rfl (lv_at hl 0 rfl) ?_
      refine lv_aload_n hx hb dX4_shades_5 rfl (lv_at hl 2 rfl) ?_
      refine p_get (k := 0) hx hb hown hK hP hw.al rfl rfl rfl (lay_X4 hK) 15 713 (by decide) t_713 rfl rfl dX4_shades_6 ?_
      refine lv_iload_n hx hb dX4_shades_9 rfl (lv_at hl 3 rfl) ?_
      refine p_iald (k := 0) (r := 16) (n := 20) hx hb hK hP hw.al rfl rfl (by decide) (by decide) (by omega) (by omega) dX4_shades_10 ?_
      refine lv_aload_n hx hb dX4_shades_11 rfl (lv_at hl 2 rfl) ?_
      refine p_get (k := 0) hx hb hown hK hP hw.al rfl rfl rfl (lay_X4 hK) 16 714 (by decide) t_714 rfl rfl dX4_shades_12 ?_
      refine lv_iload_n hx hb dX4_shades_15 rfl (lv_at hl 3 rfl) ?_
      refine p_iald (k := 0) (r := 17) (n := 20) hx hb hK hP hw.al rfl rfl (by decide) (by decide) (by omega) (by omega) dX4_shades_16 ?_
      refine q_imul hx hb dX4_shades_17 ?_
      refine q_icmp_ge (tgt := 55) hx hb ⟨by omega, by omega⟩ ⟨by omega, by omega⟩ dX4_shades_18 (by decide) (fun c_1 => ?_) (fun c_1 => ?_)
      · -- ((S 0 16 x) * (S 0 17 x)) ≤ n
        refine lv_iload_n hx hb dX4_shades_55 rfl (lv_at hl 1 rfl) ?_
        refine q_nm (show (t : Int) = shM S x from by rw [ht, show n = S 0 16 x * S 0 17 x from by omega]; rfl) ?_
        subst hQm
        exact q_iret hx hb hr hlocks hP hS ⟨rfl, rfl, rfl⟩ (by decide) (by decide) dX4_shades_56
      · -- n < ((S 0 16 x) * (S 0 17 x))
        refine lv_iload_n hx hb dX4_shades_21 rfl (lv_at hl 1 rfl) ?_
        refine lv_aload_n hx hb dX4_shades_22 rfl (lv_at hl 2 rfl) ?_
        obtain ⟨hd1, hd2, hd3, hd4⟩ := dmb (n := n) (C := S 0 16 x) (R := S 0 17 x) hn.1 (by omega) (by omega)
        refine p_get (k := 0) hx hb hown hK hP hw.al rfl rfl rfl (lay_X4 hK) 26 724 (by decide) t_724 rfl rfl dX4_shades_23 ?_
        refine lv_iload_n hx hb dX4_shades_26 rfl (lv_at hl 3 rfl) ?_
        refine lv_iload_n hx hb dX4_shades_27 rfl (lv_at hl 0 rfl) ?_
        refine lv_aload_n hx hb dX4_shades_28 rfl (lv_at hl 2 rfl) ?_
        refine p_get (k := 0) hx hb hown hK hP hw.al rfl rfl rfl (lay_X4 hK) 16 714 (by decide) t_714 rfl rfl dX4_shades_29 ?_
        refine lv_iload_n hx hb dX4_shades_32 rfl (lv_at hl 3 rfl) ?_
        refine p_iald (k := 0) (r := 17) (n := 20) hx hb hK hP hw.al rfl rfl (by decide) (by decide) (by omega) (by omega) dX4_shades_33 ?_
        refine q_idiv hx hb (by omega) (by omega) (by omega) (by omega) dX4_shades_34 ?_
        refine lv_iload_n hx hb dX4_shades_35 rfl (lv_at hl 0 rfl) ?_
        refine lv_aload_n hx hb dX4_shades_36 rfl (lv_at hl 2 rfl) ?_
        refine p_get (k := 0) hx hb hown hK hP hw.al rfl rfl rfl (lay_X4 hK) 16 714 (by decide) t_714 rfl rfl dX4_shades_37 ?_
        refine lv_iload_n hx hb dX4_shades_40 rfl (lv_at hl 3 rfl) ?_
        refine p_iald (k := 0) (r := 17) (n := 20) hx hb hK hP hw.al rfl rfl (by decide) (by decide) (by omega) (by omega) dX4_shades_41 ?_
        refine q_irem hx hb (by omega) (by omega) (by omega) (by omega) dX4_shades_42 ?_
        refine q_callS hx hb hml hl.1 hown hK hZ hP hS (c_X4_at l g base ad S x (n / (S 0 17 x)) (n % (S 0 17 x)) ) t_841 (q_callB hK 840 36 842 t_840 t_36 t_842 f_yX4_at ⟨by decide, by decide⟩) rfl rfl (Nat.le_of_ble_eq_true rfl) dX4_shades_43 ⟨by decide, by decide⟩  (q_an (fun H locs hP hS => ?_))
        refine p_iald (k := 0) (r := 27) (n := 4800) hx hb hK hP hw.al rfl rfl (by decide) (by decide) (by omega) (by omega) dX4_shades_46 ?_
        refine q_iadd hx hb dX4_shades_47 ?_
        refine lv_istore_n (lv' := [(2, .int (i32 (t + (S 0 27 (240 * x + 10 * (n / (S 0 17 x)) + (n % (S 0 17 x))))))), (3, .int (i32 (n))), (0, .ref (ad 0 0)), (1, .int (i32 (x)))]) hx hb dX4_shades_48 rfl hl (by decide) rfl (fun ls hl => ?_)
        refine lv_iinc (v := i32 (n + 1)) (lv' := [(3, .int (i32 (n + 1))), (2, .int (i32 (t + (S 0 27 (240 * x + 10 * (n / (S 0 17 x)) + (n % (S 0 17 x))))))), (0, .ref (ad 0 0)), (1, .int (i32 (x)))]) hx hb dX4_shades_49 hl (k := 1) rfl (i32_add _ _) (by decide) rfl (fun ls hl => ?_)
        refine lv_goto (tgt := 4) hx hb dX4_shades_52 (by decide) ?_
        exact ih4 (t + (S 0 27 (240 * x + 10 * (n / (S 0 17 x)) + (n % (S 0 17 x))))) (n + 1) _ _ _ (by omega) (by rw [sm_1 _ hn.1, ← ht]; rfl) (by omega) hP hS (lv_sub hl [0, 1, 2, 3] rfl)
  exact L4 ((S 0 16 x * S 0 17 x - 0) + 1).toNat 0 0 _ _ _ (by omega) (by rfl) (by omega) hP hS (lv_sub hl [0, 1, 2, 3] rfl)

set_option maxHeartbeats 4000000 in
set_option maxRecDepth 100000 in
theorem c_X4_wovenIn (l : Launch) (g : GT) (base : Nat) (ad : Nat → Nat → Nat) (S : St) (x : Int) (hw : wM S) (hxx : 0 ≤ x ∧ x < 20) (hrw : 1 ≤ S 0 17 x) : Met l yX4_wovenIn [Cond.code yX4_wovenIn cX4_wovenIn 4 (some FieldType.int)] ({ frames := 1, cells := 0, slots := 0, locals := 22 }) (va_Pc [.ref (ad 0 0), .int (i32 (x))] (PK g base ad S)) (gQ g base (an (some (.int (i32 (wnM S x)))) ad S)) 0 0 (fun q => base ≤ q) := by
  refine mk_m (own := RX4) (lv0 := [(0, .ref (ad 0 0)), (1, .int (i32 (x)))]) (by decide) rfl (Nat.le_of_ble_eq_true rfl) rfl ?_
  intro p e s m below meth cz av Qm hx hb hr hml hown hlocks hK hZ hP hQm ls hl
  have hS : va_S (fun q => base ≤ q) s.heap s.heap [] := va_S.rf
  have rS : ∀ (a b : Nat) (i : Int), rng (S a b i) := fun a b i => hP.rg a b i
  obtain ⟨hx0, hx1⟩ := id hxx
  obtain ⟨hc1, hc2, hr1, hr2, hv1, hv2, hd1, hd2⟩ := hw.pc x hx0 hx1
  have hCR : 0 ≤ S 0 16 x * S 0 17 x := Int.mul_nonneg hc1 hr1
  have hCR2 : S 0 16 x * S 0 17 x ≤ 240 := mul240 hc1 hc2 hr1 hr2
  refine lv_iconst (v := i32 (0)) hx hb dX4_wovenIn_0 rfl ?_
  refine lv_istore_n (lv' := [(2, .int (i32 (0))), (0, .ref (ad 0 0)), (1, .int (i32 (x)))]) hx hb dX4_wovenIn_1 rfl hl (by decide) rfl (fun ls hl => ?_)
  refine lv_iconst (v := i32 (0)) hx hb dX4_wovenIn_2 rfl ?_
  refine lv_istore_n (lv' := [(3, .int (i32 (0))), (2, .int (i32 (0))), (0, .ref (ad 0 0)), (1, .int (i32 (x)))]) hx hb dX4_wovenIn_3 rfl hl (by decide) rfl (fun ls hl => ?_)
  have L4 : ∀ (k : Nat) (t n : Int) (H : Heap) (locs : List Loc) (ls : Array Slot), (0 ≤ n ∧ n ≤ S 0 16 x * S 0 17 x) → (t = sm (fun n => b2 (cM S 26 x n ≠ -1)) n.toNat) → S 0 16 x * S 0 17 x - n < (k : Int) → pic g base ad S H → va_S (fun q => base ≤ q) s.heap H locs → lv_has ls 4 [(3, .int (i32 (n))), (2, .int (i32 (t))), (0, .ref (ad 0 0)), (1, .int (i32 (x)))] → W p l e ({ frames := 1, cells := 0, slots := 0, locals := 22 } : Room) s m av below meth cz H locs 0 0 Qm (F0 m 4 ls []) := by
    intro k
    induction k with
    | zero => intro t n H locs ls hn ht hmu _ _ _; exact absurd hmu (by omega)
    | succ k ih4 =>
      intro t n H locs ls hn ht hmu hP hS hl
      refine lv_iload_n hx hb dX4_wovenIn_4 rfl (lv_at hl 0 rfl) ?_
      refine lv_aload_n hx hb dX4_wovenIn_5 rfl (lv_at hl 2 rfl) ?_
      refine p_get (k := 0) hx hb hown hK hP hw.al rfl rfl rfl (lay_X4 hK) 15 713 (by decide) t_713 rfl rfl dX4_wovenIn_6 ?_
      refine lv_iload_n hx hb dX4_wovenIn_9 rfl (lv_at hl 3 rfl) ?_
      refine p_iald (k := 0) (r := 16) (n := 20) hx hb hK hP hw.al rfl rfl (by decide) (by decide) (by omega) (by omega) dX4_wovenIn_10 ?_
      refine lv_aload_n hx hb dX4_wovenIn_11 rfl (lv_at hl 2 rfl) ?_
      refine p_get (k := 0) hx hb hown hK hP hw.al rfl rfl rfl (lay_X4 hK) 16 714 (by decide) t_714 rfl rfl dX4_wovenIn_12 ?_
      refine lv_iload_n hx hb dX4_wovenIn_15 rfl (lv_at hl 3 rfl) ?_
      refine p_iald (k := 0) (r := 17) (n := 20) hx hb hK hP hw.al rfl rfl (by decide) (by decide) (by omega) (by omega) dX4_wovenIn_16 ?_
      refine q_imul hx hb dX4_wovenIn_17 ?_
      refine q_icmp_ge (tgt := 64) hx hb ⟨by omega, by omega⟩ ⟨by omega, by omega⟩ dX4_wovenIn_18 (by decide) (fun c_1 => ?_) (fun c_1 => ?_)
      · -- ((S 0 16 x) * (S 0 17 x)) ≤ n
        refine lv_iload_n hx hb dX4_wovenIn_64 rfl (lv_at hl 1 rfl) ?_
        refine q_nm (show (t : Int) = wnM S x from by rw [ht, show n = S 0 16 x * S 0 17 x from by omega]; rfl) ?_
        subst hQm
        exact q_iret hx hb hr hlocks hP hS ⟨rfl, rfl, rfl⟩ (by decide) (by decide) dX4_wovenIn_65
      · -- n < ((S 0 16 x) * (S 0 17 x))
        refine lv_iload_n hx hb dX4_wovenIn_21 rfl (lv_at hl 1 rfl) ?_
        refine lv_aload_n hx hb dX4_wovenIn_22 rfl (lv_at hl 2 rfl) ?_
        obtain ⟨hd1, hd2, hd3, hd4⟩ := dmb (n := n) (C := S 0 16 x) (R := S 0 17 x) hn.1 (by omega) (by omega)
        refine p_get (k := 0) hx hb hown hK hP hw.al rfl rfl rfl (lay_X4 hK) 25 723 (by decide) t_723 rfl rfl dX4_wovenIn_23 ?_
        refine lv_iload_n hx hb dX4_wovenIn_26 rfl (lv_at hl 3 rfl) ?_
        refine lv_iload_n hx hb dX4_wovenIn_27 rfl (lv_at hl 0 rfl) ?_
        refine lv_aload_n hx hb dX4_wovenIn_28 rfl (lv_at hl 2 rfl) ?_
        refine p_get (k := 0) hx hb hown hK hP hw.al rfl rfl rfl (lay_X4 hK) 16 714 (by decide) t_714 rfl rfl dX4_wovenIn_29 ?_
        refine lv_iload_n hx hb dX4_wovenIn_32 rfl (lv_at hl 3 rfl) ?_
        refine p_iald (k := 0) (r := 17) (n := 20) hx hb hK hP hw.al rfl rfl (by decide) (by decide) (by omega) (by omega) dX4_wovenIn_33 ?_
        refine q_idiv hx hb (by omega) (by omega) (by omega) (by omega) dX4_wovenIn_34 ?_
        refine lv_iload_n hx hb dX4_wovenIn_35 rfl (lv_at hl 0 rfl) ?_
        refine lv_aload_n hx hb dX4_wovenIn_36 rfl (lv_at hl 2 rfl) ?_
        refine p_get (k := 0) hx hb hown hK hP hw.al rfl rfl rfl (lay_X4 hK) 16 714 (by decide) t_714 rfl rfl dX4_wovenIn_37 ?_
        refine lv_iload_n hx hb dX4_wovenIn_40 rfl (lv_at hl 3 rfl) ?_
        refine p_iald (k := 0) (r := 17) (n := 20) hx hb hK hP hw.al rfl rfl (by decide) (by decide) (by omega) (by omega) dX4_wovenIn_41 ?_
        refine q_irem hx hb (by omega) (by omega) (by omega) (by omega) dX4_wovenIn_42 ?_
        refine q_callS hx hb hml hl.1 hown hK hZ hP hS (c_X4_at l g base ad S x (n / (S 0 17 x)) (n % (S 0 17 x)) ) t_841 (q_callB hK 840 36 842 t_840 t_36 t_842 f_yX4_at ⟨by decide, by decide⟩) rfl rfl (Nat.le_of_ble_eq_true rfl) dX4_wovenIn_43 ⟨by decide, by decide⟩  (q_an (fun H locs hP hS => ?_))
        refine p_iald (k := 0) (r := 26) (n := 4800) hx hb hK hP hw.al rfl rfl (by decide) (by decide) (by omega) (by omega) dX4_wovenIn_46 ?_
        refine lv_iconst (v := i32 (-1)) hx hb dX4_wovenIn_47 rfl ?_
        have J56 : ∀ (H : Heap) (locs : List Loc), pic g base ad S H → va_S (fun q => base ≤ q) s.heap H locs → W p l e ({ frames := 1, cells := 0, slots := 0, locals := 22 } : Room) s m av below meth cz H locs 0 0 Qm (F0 m 56 ls (Value.int (i32 (b2 (((S 0 26 (240 * x + 10 * (n / (S 0 17 x)) + (n % (S 0 17 x)))) ≠ (-1))))) :: Value.int (i32 (t)) :: [])) := by
          intro H locs hP hS
          refine q_iadd hx hb dX4_wovenIn_56 ?_
          refine lv_istore_n (lv' := [(2, .int (i32 (t + (b2 (((S 0 26 (240 * x + 10 * (n / (S 0 17 x)) + (n % (S 0 17 x)))) ≠ (-1))))))), (3, .int (i32 (n))), (0, .ref (ad 0 0)), (1, .int (i32 (x)))]) hx hb dX4_wovenIn_57 rfl hl (by decide) rfl (fun ls hl => ?_)
          refine lv_iinc (v := i32 (n + 1)) (lv' := [(3, .int (i32 (n + 1))), (2, .int (i32 (t + (b2 (((S 0 26 (240 * x + 10 * (n / (S 0 17 x)) + (n % (S 0 17 x)))) ≠ (-1))))))), (0, .ref (ad 0 0)), (1, .int (i32 (x)))]) hx hb dX4_wovenIn_58 hl (k := 1) rfl (i32_add _ _) (by decide) rfl (fun ls hl => ?_)
          refine lv_goto (tgt := 4) hx hb dX4_wovenIn_61 (by decide) ?_
          exact ih4 (t + (b2 (((S 0 26 (240 * x + 10 * (n / (S 0 17 x)) + (n % (S 0 17 x)))) ≠ (-1))))) (n + 1) _ _ _ (by omega) (by rw [sm_1 _ hn.1, ← ht]; rfl) (by omega) hP hS (lv_sub hl [0, 1, 2, 3] rfl)
        refine q_icmp_eq (tgt := 55) hx hb (hP.rg _ _ _) ⟨by decide, by decide⟩ dX4_wovenIn_48 (by decide) (fun c_2 => ?_) (fun c_2 => ?_)
        · -- (S 0 26 (240 * x + 10 * (n / (S 0 17 x)) + (n % (S 0 17 x)))) = (-1)
          refine lv_iconst (v := i32 (0)) hx hb dX4_wovenIn_55 rfl ?_
          refine q_nm (b2_f (show ¬ (((S 0 26 (240 * x + 10 * (n / (S 0 17 x)) + (n % (S 0 17 x)))) ≠ (-1))) from by first | omega | (simp only [*]; done) | simp_all)).symm ?_
          exact J56 _ _ hP hS
        · -- (S 0 26 (240 * x + 10 * (n / (S 0 17 x)) + (n % (S 0 17 x)))) ≠ (-1)
          refine lv_iconst (v := i32 (1)) hx hb dX4_wovenIn_51 rfl ?_
          refine lv_goto (tgt := 56) hx hb dX4_wovenIn_52 (by decide) ?_
          refine q_nm (b2_t (show ((S 0 26 (240 * x + 10 * (n / (S 0 17 x)) + (n % (S 0 17 x)))) ≠ (-1)) from by first | omega | (simp only [*]; done) | simp_all)).symm ?_
          exact J56 _ _ hP hS
  exact L4 ((S 0 16 x * S 0 17 x - 0) + 1).toNat 0 0 _ _ _ (by omega) (by rfl) (by omega) hP hS (lv_sub hl [0, 1, 2, 3] rfl)

set_option maxHeartbeats 4000000 in
set_option maxRecDepth 100000 in
theorem c_X4_wovenOf (l : Launch) (g : GT) (base : Nat) (ad : Nat → Nat → Nat) (S : St) (its : Int) (hw : wM S) (hrn : rng its) : Met l yX4_wovenOf [Cond.code yX4_wovenOf cX4_wovenOf 5 (some FieldType.int)] ({ frames := 1, cells := 0, slots := 0, locals := 22 }) (va_Pc [.ref (ad 0 0), .int (i32 (its))] (PK g base ad S)) (gQ g base (an (some (.int (i32 (woM S its)))) ad S)) 0 0 (fun q => base ≤ q) := by
  refine mk_m (own := RX4) (lv0 := [(0, .ref (ad 0 0)), (1, .int (i32 (its)))]) (by decide) rfl (Nat.le_of_ble_eq_true rfl) rfl ?_
  intro p e s m below meth cz av Qm hx hb hr hml hown hlocks hK hZ hP hQm ls hl
  have hS : va_S (fun q => base ≤ q) s.heap s.heap [] := va_S.rf
  have rS : ∀ (a b : Nat) (i : Int), rng (S a b i) := fun a b i => hP.rg a b i
  obtain ⟨hz1, hz2⟩ := id hrn
  obtain ⟨hp1, hp2⟩ := hw.ps
  refine lv_iconst (v := i32 (0)) hx hb dX4_wovenOf_0 rfl ?_
  refine lv_istore_n (lv' := [(2, .int (i32 (0))), (0, .ref (ad 0 0)), (1, .int (i32 (its)))]) hx hb dX4_wovenOf_1 rfl hl (by decide) rfl (fun ls hl => ?_)
  refine lv_iconst (v := i32 (0)) hx hb dX4_wovenOf_2 rfl ?_
  refine lv_istore_n (lv' := [(3, .int (i32 (0))), (2, .int (i32 (0))), (0, .ref (ad 0 0)), (1, .int (i32 (its)))]) hx hb dX4_wovenOf_3 rfl hl (by decide) rfl (fun ls hl => ?_)
  have L4 : ∀ (k : Nat) (t x : Int) (H : Heap) (locs : List Loc) (ls : Array Slot), (0 ≤ x ∧ x ≤ S 0 0 14) → (t = sm (wpM S its) x.toNat) → S 0 0 14 - x < (k : Int) → pic g base ad S H → va_S (fun q => base ≤ q) s.heap H locs → lv_has ls 5 [(3, .int (i32 (x))), (2, .int (i32 (t))), (0, .ref (ad 0 0)), (1, .int (i32 (its)))] → W p l e ({ frames := 1, cells := 0, slots := 0, locals := 22 } : Room) s m av below meth cz H locs 0 0 Qm (F0 m 4 ls []) := by
    intro k
    induction k with
    | zero => intro t x H locs ls hi ht hmu _ _ _; exact absurd hmu (by omega)
    | succ k ih4 =>
      intro t x H locs ls hi ht hmu hP hS hl
      refine lv_iload_n hx hb dX4_wovenOf_4 rfl (lv_at hl 0 rfl) ?_
      refine lv_aload_n hx hb dX4_wovenOf_5 rfl (lv_at hl 2 rfl) ?_
      refine p_get (k := 0) hx hb hown hK hP hw.al rfl rfl rfl (lay_X4 hK) 14 712 (by decide) t_712 rfl rfl dX4_wovenOf_6 ?_
      refine q_icmp_ge (tgt := 93) hx hb ⟨by omega, by omega⟩ (hP.rg _ _ _) dX4_wovenOf_9 (by decide) (fun c_1 => ?_) (fun c_1 => ?_)
      · -- (S 0 0 14) ≤ x
        refine lv_iload_n hx hb dX4_wovenOf_93 rfl (lv_at hl 1 rfl) ?_
        refine q_nm (show (t : Int) = woM S its from by rw [ht, show x = S 0 0 14 from by omega]; rfl) ?_
        subst hQm
        exact q_iret hx hb hr hlocks hP hS ⟨rfl, rfl, rfl⟩ (by decide) (by decide) dX4_wovenOf_94
      · -- x < (S 0 0 14)
        obtain ⟨hc1, hc2, hr1, hr2, hv1, hv2, hd1, hd2⟩ := hw.pc x (by omega) (by omega)
        have hrw := hw.pr x hi.1 (by omega)
        have hCR : 0 ≤ S 0 16 x * S 0 17 x := Int.mul_nonneg hc1 hr1
        have hCR2 : S 0 16 x * S 0 17 x ≤ 240 := mul240 hc1 hc2 hr1 hr2
        refine lv_iconst (v := i32 (0)) hx hb dX4_wovenOf_12 rfl ?_
        refine lv_istore (lv' := [(4, .int (i32 (0))), (3, .int (i32 (x))), (2, .int (i32 (t))), (0, .ref (ad 0 0)), (1, .int (i32 (its)))]) hx hb dX4_wovenOf_13 hl (by decide) rfl (fun ls hl => ?_)
        have L15 : ∀ (k : Nat) (u n : Int) (H : Heap) (locs : List Loc) (ls : Array Slot), (0 ≤ n ∧ n ≤ S 0 16 x * S 0 17 x) → (S 0 19 x ≠ 0 → n = 0) → (u = t + sm (fun n => b2 (cM S 26 x n = its)) n.toNat) → S 0 16 x * S 0 17 x - n < (k : Int) → pic g base ad S H → va_S (fun q => base ≤ q) s.heap H locs → lv_has ls 5 [(4, .int (i32 (n))), (3, .int (i32 (x))), (2, .int (i32 (u))), (0, .ref (ad 0 0)), (1, .int (i32 (its)))] → W p l e ({ frames := 1, cells := 0, slots := 0, locals := 22 } : Room) s m av below meth cz H locs 0 0 Qm (F0 m 15 ls []) := by
          intro k
          induction k with
          | zero => intro u n H locs ls hn hg hu hmu _ _ _; exact absurd hmu (by omega)
          | succ k ih15 =>
            intro u n H locs ls hn hg hu hmu hP hS hl
            refine lv_iload hx hb dX4_wovenOf_15 (lv_at hl 0 rfl) ?_
            refine lv_aload_n hx hb dX4_wovenOf_17 rfl (lv_at hl 3 rfl) ?_
            refine p_get (k := 0) hx hb hown hK hP hw.al rfl rfl rfl (lay_X4 hK) 15 713 (by decide) t_713 rfl rfl dX4_wovenOf_18 ?_
            refine lv_iload_n hx hb dX4_wovenOf_21 rfl (lv_at hl 1 rfl) ?_
            refine p_iald (k := 0) (r := 16) (n := 20) hx hb hK hP hw.al rfl rfl (by decide) (by decide) (by omega) (by omega) dX4_wovenOf_22 ?_
            refine lv_aload_n hx hb dX4_wovenOf_23 rfl (lv_at hl 3 rfl) ?_
            refine p_get (k := 0) hx hb hown hK hP hw.al rfl rfl rfl (lay_X4 hK) 16 714 (by decide) t_714 rfl rfl dX4_wovenOf_24 ?_
            refine lv_iload_n hx hb dX4_wovenOf_27 rfl (lv_at hl 1 rfl) ?_
            refine p_iald (k := 0) (r := 17) (n := 20) hx hb hK hP hw.al rfl rfl (by decide) (by decide) (by omega) (by omega) dX4_wovenOf_28 ?_
            refine q_imul hx hb dX4_wovenOf_29 ?_
            refine q_icmp_ge (tgt := 87) hx hb ⟨by omega, by omega⟩ ⟨by omega, by omega⟩ dX4_wovenOf_30 (by decide) (fun c_2 => ?_) (fun c_2 => ?_)
            · -- ((S 0 16 x) * (S 0 17 x)) ≤ n
              have hback : u = sm (wpM S its) (x + 1).toNat := by
                rw [sm_1 _ hi.1, ← ht, hu]
                by_cases hgg : S 0 19 x = 0
                · have : n = S 0 16 x * S 0 17 x := by omega
                  rw [this]; unfold wpM; rw [cif_t hgg]
                · rw [hg hgg]; unfold wpM; rw [cif_f hgg]; rfl
              refine lv_iinc (v := i32 (x + 1)) (lv' := [(3, .int (i32 (x + 1))), (4, .int (i32 (n))), (2, .int (i32 (u))), (0, .ref (ad 0 0)), (1, .int (i32 (its)))]) hx hb dX4_wovenOf_87 hl (k := 1) rfl (i32_add _ _) (by decide) rfl (fun ls hl => ?_)
              refine lv_goto (tgt := 4) hx hb dX4_wovenOf_90 (by decide) ?_
              exact ih4 u (x + 1) _ _ _ (by omega) (by exact hback) (by omega) hP hS (lv_sub hl [0, 2, 3, 4] rfl)
            · -- n < ((S 0 16 x) * (S 0 17 x))
              refine lv_aload_n hx hb dX4_wovenOf_33 rfl (lv_at hl 3 rfl) ?_
              refine p_get (k := 0) hx hb hown hK hP hw.al rfl rfl rfl (lay_X4 hK) 18 716 (by decide) t_716 rfl rfl dX4_wovenOf_34 ?_
              refine lv_iload_n hx hb dX4_wovenOf_37 rfl (lv_at hl 1 rfl) ?_
              refine p_zald (k := 0) (r := 19) (n := 20) hx hb hK hP hw.al rfl rfl (by decide) (by decide) (by omega) (by omega) dX4_wovenOf_38 ?_
              refine q_if_ne (tgt := 87) hx hb (hP.rg _ _ _) dX4_wovenOf_39 (by decide) (fun c_3 => ?_) (fun c_3 => ?_)
              · -- (S 0 19 x) ≠ 0
                have hback : u = sm (wpM S its) (x + 1).toNat := by
                  rw [sm_1 _ hi.1, ← ht, hu]
                  by_cases hgg : S 0 19 x = 0
                  · have : n = S 0 16 x * S 0 17 x := by omega
                    rw [this]; unfold wpM; rw [cif_t hgg]
                  · rw [hg hgg]; unfold wpM; rw [cif_f hgg]; rfl
                refine lv_iinc (v := i32 (x + 1)) (lv' := [(3, .int (i32 (x + 1))), (4, .int (i32 (n))), (2, .int (i32 (u))), (0, .ref (ad 0 0)), (1, .int (i32 (its)))]) hx hb dX4_wovenOf_87 hl (k := 1) rfl (i32_add _ _) (by decide) rfl (fun ls hl => ?_)
                refine lv_goto (tgt := 4) hx hb dX4_wovenOf_90 (by decide) ?_
                exact ih4 u (x + 1) _ _ _ (by omega) (by exact hback) (by omega) hP hS (lv_sub hl [0, 2, 3, 4] rfl)
              · -- (S 0 19 x) = 0
                obtain ⟨hd1, hd2, hd3, hd4⟩ := dmb (n := n) (C := S 0 16 x) (R := S 0 17 x) hn.1 (by omega) (by omega)
                refine lv_iload_n hx hb dX4_wovenOf_42 rfl (lv_at hl 2 rfl) ?_
                refine lv_aload_n hx hb dX4_wovenOf_43 rfl (lv_at hl 3 rfl) ?_
                refine p_get (k := 0) hx hb hown hK hP hw.al rfl rfl rfl (lay_X4 hK) 25 723 (by decide) t_723 rfl rfl dX4_wovenOf_44 ?_
                refine lv_iload_n hx hb dX4_wovenOf_47 rfl (lv_at hl 1 rfl) ?_
                refine lv_iload hx hb dX4_wovenOf_48 (lv_at hl 0 rfl) ?_
                refine lv_aload_n hx hb dX4_wovenOf_50 rfl (lv_at hl 3 rfl) ?_
                refine p_get (k := 0) hx hb hown hK hP hw.al rfl rfl rfl (lay_X4 hK) 16 714 (by decide) t_714 rfl rfl dX4_wovenOf_51 ?_
                refine lv_iload_n hx hb dX4_wovenOf_54 rfl (lv_at hl 1 rfl) ?_
                refine p_iald (k := 0) (r := 17) (n := 20) hx hb hK hP hw.al rfl rfl (by decide) (by decide) (by omega) (by omega) dX4_wovenOf_55 ?_
                refine q_idiv hx hb (by omega) (by omega) (by omega) (by omega) dX4_wovenOf_56 ?_
                refine lv_iload hx hb dX4_wovenOf_57 (lv_at hl 0 rfl) ?_
                refine lv_aload_n hx hb dX4_wovenOf_59 rfl (lv_at hl 3 rfl) ?_
                refine p_get (k := 0) hx hb hown hK hP hw.al rfl rfl rfl (lay_X4 hK) 16 714 (by decide) t_714 rfl rfl dX4_wovenOf_60 ?_
                refine lv_iload_n hx hb dX4_wovenOf_63 rfl (lv_at hl 1 rfl) ?_
                refine p_iald (k := 0) (r := 17) (n := 20) hx hb hK hP hw.al rfl rfl (by decide) (by decide) (by omega) (by omega) dX4_wovenOf_64 ?_
                refine q_irem hx hb (by omega) (by omega) (by omega) (by omega) dX4_wovenOf_65 ?_
                refine q_callS hx hb hml hl.1 hown hK hZ hP hS (c_X4_at l g base ad S x (n / (S 0 17 x)) (n % (S 0 17 x)) ) t_841 (q_callB hK 840 36 842 t_840 t_36 t_842 f_yX4_at ⟨by decide, by decide⟩) rfl rfl (Nat.le_of_ble_eq_true rfl) dX4_wovenOf_66 ⟨by decide, by decide⟩  (q_an (fun H locs hP hS => ?_))
                refine p_iald (k := 0) (r := 26) (n := 4800) hx hb hK hP hw.al rfl rfl (by decide) (by decide) (by omega) (by omega) dX4_wovenOf_69 ?_
                refine lv_iload_n hx hb dX4_wovenOf_70 rfl (lv_at hl 4 rfl) ?_
                have J79 : ∀ (H : Heap) (locs : List Loc), pic g base ad S H → va_S (fun q => base ≤ q) s.heap H locs → W p l e ({ frames := 1, cells := 0, slots := 0, locals := 22 } : Room) s m av below meth cz H locs 0 0 Qm (F0 m 79 ls (Value.int (i32 (b2 (((S 0 26 (240 * x + 10 * (n / (S 0 17 x)) + (n % (S 0 17 x)))) = its)))) :: Value.int (i32 (u)) :: [])) := by
                  intro H locs hP hS
                  refine q_iadd hx hb dX4_wovenOf_79 ?_
                  refine lv_istore_n (lv' := [(2, .int (i32 (u + (b2 (((S 0 26 (240 * x + 10 * (n / (S 0 17 x)) + (n % (S 0 17 x)))) = its)))))), (4, .int (i32 (n))), (3, .int (i32 (x))), (0, .ref (ad 0 0)), (1, .int (i32 (its)))]) hx hb dX4_wovenOf_80 rfl hl (by decide) rfl (fun ls hl => ?_)
                  refine lv_iinc (v := i32 (n + 1)) (lv' := [(4, .int (i32 (n + 1))), (2, .int (i32 (u + (b2 (((S 0 26 (240 * x + 10 * (n / (S 0 17 x)) + (n % (S 0 17 x)))) = its)))))), (3, .int (i32 (x))), (0, .ref (ad 0 0)), (1, .int (i32 (its)))]) hx hb dX4_wovenOf_81 hl (k := 1) rfl (i32_add _ _) (by decide) rfl (fun ls hl => ?_)
                  refine lv_goto (tgt := 15) hx hb dX4_wovenOf_84 (by decide) ?_
                  exact ih15 (u + (b2 (((S 0 26 (240 * x + 10 * (n / (S 0 17 x)) + (n % (S 0 17 x)))) = its)))) (n + 1) _ _ _ (by omega) (by omega) (by rw [sm_1 _ hn.1, hu]; show _ = t + (_ + b2 _); rw [Int.add_assoc]; rfl) (by omega) hP hS (lv_sub hl [0, 2, 1, 3, 4] rfl)
                refine q_icmp_ne (tgt := 78) hx hb (hP.rg _ _ _) hrn dX4_wovenOf_71 (by decide) (fun c_4 => ?_) (fun c_4 => ?_)
                · -- (S 0 26 (240 * x + 10 * (n / (S 0 17 x)) + (n % (S 0 17 x)))) ≠ its
                  refine lv_iconst (v := i32 (0)) hx hb dX4_wovenOf_78 rfl ?_
                  refine q_nm (b2_f (show ¬ (((S 0 26 (240 * x + 10 * (n / (S 0 17 x)) + (n % (S 0 17 x)))) = its)) from by first | omega | (simp only [*]; done) | simp_all)).symm ?_
                  exact J79 _ _ hP hS
                · -- (S 0 26 (240 * x + 10 * (n / (S 0 17 x)) + (n % (S 0 17 x)))) = its
                  refine lv_iconst (v := i32 (1)) hx hb dX4_wovenOf_74 rfl ?_
                  refine lv_goto (tgt := 79) hx hb dX4_wovenOf_75 (by decide) ?_
                  refine q_nm (b2_t (show ((S 0 26 (240 * x + 10 * (n / (S 0 17 x)) + (n % (S 0 17 x)))) = its) from by first | omega | (simp only [*]; done) | simp_all)).symm ?_
                  exact J79 _ _ hP hS
        exact L15 ((S 0 16 x * S 0 17 x - 0) + 1).toNat t 0 _ _ _ (by omega) (by omega) (by show t = t + 0; omega) (by omega) hP hS (lv_sub hl [0, 1, 2, 3, 4] rfl)
  exact L4 ((S 0 0 14 - 0) + 1).toNat 0 0 _ _ _ (by omega) (by rfl) (by omega) hP hS (lv_sub hl [0, 1, 2, 3] rfl)

set_option maxHeartbeats 4000000 in
set_option maxRecDepth 100000 in
theorem c_X4_giver (l : Launch) (g : GT) (base : Nat) (ad : Nat → Nat → Nat) (S : St) (its : Int) (hw : wM S) (hrn : rng its) : Met l yX4_giver [Cond.code yX4_giver cX4_giver 4 (some FieldType.int)] ({ frames := 0, cells := 0, slots := 0, locals := 0 }) (va_Pc [.ref (ad 0 0), .int (i32 (its))] (PK g base ad S)) (gQ g base (an (some (.int (i32 (gvM S its)))) ad S)) 0 0 (fun q => base ≤ q) := by
  refine mk_m (own := RX4) (lv0 := [(0, .ref (ad 0 0)), (1, .int (i32 (its)))]) (by decide) rfl (Nat.le_of_ble_eq_true rfl) rfl ?_
  intro p e s m below meth cz av Qm hx hb hr hml hown hlocks hK hZ hP hQm ls hl
  have hS : va_S (fun q => base ≤ q) s.heap s.heap [] := va_S.rf
  have rS : ∀ (a b : Nat) (i : Int), rng (S a b i) := fun a b i => hP.rg a b i
  obtain ⟨hz1, hz2⟩ := id hrn
  obtain ⟨hp1, hp2⟩ := hw.lt
  refine lv_iconst (v := i32 (-1)) hx hb dX4_giver_0 rfl ?_
  refine lv_istore_n (lv' := [(2, .int (i32 (-1))), (0, .ref (ad 0 0)), (1, .int (i32 (its)))]) hx hb dX4_giver_1 rfl hl (by decide) rfl (fun ls hl => ?_)
  refine lv_aload_n hx hb dX4_giver_2 rfl (lv_at hl 1 rfl) ?_
  refine p_get (k := 0) hx hb hown hK hP hw.al rfl rfl rfl (lay_X4 hK) 8 706 (by decide) t_706 rfl rfl dX4_giver_3 ?_
  refine lv_iconst (v := i32 (1)) hx hb dX4_giver_6 rfl ?_
  refine q_isub hx hb dX4_giver_7 ?_
  refine lv_istore_n (lv' := [(3, .int (i32 ((S 0 0 8) - 1))), (2, .int (i32 (-1))), (0, .ref (ad 0 0)), (1, .int (i32 (its)))]) hx hb dX4_giver_8 rfl hl (by decide) rfl (fun ls hl => ?_)
  have L9 : ∀ (k : Nat) (f k1 : Int) (H : Heap) (locs : List Loc) (ls : Array Slot), (-1 ≤ k1 ∧ k1 < S 0 0 8) → (f = gf (gvP S its) (S 0 0 8 - 1 - k1).toNat (k1 + 1)) → k1 + 1 < (k : Int) → pic g base ad S H → va_S (fun q => base ≤ q) s.heap H locs → lv_has ls 4 [(3, .int (i32 (k1))), (2, .int (i32 (f))), (0, .ref (ad 0 0)), (1, .int (i32 (its)))] → W p l e ({ frames := 0, cells := 0, slots := 0, locals := 0 } : Room) s m av below meth cz H locs 0 0 Qm (F0 m 9 ls []) := by
    intro k
    induction k with
    | zero => intro f k1 H locs ls hi hf hmu _ _ _; exact absurd hmu (by omega)
    | succ k ih9 =>
      intro f k1 H locs ls hi hf hmu hP hS hl
      refine lv_iload_n hx hb dX4_giver_9 rfl (lv_at hl 0 rfl) ?_
      refine q_if_lt (tgt := 44) hx hb ⟨by omega, by omega⟩ dX4_giver_10 (by decide) (fun c_1 => ?_) (fun c_1 => ?_)
      · -- k1 < 0
        refine lv_iload_n hx hb dX4_giver_44 rfl (lv_at hl 1 rfl) ?_
        refine q_nm (show (f : Int) = gvM S its from by rw [hf, show k1 = -1 from by omega, show S 0 0 8 - 1 - -1 = S 0 0 8 from by omega]; rfl) ?_
        subst hQm
        exact q_iret hx hb hr hlocks hP hS ⟨rfl, rfl, rfl⟩ (by decide) (by decide) dX4_giver_45
      · -- 0 ≤ k1
        refine lv_aload_n hx hb dX4_giver_13 rfl (lv_at hl 2 rfl) ?_
        refine p_get (k := 0) hx hb hown hK hP hw.al rfl rfl rfl (lay_X4 hK) 9 707 (by decide) t_707 rfl rfl dX4_giver_14 ?_
        refine lv_iload_n hx hb dX4_giver_17 rfl (lv_at hl 0 rfl) ?_
        refine p_iald (k := 0) (r := 10) (n := 20) hx hb hK hP hw.al rfl rfl (by decide) (by decide) (by omega) (by omega) dX4_giver_18 ?_
        refine lv_iload_n hx hb dX4_giver_19 rfl (lv_at hl 3 rfl) ?_
        have J37 : ∀ (b37 : Int) (H : Heap) (locs : List Loc), ((((S 0 10 k1) ≠ its) ∧ b37 = f) ∨ (((S 0 10 k1) = its) ∧ ((S 0 12 k1) ≤ 0) ∧ b37 = f) ∨ (((S 0 10 k1) = its) ∧ (0 < (S 0 12 k1)) ∧ b37 = k1)) → pic g base ad S H → va_S (fun q => base ≤ q) s.heap H locs → W p l e ({ frames := 0, cells := 0, slots := 0, locals := 0 } : Room) s m av below meth cz H locs 0 0 Qm (F0 m 37 ls (Value.int (i32 b37) :: [])) := by
          intro b37 H locs hb37 hP hS
          refine lv_istore_n (lv' := [(2, .int (i32 (b37))), (3, .int (i32 (k1))), (0, .ref (ad 0 0)), (1, .int (i32 (its)))]) hx hb dX4_giver_37 rfl hl (by decide) rfl (fun ls hl => ?_)
          refine lv_iinc (v := i32 (k1 + (-1))) (lv' := [(3, .int (i32 (k1 + (-1)))), (2, .int (i32 (b37))), (0, .ref (ad 0 0)), (1, .int (i32 (its)))]) hx hb dX4_giver_38 hl (k := 1) rfl (i32_add _ _) (by decide) rfl (fun ls hl => ?_)
          refine lv_goto (tgt := 9) hx hb dX4_giver_41 (by decide) ?_
          have hback : b37 = gf (gvP S its) (S 0 0 8 - 1 - (k1 + (-1))).toNat ((k1 + (-1)) + 1) := by
            rw [show S 0 0 8 - 1 - (k1 + (-1)) = (S 0 0 8 - 1 - k1) + 1 from by omega, show (k1 + (-1)) + 1 = k1 from by omega, gf_s _ _ (by omega), ← hf]
            rcases hb37 with ⟨h1, h2⟩ | ⟨h1, h2, h3⟩ | ⟨h1, h2, h3⟩
            · rw [h2, cif_f (fun q => h1 q.1)]
            · rw [h3, cif_f (fun q => absurd q.2 (by omega))]
            · rw [h3, cif_t ⟨h1, h2⟩]
          exact ih9 b37 (k1 + (-1)) _ _ _ (by omega) (by exact hback) (by omega) hP hS (lv_sub hl [0, 1, 2, 3] rfl)
        refine q_icmp_ne (tgt := 36) hx hb (hP.rg _ _ _) hrn dX4_giver_20 (by decide) (fun c_2 => ?_) (fun c_2 => ?_)
        · -- (S 0 10 k1) ≠ its
          refine lv_iload_n hx hb dX4_giver_36 rfl (lv_at hl 1 rfl) ?_
          exact J37 _ _ _ (by first | omega | (simp only [*]; done) | simp_all) hP hS
        · -- (S 0 10 k1) = its
          refine lv_aload_n hx hb dX4_giver_23 rfl (lv_at hl 2 rfl) ?_
          refine p_get (k := 0) hx hb hown hK hP hw.al rfl rfl rfl (lay_X4 hK) 11 709 (by decide) t_709 rfl rfl dX4_giver_24 ?_
          refine lv_iload_n hx hb dX4_giver_27 rfl (lv_at hl 0 rfl) ?_
          refine p_iald (k := 0) (r := 12) (n := 20) hx hb hK hP hw.al rfl rfl (by decide) (by decide) (by omega) (by omega) dX4_giver_28 ?_
          refine q_if_le (tgt := 36) hx hb (hP.rg _ _ _) dX4_giver_29 (by decide) (fun c_3 => ?_) (fun c_3 => ?_)
          · -- (S 0 12 k1) ≤ 0
            refine lv_iload_n hx hb dX4_giver_36 rfl (lv_at hl 1 rfl) ?_
            exact J37 _ _ _ (by first | omega | (simp only [*]; done) | simp_all) hP hS
          · -- 0 < (S 0 12 k1)
            refine lv_iload_n hx hb dX4_giver_32 rfl (lv_at hl 0 rfl) ?_
            refine lv_goto (tgt := 37) hx hb dX4_giver_33 (by decide) ?_
            exact J37 _ _ _ (by first | omega | (simp only [*]; done) | simp_all) hP hS
  exact L9 ((((S 0 0 8) - 1) + 1) + 1).toNat (-1) ((S 0 0 8) - 1) _ _ _ (by omega) (by rw [show (S 0 0 8 - 1 - (S 0 0 8 - 1)) = 0 from by omega]; rfl) (by omega) hP hS (lv_sub hl [0, 1, 2, 3] rfl)

set_option maxHeartbeats 4000000 in
set_option maxRecDepth 100000 in
theorem c_X4_drawnAt (l : Launch) (g : GT) (base : Nat) (ad : Nat → Nat → Nat) (S : St) (i r q : Int) (hw : wM S) (hii : 0 ≤ i ∧ i < 5) (hrr : 0 ≤ r ∧ r < 10) (hqq : 0 ≤ q ∧ q < 12) : Met l yX4_drawnAt [Cond.code yX4_drawnAt cX4_drawnAt 5 (some FieldType.int)] ({ frames := 0, cells := 0, slots := 0, locals := 0 }) (va_Pc [.ref (ad 0 0), .int (i32 (i)), .int (i32 (r)), .int (i32 (q))] (PK g base ad S)) (gQ g base (an (some (.int (i32 (drM S i r q)))) ad S)) 0 0 (fun q => base ≤ q) := by
  refine mk_m (own := RX4) (lv0 := [(0, .ref (ad 0 0)), (1, .int (i32 (i))), (2, .int (i32 (r))), (3, .int (i32 (q)))]) (by decide) rfl (Nat.le_of_ble_eq_true rfl) rfl ?_
  intro p e s m below meth cz av Qm hx hb hr hml hown hlocks hK hZ hP hQm ls hl
  have hS : va_S (fun q => base ≤ q) s.heap s.heap [] := va_S.rf
  have rS : ∀ (a b : Nat) (i : Int), rng (S a b i) := fun a b i => hP.rg a b i
  refine lv_aload_n hx hb dX4_drawnAt_0 rfl (lv_at hl 0 rfl) ?_
  refine p_get (k := 0) hx hb hown hK hP hw.al rfl rfl rfl (lay_X4 hK) 7 705 (by decide) t_705 rfl rfl dX4_drawnAt_1 ?_
  refine lv_bipush (v := i32 (120)) hx hb dX4_drawnAt_4 (by decide) ?_
  refine lv_iload_n hx hb dX4_drawnAt_6 rfl (lv_at hl 1 rfl) ?_
  refine q_imul hx hb dX4_drawnAt_7 ?_
  refine lv_bipush (v := i32 (12)) hx hb dX4_drawnAt_8 (by decide) ?_
  refine lv_iload_n hx hb dX4_drawnAt_10 rfl (lv_at hl 2 rfl) ?_
  refine q_imul hx hb dX4_drawnAt_11 ?_
  refine q_iadd hx hb dX4_drawnAt_12 ?_
  refine lv_iload_n hx hb dX4_drawnAt_13 rfl (lv_at hl 3 rfl) ?_
  refine q_iadd hx hb dX4_drawnAt_14 ?_
  refine p_iald (k := 0) (r := 8) (n := 600) hx hb hK hP hw.al rfl rfl (by decide) (by decide) (by omega) (by omega) dX4_drawnAt_15 ?_
  refine lv_istore (lv' := [(4, .int (i32 (S 0 8 (((120 * i) + (12 * r)) + q)))), (0, .ref (ad 0 0)), (1, .int (i32 (i))), (2, .int (i32 (r))), (3, .int (i32 (q)))]) hx hb dX4_drawnAt_16 hl (by decide) rfl (fun ls hl => ?_)
  refine lv_iload hx hb dX4_drawnAt_18 (lv_at hl 0 rfl) ?_
  refine lv_bipush (v := i32 (6)) hx hb dX4_drawnAt_20 (by decide) ?_
  refine q_icmp_eq (tgt := 30) hx hb (hP.rg _ _ _) ⟨by decide, by decide⟩ dX4_drawnAt_22 (by decide) (fun c_1 => ?_) (fun c_1 => ?_)
  · -- (S 0 8 (((120 * i) + (12 * r)) + q)) = 6
    refine lv_iload_n hx hb dX4_drawnAt_30 rfl (lv_at hl 3 rfl) ?_
    refine lv_iload_n hx hb dX4_drawnAt_31 rfl (lv_at hl 4 rfl) ?_
    refine q_iadd hx hb dX4_drawnAt_32 ?_
    refine lv_iconst (v := i32 (2)) hx hb dX4_drawnAt_33 rfl ?_
    refine q_irem hx hb (by omega) (by omega) (by omega) (by omega) dX4_drawnAt_34 ?_
    refine q_if_ne (tgt := 47) hx hb ⟨by omega, by omega⟩ dX4_drawnAt_35 (by decide) (fun c_2 => ?_) (fun c_2 => ?_)
    · -- ((r + q) % 2) ≠ 0
      refine lv_aload_n hx hb dX4_drawnAt_47 rfl (lv_at hl 1 rfl) ?_
      refine p_get (k := 0) hx hb hown hK hP hw.al rfl rfl rfl (lay_X4 hK) 6 704 (by decide) t_704 rfl rfl dX4_drawnAt_48 ?_
      refine lv_iload_n hx hb dX4_drawnAt_51 rfl (lv_at hl 2 rfl) ?_
      refine p_iald (k := 0) (r := 7) (n := 5) hx hb hK hP hw.al rfl rfl (by decide) (by decide) (by omega) (by omega) dX4_drawnAt_52 ?_
      refine q_nm (show (S 0 7 i : Int) = drM S i r q from by unfold drM; first | (rw [cif_f (by assumption)]; done) | (rw [cif_t (by assumption), cif_t (by assumption)]; done) | (rw [cif_t (by assumption), cif_f (by assumption)]; done)) ?_
      subst hQm
      exact q_iret hx hb hr hlocks hP hS ⟨rfl, rfl, rfl⟩ (by decide) (by decide) dX4_drawnAt_53
    · -- ((r + q) % 2) = 0
      refine lv_aload_n hx hb dX4_drawnAt_38 rfl (lv_at hl 1 rfl) ?_
      refine p_get (k := 0) hx hb hown hK hP hw.al rfl rfl rfl (lay_X4 hK) 5 703 (by decide) t_703 rfl rfl dX4_drawnAt_39 ?_
      refine lv_iload_n hx hb dX4_drawnAt_42 rfl (lv_at hl 2 rfl) ?_
      refine p_iald (k := 0) (r := 6) (n := 5) hx hb hK hP hw.al rfl rfl (by decide) (by decide) (by omega) (by omega) dX4_drawnAt_43 ?_
      refine lv_goto (tgt := 53) hx hb dX4_drawnAt_44 (by decide) ?_
      refine q_nm (show (S 0 6 i : Int) = drM S i r q from by unfold drM; first | (rw [cif_f (by assumption)]; done) | (rw [cif_t (by assumption), cif_t (by assumption)]; done) | (rw [cif_t (by assumption), cif_f (by assumption)]; done)) ?_
      subst hQm
      exact q_iret hx hb hr hlocks hP hS ⟨rfl, rfl, rfl⟩ (by decide) (by decide) dX4_drawnAt_53
  · -- (S 0 8 (((120 * i) + (12 * r)) + q)) ≠ 6
    refine lv_iload hx hb dX4_drawnAt_25 (lv_at hl 0 rfl) ?_
    refine lv_goto (tgt := 53) hx hb dX4_drawnAt_27 (by decide) ?_
    refine q_nm (show (S 0 8 (((120 * i) + (12 * r)) + q) : Int) = drM S i r q from by unfold drM; first | (rw [cif_f (by assumption)]; done) | (rw [cif_t (by assumption), cif_t (by assumption)]; done) | (rw [cif_t (by assumption), cif_f (by assumption)]; done)) ?_
    subst hQm
    exact q_iret hx hb hr hlocks hP hS ⟨rfl, rfl, rfl⟩ (by decide) (by decide) dX4_drawnAt_53

set_option maxHeartbeats 4000000 in
set_option maxRecDepth 100000 in
theorem c_X4_mayWeave (l : Launch) (g : GT) (base : Nat) (ad : Nat → Nat → Nat) (S : St) (x w : Int) (hw : wM S) (hxx : 0 ≤ x ∧ x < 20) (hww : 0 ≤ w ∧ w < S 0 18 x) : Met l yX4_mayWeave [Cond.code yX4_mayWeave cX4_mayWeave 6 (some FieldType.boolean)] ({ frames := 0, cells := 0, slots := 0, locals := 0 }) (va_Pc [.ref (ad 0 0), .int (i32 (x)), .int (i32 (w))] (PK g base ad S)) (gQ g base (an (some (.int (i32 (b2 (mwM S x w))))) ad S)) 0 0 (fun q => base ≤ q) := by
  refine mk_m (own := RX4) (lv0 := [(0, .ref (ad 0 0)), (1, .int (i32 (x))), (2, .int (i32 (w)))]) (by decide) rfl (Nat.le_of_ble_eq_true rfl) rfl ?_
  intro p e s m below meth cz av Qm hx hb hr hml hown hlocks hK hZ hP hQm ls hl
  have hS : va_S (fun q => base ≤ q) s.heap s.heap [] := va_S.rf
  have rS : ∀ (a b : Nat) (i : Int), rng (S a b i) := fun a b i => hP.rg a b i
  obtain ⟨hx0, hx1⟩ := id hxx
  obtain ⟨hc1, hc2, hr1, hr2, hv1, hv2, hd1, hd2⟩ := hw.pc x hx0 hx1
  refine lv_iconst (v := i32 (4)) hx hb dX4_mayWeave_0 rfl ?_
  refine lv_iload_n hx hb dX4_mayWeave_1 rfl (lv_at hl 1 rfl) ?_
  refine q_imul hx hb dX4_mayWeave_2 ?_
  refine lv_iload_n hx hb dX4_mayWeave_3 rfl (lv_at hl 2 rfl) ?_
  refine q_iadd hx hb dX4_mayWeave_4 ?_
  refine lv_istore_n (lv' := [(3, .int (i32 ((4 * x) + w))), (0, .ref (ad 0 0)), (1, .int (i32 (x))), (2, .int (i32 (w)))]) hx hb dX4_mayWeave_5 rfl hl (by decide) rfl (fun ls hl => ?_)
  refine lv_iload_n hx hb dX4_mayWeave_6 rfl (lv_at hl 3 rfl) ?_
  have J32 : ∀ (H : Heap) (locs : List Loc), pic g base ad S H → va_S (fun q => base ≤ q) s.heap H locs → W p l e ({ frames := 0, cells := 0, slots := 0, locals := 0 } : Room) s m av below meth cz H locs 0 0 Qm (F0 m 32 ls (Value.int (i32 (b2 ((0 < w) ∧ ((S 0 20 (((4 * x) + w) - 1)) < (S 0 20 ((4 * x) + w)))))) :: [])) := by
    intro H locs hP hS
    refine lv_istore (lv' := [(4, .int (i32 (b2 ((0 < w) ∧ ((S 0 20 (((4 * x) + w) - 1)) < (S 0 20 ((4 * x) + w))))))), (3, .int (i32 ((4 * x) + w))), (0, .ref (ad 0 0)), (1, .int (i32 (x))), (2, .int (i32 (w)))]) hx hb dX4_mayWeave_32 hl (by decide) rfl (fun ls hl => ?_)
    refine lv_iload_n hx hb dX4_mayWeave_34 rfl (lv_at hl 4 rfl) ?_
    refine lv_aload_n hx hb dX4_mayWeave_35 rfl (lv_at hl 2 rfl) ?_
    refine p_get (k := 0) hx hb hown hK hP hw.al rfl rfl rfl (lay_X4 hK) 17 715 (by decide) t_715 rfl rfl dX4_mayWeave_36 ?_
    refine lv_iload_n hx hb dX4_mayWeave_39 rfl (lv_at hl 3 rfl) ?_
    refine p_iald (k := 0) (r := 18) (n := 20) hx hb hK hP hw.al rfl rfl (by decide) (by decide) (by omega) (by omega) dX4_mayWeave_40 ?_
    refine lv_iconst (v := i32 (1)) hx hb dX4_mayWeave_41 rfl ?_
    refine q_isub hx hb dX4_mayWeave_42 ?_
    have J68 : ∀ (H : Heap) (locs : List Loc), pic g base ad S H → va_S (fun q => base ≤ q) s.heap H locs → W p l e ({ frames := 0, cells := 0, slots := 0, locals := 0 } : Room) s m av below meth cz H locs 0 0 Qm (F0 m 68 ls (Value.int (i32 (b2 ((w < ((S 0 18 x) - 1)) ∧ ((S 0 20 (((4 * x) + w) + 1)) < (S 0 20 ((4 * x) + w)))))) :: [])) := by
      intro H locs hP hS
      refine lv_istore (lv' := [(5, .int (i32 (b2 ((w < ((S 0 18 x) - 1)) ∧ ((S 0 20 (((4 * x) + w) + 1)) < (S 0 20 ((4 * x) + w))))))), (4, .int (i32 (b2 ((0 < w) ∧ ((S 0 20 (((4 * x) + w) - 1)) < (S 0 20 ((4 * x) + w))))))), (3, .int (i32 ((4 * x) + w))), (0, .ref (ad 0 0)), (1, .int (i32 (x))), (2, .int (i32 (w)))]) hx hb dX4_mayWeave_68 hl (by decide) rfl (fun ls hl => ?_)
      refine lv_aload_n hx hb dX4_mayWeave_70 rfl (lv_at hl 3 rfl) ?_
      refine p_get (k := 0) hx hb hown hK hP hw.al rfl rfl rfl (lay_X4 hK) 19 717 (by decide) t_717 rfl rfl dX4_mayWeave_71 ?_
      refine lv_iload_n hx hb dX4_mayWeave_74 rfl (lv_at hl 2 rfl) ?_
      refine p_iald (k := 0) (r := 20) (n := 80) hx hb hK hP hw.al rfl rfl (by decide) (by decide) (by omega) (by omega) dX4_mayWeave_75 ?_
      refine lv_aload_n hx hb dX4_mayWeave_76 rfl (lv_at hl 3 rfl) ?_
      refine p_get (k := 0) hx hb hown hK hP hw.al rfl rfl rfl (lay_X4 hK) 16 714 (by decide) t_714 rfl rfl dX4_mayWeave_77 ?_
      refine lv_iload_n hx hb dX4_mayWeave_80 rfl (lv_at hl 4 rfl) ?_
      refine p_iald (k := 0) (r := 17) (n := 20) hx hb hK hP hw.al rfl rfl (by decide) (by decide) (by omega) (by omega) dX4_mayWeave_81 ?_
      have J100 : ∀ (H : Heap) (locs : List Loc), pic g base ad S H → va_S (fun q => base ≤ q) s.heap H locs → W p l e ({ frames := 0, cells := 0, slots := 0, locals := 0 } : Room) s m av below meth cz H locs 0 0 Qm (F0 m 100 ls (Value.int (i32 (b2 (((S 0 20 ((4 * x) + w)) < (S 0 17 x)) ∧ (¬ ((0 < w) ∧ ((S 0 20 (((4 * x) + w) - 1)) < (S 0 20 ((4 * x) + w))))) ∧ (¬ ((w < ((S 0 18 x) - 1)) ∧ ((S 0 20 (((4 * x) + w) + 1)) < (S 0 20 ((4 * x) + w)))))))) :: [])) := by
        intro H locs hP hS
        refine q_nm (b2_c (show (((S 0 20 ((4 * x) + w)) < (S 0 17 x)) ∧ (¬ ((0 < w) ∧ ((S 0 20 (((4 * x) + w) - 1)) < (S 0 20 ((4 * x) + w))))) ∧ (¬ ((w < ((S 0 18 x) - 1)) ∧ ((S 0 20 (((4 * x) + w) + 1)) < (S 0 20 ((4 * x) + w)))))) ↔ (mwM S x w) from by unfold mwM; omega)) ?_
        subst hQm
        exact q_zret hx hb hr hlocks hP hS (b2_01 _) ⟨rfl, rfl, rfl⟩ (by decide) (by decide) dX4_mayWeave_100
      refine q_icmp_ge (tgt := 99) hx hb (hP.rg _ _ _) (hP.rg _ _ _) dX4_mayWeave_82 (by decide) (fun c_1 => ?_) (fun c_1 => ?_)
      · -- (S 0 17 x) ≤ (S 0 20 ((4 * x) + w))
        refine lv_iconst (v := i32 (0)) hx hb dX4_mayWeave_99 rfl ?_
        refine q_nm (b2_f (show ¬ (((S 0 20 ((4 * x) + w)) < (S 0 17 x)) ∧ (¬ ((0 < w) ∧ ((S 0 20 (((4 * x) + w) - 1)) < (S 0 20 ((4 * x) + w))))) ∧ (¬ ((w < ((S 0 18 x) - 1)) ∧ ((S 0 20 (((4 * x) + w) + 1)) < (S 0 20 ((4 * x) + w)))))) from by first | omega | (simp only [*]; done) | simp_all)).symm ?_
        exact J100 _ _ hP hS
      · -- (S 0 20 ((4 * x) + w)) < (S 0 17 x)
        refine lv_iload hx hb dX4_mayWeave_85 (lv_at hl 1 rfl) ?_
        refine q_if_neb (tgt := 99) hx hb dX4_mayWeave_87 (by decide) (fun c_2 => ?_) (fun c_2 => ?_)
        · -- (0 < w) ∧ ((S 0 20 (((4 * x) + w) - 1)) < (S 0 20 ((4 * x) + w)))
          refine lv_iconst (v := i32 (0)) hx hb dX4_mayWeave_99 rfl ?_
          refine q_nm (b2_f (show ¬ (((S 0 20 ((4 * x) + w)) < (S 0 17 x)) ∧ (¬ ((0 < w) ∧ ((S 0 20 (((4 * x) + w) - 1)) < (S 0 20 ((4 * x) + w))))) ∧ (¬ ((w < ((S 0 18 x) - 1)) ∧ ((S 0 20 (((4 * x) + w) + 1)) < (S 0 20 ((4 * x) + w)))))) from by first | omega | (simp only [*]; done) | simp_all)).symm ?_
          exact J100 _ _ hP hS
        · -- ¬ ((0 < w) ∧ ((S 0 20 (((4 * x) + w) - 1)) < (S 0 20 ((4 * x) + w))))
          refine lv_iload hx hb dX4_mayWeave_90 (lv_at hl 0 rfl) ?_
          refine q_if_neb (tgt := 99) hx hb dX4_mayWeave_92 (by decide) (fun c_3 => ?_) (fun c_3 => ?_)
          · -- (w < ((S 0 18 x) - 1)) ∧ ((S 0 20 (((4 * x) + w) + 1)) < (S 0 20 ((4 * x) + w)))
            refine lv_iconst (v := i32 (0)) hx hb dX4_mayWeave_99 rfl ?_
            refine q_nm (b2_f (show ¬ (((S 0 20 ((4 * x) + w)) < (S 0 17 x)) ∧ (¬ ((0 < w) ∧ ((S 0 20 (((4 * x) + w) - 1)) < (S 0 20 ((4 * x) + w))))) ∧ (¬ ((w < ((S 0 18 x) - 1)) ∧ ((S 0 20 (((4 * x) + w) + 1)) < (S 0 20 ((4 * x) + w)))))) from by first | omega | (simp only [*]; done) | simp_all)).symm ?_
            exact J100 _ _ hP hS
          · -- ¬ ((w < ((S 0 18 x) - 1)) ∧ ((S 0 20 (((4 * x) + w) + 1)) < (S 0 20 ((4 * x) + w))))
            refine lv_iconst (v := i32 (1)) hx hb dX4_mayWeave_95 rfl ?_
            refine lv_goto (tgt := 100) hx hb dX4_mayWeave_96 (by decide) ?_
            refine q_nm (b2_t (show ((S 0 20 ((4 * x) + w)) < (S 0 17 x)) ∧ (¬ ((0 < w) ∧ ((S 0 20 (((4 * x) + w) - 1)) < (S 0 20 ((4 * x) + w))))) ∧ (¬ ((w < ((S 0 18 x) - 1)) ∧ ((S 0 20 (((4 * x) + w) + 1)) < (S 0 20 ((4 * x) + w))))) from by first | omega | (simp only [*]; done) | simp_all)).symm ?_
            exact J100 _ _ hP hS
    refine q_icmp_ge (tgt := 67) hx hb ⟨by omega, by omega⟩ ⟨by omega, by omega⟩ dX4_mayWeave_43 (by decide) (fun c_4 => ?_) (fun c_4 => ?_)
    · -- ((S 0 18 x) - 1) ≤ w
      refine lv_iconst (v := i32 (0)) hx hb dX4_mayWeave_67 rfl ?_
      refine q_nm (b2_f (show ¬ ((w < ((S 0 18 x) - 1)) ∧ ((S 0 20 (((4 * x) + w) + 1)) < (S 0 20 ((4 * x) + w)))) from by first | omega | (simp only [*]; done) | simp_all)).symm ?_
      exact J68 _ _ hP hS
    · -- w < ((S 0 18 x) - 1)
      refine lv_aload_n hx hb dX4_mayWeave_46 rfl (lv_at hl 2 rfl) ?_
      refine p_get (k := 0) hx hb hown hK hP hw.al rfl rfl rfl (lay_X4 hK) 19 717 (by decide) t_717 rfl rfl dX4_mayWeave_47 ?_
      refine lv_iload_n hx hb dX4_mayWeave_50 rfl (lv_at hl 1 rfl) ?_
      refine lv_iconst (v := i32 (1)) hx hb dX4_mayWeave_51 rfl ?_
      refine q_iadd hx hb dX4_mayWeave_52 ?_
      refine p_iald (k := 0) (r := 20) (n := 80) hx hb hK hP hw.al rfl rfl (by decide) (by decide) (by omega) (by omega) dX4_mayWeave_53 ?_
      refine lv_aload_n hx hb dX4_mayWeave_54 rfl (lv_at hl 2 rfl) ?_
      refine p_get (k := 0) hx hb hown hK hP hw.al rfl rfl rfl (lay_X4 hK) 19 717 (by decide) t_717 rfl rfl dX4_mayWeave_55 ?_
      refine lv_iload_n hx hb dX4_mayWeave_58 rfl (lv_at hl 1 rfl) ?_
      refine p_iald (k := 0) (r := 20) (n := 80) hx hb hK hP hw.al rfl rfl (by decide) (by decide) (by omega) (by omega) dX4_mayWeave_59 ?_
      refine q_icmp_ge (tgt := 67) hx hb (hP.rg _ _ _) (hP.rg _ _ _) dX4_mayWeave_60 (by decide) (fun c_5 => ?_) (fun c_5 => ?_)
      · -- (S 0 20 ((4 * x) + w)) ≤ (S 0 20 (((4 * x) + w) + 1))
        refine lv_iconst (v := i32 (0)) hx hb dX4_mayWeave_67 rfl ?_
        refine q_nm (b2_f (show ¬ ((w < ((S 0 18 x) - 1)) ∧ ((S 0 20 (((4 * x) + w) + 1)) < (S 0 20 ((4 * x) + w)))) from by first | omega | (simp only [*]; done) | simp_all)).symm ?_
        exact J68 _ _ hP hS
      · -- (S 0 20 (((4 * x) + w) + 1)) < (S 0 20 ((4 * x) + w))
        refine lv_iconst (v := i32 (1)) hx hb dX4_mayWeave_63 rfl ?_
        refine lv_goto (tgt := 68) hx hb dX4_mayWeave_64 (by decide) ?_
        refine q_nm (b2_t (show (w < ((S 0 18 x) - 1)) ∧ ((S 0 20 (((4 * x) + w) + 1)) < (S 0 20 ((4 * x) + w))) from by first | omega | (simp only [*]; done) | simp_all)).symm ?_
        exact J68 _ _ hP hS
  refine q_if_le (tgt := 31) hx hb ⟨by omega, by omega⟩ dX4_mayWeave_7 (by decide) (fun c_6 => ?_) (fun c_6 => ?_)
  · -- w ≤ 0
    refine lv_iconst (v := i32 (0)) hx hb dX4_mayWeave_31 rfl ?_
    refine q_nm (b2_f (show ¬ ((0 < w) ∧ ((S 0 20 (((4 * x) + w) - 1)) < (S 0 20 ((4 * x) + w)))) from by first | omega | (simp only [*]; done) | simp_all)).symm ?_
    exact J32 _ _ hP hS
  · -- 0 < w
    refine lv_aload_n hx hb dX4_mayWeave_10 rfl (lv_at hl 1 rfl) ?_
    refine p_get (k := 0) hx hb hown hK hP hw.al rfl rfl rfl (lay_X4 hK) 19 717 (by decide) t_717 rfl rfl dX4_mayWeave_11 ?_
    refine lv_iload_n hx hb dX4_mayWeave_14 rfl (lv_at hl 0 rfl) ?_
    refine lv_iconst (v := i32 (1)) hx hb dX4_mayWeave_15 rfl ?_
    refine q_isub hx hb dX4_mayWeave_16 ?_
    refine p_iald (k := 0) (r := 20) (n := 80) hx hb hK hP hw.al rfl rfl (by decide) (by decide) (by omega) (by omega) dX4_mayWeave_17 ?_
    refine lv_aload_n hx hb dX4_mayWeave_18 rfl (lv_at hl 1 rfl) ?_
    refine p_get (k := 0) hx hb hown hK hP hw.al rfl rfl rfl (lay_X4 hK) 19 717 (by decide) t_717 rfl rfl dX4_mayWeave_19 ?_
    refine lv_iload_n hx hb dX4_mayWeave_22 rfl (lv_at hl 0 rfl) ?_
    refine p_iald (k := 0) (r := 20) (n := 80) hx hb hK hP hw.al rfl rfl (by decide) (by decide) (by omega) (by omega) dX4_mayWeave_23 ?_
    refine q_icmp_ge (tgt := 31) hx hb (hP.rg _ _ _) (hP.rg _ _ _) dX4_mayWeave_24 (by decide) (fun c_7 => ?_) (fun c_7 => ?_)
    · -- (S 0 20 ((4 * x) + w)) ≤ (S 0 20 (((4 * x) + w) - 1))
      refine lv_iconst (v := i32 (0)) hx hb dX4_mayWeave_31 rfl ?_
      refine q_nm (b2_f (show ¬ ((0 < w) ∧ ((S 0 20 (((4 * x) + w) - 1)) < (S 0 20 ((4 * x) + w)))) from by first | omega | (simp only [*]; done) | simp_all)).symm ?_
      exact J32 _ _ hP hS
    · -- (S 0 20 (((4 * x) + w) - 1)) < (S 0 20 ((4 * x) + w))
      refine lv_iconst (v := i32 (1)) hx hb dX4_mayWeave_27 rfl ?_
      refine lv_goto (tgt := 32) hx hb dX4_mayWeave_28 (by decide) ?_
      refine q_nm (b2_t (show (0 < w) ∧ ((S 0 20 (((4 * x) + w) - 1)) < (S 0 20 ((4 * x) + w))) from by first | omega | (simp only [*]; done) | simp_all)).symm ?_
      exact J32 _ _ hP hS

set_option maxHeartbeats 4000000 in
set_option maxRecDepth 100000 in
theorem c_X4_isInner (l : Launch) (g : GT) (base : Nat) (ad : Nat → Nat → Nat) (S : St) (x q : Int) (hw : wM S) (hrn : rng x) (hrn2 : rng q) : Met l yX4_isInner [Cond.code yX4_isInner cX4_isInner 3 (some FieldType.boolean)] ({ frames := 2, cells := 0, slots := 0, locals := 43 }) (va_Pc [.ref (ad 0 0), .int (i32 (x)), .int (i32 (q))] (PK g base ad S)) (gQ g base (an (some (.int (i32 (b2 (inM S x q))))) ad S)) 0 0 (fun q => base ≤ q) := by
  refine mk_m (own := RX4) (lv0 := [(0, .ref (ad 0 0)), (1, .int (i32 (x))), (2, .int (i32 (q)))]) (by decide) rfl (Nat.le_of_ble_eq_true rfl) rfl ?_
  intro p e s m below meth cz av Qm hx hb hr hml hown hlocks hK hZ hP hQm ls hl
  have hS : va_S (fun q => base ≤ q) s.heap s.heap [] := va_S.rf
  have rS : ∀ (a b : Nat) (i : Int), rng (S a b i) := fun a b i => hP.rg a b i
  obtain ⟨hp1, hp2⟩ := hw.ps
  refine lv_aload_n hx hb dX4_isInner_0 rfl (lv_at hl 0 rfl) ?_
  refine lv_iload_n hx hb dX4_isInner_1 rfl (lv_at hl 1 rfl) ?_
  refine q_callV (k := 0) hx hb hml hl.1 hown hK hZ hP hS hw.al rfl rfl rfl (c_X4_isPiece l g base ad S x hw hrn) t_861 t_19 (q_callB hK 859 36 862 t_859 t_36 t_862 f_yX4_isPiece ⟨by decide, by decide⟩) rfl rfl (Nat.le_of_ble_eq_true rfl) dX4_isInner_2 ⟨by decide, by decide⟩  (q_an (fun H locs hP hS => ?_))
  have J41 : ∀ (H : Heap) (locs : List Loc), pic g base ad S H → va_S (fun q => base ≤ q) s.heap H locs → W p l e ({ frames := 2, cells := 0, slots := 0, locals := 43 } : Room) s m av below meth cz H locs 0 0 Qm (F0 m 41 ls (Value.int (i32 (b2 ((isP S x) ∧ (1 ≤ q ∧ q ≤ ((S 0 16 x) - 1))))) :: [])) := by
    intro H locs hP hS
    refine q_nm (b2_c (show ((isP S x) ∧ (1 ≤ q ∧ q ≤ ((S 0 16 x) - 1))) ↔ (inM S x q) from by exact Iff.rfl)) ?_
    subst hQm
    exact q_zret hx hb hr hlocks hP hS (b2_01 _) ⟨rfl, rfl, rfl⟩ (by decide) (by decide) dX4_isInner_41
  refine q_if_eqb (tgt := 40) hx hb dX4_isInner_5 (by decide) (fun c_1 => ?_) (fun c_1 => ?_)
  · -- ¬ (isP S x)
    refine lv_iconst (v := i32 (0)) hx hb dX4_isInner_40 rfl ?_
    refine q_nm (b2_f (show ¬ ((isP S x) ∧ (1 ≤ q ∧ q ≤ ((S 0 16 x) - 1))) from by first | omega | (simp only [*]; done) | simp_all)).symm ?_
    exact J41 _ _ hP hS
  · -- isP S x
    obtain ⟨hq1, hq2, hq3⟩ := id c_1
    obtain ⟨hc1, hc2, hr1, hr2, hv1, hv2, hd1, hd2⟩ := hw.pc x (by omega) (by omega)
    refine lv_iload_n hx hb dX4_isInner_8 rfl (lv_at hl 2 rfl) ?_
    refine lv_iconst (v := i32 (1)) hx hb dX4_isInner_9 rfl ?_
    refine lv_aload_n hx hb dX4_isInner_10 rfl (lv_at hl 0 rfl) ?_
    refine p_get (k := 0) hx hb hown hK hP hw.al rfl rfl rfl (lay_X4 hK) 15 713 (by decide) t_713 rfl rfl dX4_isInner_11 ?_
    refine lv_aload_n hx hb dX4_isInner_14 rfl (lv_at hl 0 rfl) ?_
    refine lv_iload_n hx hb dX4_isInner_15 rfl (lv_at hl 1 rfl) ?_
    refine q_callV (k := 0) hx hb hml hl.1 hown hK hZ hP hS hw.al rfl rfl rfl (c_X4_isPiece l g base ad S x hw hrn) t_861 t_19 (q_callB hK 859 36 862 t_859 t_36 t_862 f_yX4_isPiece ⟨by decide, by decide⟩) rfl rfl (Nat.le_of_ble_eq_true rfl) dX4_isInner_16 ⟨by decide, by decide⟩  (q_an (fun H locs hP hS => ?_))
    refine q_if_eqb (tgt := 26) hx hb dX4_isInner_19 (by decide) (fun h => by first | exact absurd c_1 h | exact absurd h c_1 | omega) (fun _ => ?_)
    refine lv_iload_n hx hb dX4_isInner_22 rfl (lv_at hl 1 rfl) ?_
    refine lv_goto (tgt := 27) hx hb dX4_isInner_23 (by decide) ?_
    refine p_iald (k := 0) (r := 16) (n := 20) hx hb hK hP hw.al rfl rfl (by decide) (by decide) (by omega) (by omega) dX4_isInner_27 ?_
    refine lv_iconst (v := i32 (1)) hx hb dX4_isInner_28 rfl ?_
    refine q_isub hx hb dX4_isInner_29 ?_
    refine q_callS hx hb hml hl.1 hown hK hZ hP hS (c_X4_in l g base ad S q 1 ((S 0 16 x) - 1) hrn2 ⟨by decide, by decide⟩ ⟨by omega, by omega⟩) t_807 (q_callB hK 806 36 808 t_806 t_36 t_808 f_yX4_in ⟨by decide, by decide⟩) rfl rfl (Nat.le_of_ble_eq_true rfl) dX4_isInner_30 ⟨by decide, by decide⟩  (q_an (fun H locs hP hS => ?_))
    refine q_if_eqb (tgt := 40) hx hb dX4_isInner_33 (by decide) (fun c_2 => ?_) (fun c_2 => ?_)
    · -- ¬ (1 ≤ q ∧ q ≤ ((S 0 16 x) - 1))
      refine lv_iconst (v := i32 (0)) hx hb dX4_isInner_40 rfl ?_
      refine q_nm (b2_f (show ¬ ((isP S x) ∧ (1 ≤ q ∧ q ≤ ((S 0 16 x) - 1))) from by first | omega | (simp only [*]; done) | simp_all)).symm ?_
      exact J41 _ _ hP hS
    · -- 1 ≤ q ∧ q ≤ ((S 0 16 x) - 1)
      refine lv_iconst (v := i32 (1)) hx hb dX4_isInner_36 rfl ?_
      refine lv_goto (tgt := 41) hx hb dX4_isInner_37 (by decide) ?_
      refine q_nm (b2_t (show (isP S x) ∧ (1 ≤ q ∧ q ≤ ((S 0 16 x) - 1)) from by first | omega | (simp only [*]; done) | simp_all)).symm ?_
      exact J41 _ _ hP hS
end
