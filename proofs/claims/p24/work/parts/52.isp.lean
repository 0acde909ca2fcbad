/-! ===== what is told of a piece is that of its cells ===== -/
theorem wn_r {S : St} {o : Nat} (hW : 1 ≤ S o 0 0) (hH : 0 ≤ S o 0 1) : sm (fun n => b2 (S o 6 (n / S o 0 0 * 24 + n % S o 0 0) ≠ -1)) (S o 0 0 * S o 0 1).toNat = wnC S o := by
  unfold wnC
  rw [s2_ss]
  exact ss_row (fun r c => b2 (S o 6 (r * 24 + c) ≠ -1)) (by omega) hH
theorem sh_r {S : St} {o : Nat} (hW : 1 ≤ S o 0 0) (hH : 0 ≤ S o 0 1) : sm (fun n => S o 7 (n / S o 0 0 * 24 + n % S o 0 0)) (S o 0 0 * S o 0 1).toNat = shC S o := by
  unfold shC
  rw [s2_ss]
  exact ss_row (fun r c => S o 7 (r * 24 + c)) (by omega) hH
theorem sm_b1 {φ : Int → Prop} (n : Nat) : 0 ≤ sm (fun i => b2 (φ i)) n ∧ sm (fun i => b2 (φ i)) n ≤ n := by
  have := sm_b (f := fun i => b2 (φ i)) (B := 1) (n := n) (by decide) (fun i _ _ => b2_b _)
  omega
set_option maxHeartbeats 4000000 in
set_option maxRecDepth 100000 in
theorem c_L_isPiece (l : Launch) (g : GT) (base : Nat) (ad : Nat → Nat → Nat) (S : St) (x : Int) (hfl : l.stackTraces = false) (hI : IV S) (hpx : peC S x) (hcl : ∀ j, 0 ≤ j → j < S 2 0 0 → S 3 3 j = S 2 2 j) (hrn : rng x) : Met l yL_isPiece [Cond.code yL_isPiece cL_isPiece 11 (some FieldType.boolean)] ({ frames := 9, cells := 1460, slots := 8760, locals := 162 }) (va_Pc [.ref (ad 1 0), .ref (ad 3 3), .int (i32 (x))] (PK g base ad S)) (gQ g base (an (some (.int (i32 1))) ad S)) 1460 8760 (fun q => base ≤ q) := by
  refine mk_m (own := RL) (lv0 := [(0, .ref (ad 1 0)), (1, .ref (ad 3 3)), (2, .int (i32 (x)))]) (by decide) rfl (Nat.le_of_ble_eq_true rfl) rfl ?_
  intro p e s m below meth cz av Qm hx hb hr hml hown hlocks hK hZ hP hQm ls hl
  have hS : va_S (fun q => base ≤ q) s.heap s.heap [] := va_S.rf
  have rS : ∀ (a1 b1 : Nat) (i1 : Int), rng (S a1 b1 i1) := fun a1 b1 i1 => hP.rg a1 b1 i1
  obtain ⟨⟨-, pw, ph, -, p7, -⟩, hC, -⟩ := id (hI.pp hpx)
  have hdn : dnC S (10 + x.toNat) ↔ wnC S (10 + x.toNat) = S (10 + x.toNat) 0 0 * S (10 + x.toNat) 0 1 := Iff.rfl
  have hsn := sn_b (S := S) (o := 10 + x.toNat) pw.1
  have hs2 := sn_2 (S := S) (o := 10 + x.toNat) (by omega)
  have hwn := wn_r (S := S) (o := 10 + x.toNat) pw.1 (by omega)
  have hsh := sh_r (S := S) (o := 10 + x.toNat) pw.1 (by omega)
  have hsb := sh_b (hI.pp hpx)
  have hlc := hI.l.1
  obtain ⟨Wd, hW⟩ : ∃ Wd : Int, S (10 + x.toNat) 0 0 = Wd := ⟨_, rfl⟩
  obtain ⟨H0, hH⟩ : ∃ H0 : Int, S (10 + x.toNat) 0 1 = H0 := ⟨_, rfl⟩
  rw [hW] at pw hdn hsn hwn hsh
  rw [hH] at ph hdn hs2 hwn hsh
  have hM0 : 0 ≤ Wd * H0 := Int.mul_nonneg (by omega) (by omega)
  have hM1 : Wd * H0 ≤ 240 := mul240 (by omega) (by omega) (by omega) (by omega)
  refine lv_aload_n hx hb dL_isPiece_0 rfl (lv_at hl 0 rfl) ?_
  refine lv_iload_n hx hb dL_isPiece_1 rfl (lv_at hl 2 rfl) ?_
  refine lv_iconst (v := i32 (0)) hx hb dL_isPiece_2 rfl ?_
  refine q_callH2 (As := [.ref (ad 1 0), .int (i32 (x)), .int (i32 (0))]) (rest := []) hx hb hml hl.1 hown hK hZ hP hS (c_L_pieceIs l g base ad S x 0 hfl hI.wc hrn ⟨by decide, by decide⟩) t_266 t_14 t_268 t_267 f_yL_pieceIs ⟨Nat.le_of_ble_eq_true rfl, Nat.le_of_ble_eq_true rfl⟩ rfl rfl (Nat.le_of_ble_eq_true rfl) dL_isPiece_3 (c2 := 2) (s2 := 12) ⟨by first | rfl | (dsimp only; omega), by first | rfl | (dsimp only; omega)⟩ ⟨by show 2 ≤ 1460; omega, by show 12 ≤ 8760; omega⟩ (q_an (fun H locs hP hS => ?_))
  refine q_nm (((lv_0 hpx (by decide) trivial).trans (pcC_0 rfl)).trans hW) ?_
  refine lv_istore_n (lv' := [(3, .int (i32 (Wd))), (0, .ref (ad 1 0)), (1, .ref (ad 3 3)), (2, .int (i32 (x)))]) hx hb dL_isPiece_6 rfl hl (by decide) rfl (fun ls hl => ?_)
  refine lv_aload_n hx hb dL_isPiece_7 rfl (lv_at hl 1 rfl) ?_
  refine lv_iload_n hx hb dL_isPiece_8 rfl (lv_at hl 3 rfl) ?_
  refine lv_iconst (v := i32 (1)) hx hb dL_isPiece_9 rfl ?_
  refine q_callH2 (As := [.ref (ad 1 0), .int (i32 (x)), .int (i32 (1))]) (rest := []) hx hb hml hl.1 hown hK hZ hP hS (c_L_pieceIs l g base ad S x 1 hfl hI.wc hrn ⟨by decide, by decide⟩) t_266 t_14 t_268 t_267 f_yL_pieceIs ⟨Nat.le_of_ble_eq_true rfl, Nat.le_of_ble_eq_true rfl⟩ rfl rfl (Nat.le_of_ble_eq_true rfl) dL_isPiece_10 (c2 := 4) (s2 := 24) ⟨by first | rfl | (dsimp only; omega), by first | rfl | (dsimp only; omega)⟩ ⟨by show 4 ≤ 1460; omega, by show 24 ≤ 8760; omega⟩ (q_an (fun H locs hP hS => ?_))
  refine q_nm (((lv_0 hpx (by decide) trivial).trans (pcC_1 rfl)).trans hH) ?_
  refine lv_istore (lv' := [(4, .int (i32 (H0))), (3, .int (i32 (Wd))), (0, .ref (ad 1 0)), (1, .ref (ad 3 3)), (2, .int (i32 (x)))]) hx hb dL_isPiece_13 hl (by decide) rfl (fun ls hl => ?_)
  refine lv_iconst (v := i32 (0)) hx hb dL_isPiece_15 rfl ?_
  refine lv_istore (lv' := [(5, .int (i32 (0))), (4, .int (i32 (H0))), (3, .int (i32 (Wd))), (0, .ref (ad 1 0)), (1, .ref (ad 3 3)), (2, .int (i32 (x)))]) hx hb dL_isPiece_16 hl (by decide) rfl (fun ls hl => ?_)
  refine lv_iconst (v := i32 (0)) hx hb dL_isPiece_18 rfl ?_
  refine lv_istore (lv' := [(6, .int (i32 (0))), (5, .int (i32 (0))), (4, .int (i32 (H0))), (3, .int (i32 (Wd))), (0, .ref (ad 1 0)), (1, .ref (ad 3 3)), (2, .int (i32 (x)))]) hx hb dL_isPiece_19 hl (by decide) rfl (fun ls hl => ?_)
  refine lv_iload_n hx hb dL_isPiece_21 rfl (lv_at hl 3 rfl) ?_
  refine lv_bipush (v := i32 (24)) hx hb dL_isPiece_22 (by decide) ?_
  refine q_icmp_gt (tgt := 90) hx hb ⟨by omega, by omega⟩ ⟨by decide, by decide⟩ dL_isPiece_24 (by decide) (fun c_1 => (by exfalso; omega)) (fun c_1 => ?_)
  refine lv_iload hx hb dL_isPiece_27 (lv_at hl 2 rfl) ?_
  refine lv_bipush (v := i32 (10)) hx hb dL_isPiece_29 (by decide) ?_
  refine q_icmp_gt (tgt := 90) hx hb ⟨by omega, by omega⟩ ⟨by decide, by decide⟩ dL_isPiece_31 (by decide) (fun c_2 => (by exfalso; omega)) (fun c_2 => ?_)
  refine lv_aload_n hx hb dL_isPiece_34 rfl (lv_at hl 4 rfl) ?_
  refine lv_iload_n hx hb dL_isPiece_35 rfl (lv_at hl 6 rfl) ?_
  refine lv_bipush (v := i32 (6)) hx hb dL_isPiece_36 (by decide) ?_
  refine q_callH2 (As := [.ref (ad 1 0), .int (i32 (x)), .int (i32 (6))]) (rest := []) hx hb hml hl.1 hown hK hZ hP hS (c_L_pieceIs l g base ad S x 6 hfl hI.wc hrn ⟨by decide, by decide⟩) t_266 t_14 t_268 t_267 f_yL_pieceIs ⟨Nat.le_of_ble_eq_true rfl, Nat.le_of_ble_eq_true rfl⟩ rfl rfl (Nat.le_of_ble_eq_true rfl) dL_isPiece_38 (c2 := 6) (s2 := 36) ⟨by first | rfl | (dsimp only; omega), by first | rfl | (dsimp only; omega)⟩ ⟨by show 6 ≤ 1460; omega, by show 36 ≤ 8760; omega⟩ (q_an (fun H locs hP hS => ?_))
  refine q_nm (lv_2 hpx (by decide)) ?_
  refine q_ldc (z := -1000002) hx hb hown hK t_249 rfl dL_isPiece_41 ?_
  refine q_icmp_ne (tgt := 90) hx hb ⟨by decide, by decide⟩ ⟨by decide, by decide⟩ dL_isPiece_43 (by decide) (fun c_3 => (by exfalso; omega)) (fun c_3 => ?_)
  refine lv_aload_n hx hb dL_isPiece_46 rfl (lv_at hl 4 rfl) ?_
  refine lv_iload_n hx hb dL_isPiece_47 rfl (lv_at hl 6 rfl) ?_
  refine lv_iload hx hb dL_isPiece_48 (lv_at hl 2 rfl) ?_
  refine lv_iconst (v := i32 (0)) hx hb dL_isPiece_50 rfl ?_
  refine lv_iconst (v := i32 (0)) hx hb dL_isPiece_51 rfl ?_
  refine q_callH2 (As := [.ref (ad 1 0), .int (i32 (x)), .int (i32 (H0)), .int (i32 (0)), .int (i32 (0))]) (rest := []) hx hb hml hl.1 hown hK hZ hP hS (c_L_cell l g base ad S x H0 0 0 hfl hI.wc hrn ⟨by omega, by omega⟩ ⟨by decide, by decide⟩ ⟨by decide, by decide⟩) t_331 t_14 t_333 t_332 f_yL_cell ⟨Nat.le_of_ble_eq_true rfl, Nat.le_of_ble_eq_true rfl⟩ rfl rfl (Nat.le_of_ble_eq_true rfl) dL_isPiece_52 (c2 := 8) (s2 := 48) ⟨by first | rfl | (dsimp only; omega), by first | rfl | (dsimp only; omega)⟩ ⟨by show 8 ≤ 1460; omega, by show 48 ≤ 8760; omega⟩ (q_an (fun H locs hP hS => ?_))
  refine q_nm (lv_1 (fun y => absurd y.2.2.1 (by rw [hH]; omega))) ?_
  refine q_ldc (z := -1000001) hx hb hown hK t_248 rfl dL_isPiece_55 ?_
  refine q_icmp_ne (tgt := 90) hx hb ⟨by decide, by decide⟩ ⟨by decide, by decide⟩ dL_isPiece_57 (by decide) (fun c_4 => (by exfalso; omega)) (fun c_4 => ?_)
  refine lv_aload_n hx hb dL_isPiece_60 rfl (lv_at hl 4 rfl) ?_
  refine lv_iload_n hx hb dL_isPiece_61 rfl (lv_at hl 6 rfl) ?_
  refine lv_iconst (v := i32 (0)) hx hb dL_isPiece_62 rfl ?_
  refine lv_iload_n hx hb dL_isPiece_63 rfl (lv_at hl 3 rfl) ?_
  refine lv_iconst (v := i32 (0)) hx hb dL_isPiece_64 rfl ?_
  refine q_callH2 (As := [.ref (ad 1 0), .int (i32 (x)), .int (i32 (0)), .int (i32 (Wd)), .int (i32 (0))]) (rest := []) hx hb hml hl.1 hown hK hZ hP hS (c_L_cell l g base ad S x 0 Wd 0 hfl hI.wc hrn ⟨by decide, by decide⟩ ⟨by omega, by omega⟩ ⟨by decide, by decide⟩) t_331 t_14 t_333 t_332 f_yL_cell ⟨Nat.le_of_ble_eq_true rfl, Nat.le_of_ble_eq_true rfl⟩ rfl rfl (Nat.le_of_ble_eq_true rfl) dL_isPiece_65 (c2 := 10) (s2 := 60) ⟨by first | rfl | (dsimp only; omega), by first | rfl | (dsimp only; omega)⟩ ⟨by show 10 ≤ 1460; omega, by show 60 ≤ 8760; omega⟩ (q_an (fun H locs hP hS => ?_))
  refine q_nm (lv_1 (fun y => absurd y.2.2.2.2 (by rw [hW]; omega))) ?_
  refine q_ldc (z := -1000001) hx hb hown hK t_248 rfl dL_isPiece_68 ?_
  refine q_icmp_ne (tgt := 90) hx hb ⟨by decide, by decide⟩ ⟨by decide, by decide⟩ dL_isPiece_70 (by decide) (fun h => by first | exact absurd c_4 h | exact absurd h c_4 | omega) (fun _ => ?_)
  refine lv_aload_n hx hb dL_isPiece_73 rfl (lv_at hl 4 rfl) ?_
  refine lv_iload_n hx hb dL_isPiece_74 rfl (lv_at hl 6 rfl) ?_
  refine lv_iconst (v := i32 (0)) hx hb dL_isPiece_75 rfl ?_
  refine lv_iconst (v := i32 (0)) hx hb dL_isPiece_76 rfl ?_
  refine lv_iconst (v := i32 (3)) hx hb dL_isPiece_77 rfl ?_
  refine q_callH2 (As := [.ref (ad 1 0), .int (i32 (x)), .int (i32 (0)), .int (i32 (0)), .int (i32 (3))]) (rest := []) hx hb hml hl.1 hown hK hZ hP hS (c_L_cell l g base ad S x 0 0 3 hfl hI.wc hrn ⟨by decide, by decide⟩ ⟨by decide, by decide⟩ ⟨by decide, by decide⟩) t_331 t_14 t_333 t_332 f_yL_cell ⟨Nat.le_of_ble_eq_true rfl, Nat.le_of_ble_eq_true rfl⟩ rfl rfl (Nat.le_of_ble_eq_true rfl) dL_isPiece_78 (c2 := 12) (s2 := 72) ⟨by first | rfl | (dsimp only; omega), by first | rfl | (dsimp only; omega)⟩ ⟨by show 12 ≤ 1460; omega, by show 72 ≤ 8760; omega⟩ (q_an (fun H locs hP hS => ?_))
  refine q_nm (lv_2 ⟨hpx, by decide, by rw [hH]; omega, by decide, by rw [hW]; omega⟩ (by decide)) ?_
  refine q_ldc (z := -1000002) hx hb hown hK t_249 rfl dL_isPiece_81 ?_
  refine q_icmp_ne (tgt := 90) hx hb ⟨by decide, by decide⟩ ⟨by decide, by decide⟩ dL_isPiece_83 (by decide) (fun h => by first | exact absurd c_3 h | exact absurd h c_3 | omega) (fun _ => ?_)
  refine lv_iconst (v := i32 (1)) hx hb dL_isPiece_86 rfl ?_
  refine lv_goto (tgt := 91) hx hb dL_isPiece_87 (by decide) ?_
  refine lv_istore (lv' := [(7, .int (i32 (1))), (6, .int (i32 (0))), (5, .int (i32 (0))), (4, .int (i32 (H0))), (3, .int (i32 (Wd))), (0, .ref (ad 1 0)), (1, .ref (ad 3 3)), (2, .int (i32 (x)))]) hx hb dL_isPiece_91 hl (by decide) rfl (fun ls hl => ?_)
  refine lv_iconst (v := i32 (0)) hx hb dL_isPiece_93 rfl ?_
  refine lv_istore (lv' := [(8, .int (i32 (0))), (7, .int (i32 (1))), (6, .int (i32 (0))), (5, .int (i32 (0))), (4, .int (i32 (H0))), (3, .int (i32 (Wd))), (0, .ref (ad 1 0)), (1, .ref (ad 3 3)), (2, .int (i32 (x)))]) hx hb dL_isPiece_94 hl (by decide) rfl (fun ls hl => ?_)
  have L96 : ∀ (k : Nat) (n t5 t6 : Int) (cc96 sc96 : Nat) (H : Heap) (locs : List Loc) (ls : Array Slot), (0 ≤ n ∧ n ≤ Wd * H0) → (t5 = sm (fun n => b2 (S (10 + x.toNat) 6 (n / Wd * 24 + n % Wd) ≠ -1)) n.toNat) → (t6 = sm (fun n => S (10 + x.toNat) 7 (n / Wd * 24 + n % Wd)) n.toNat) → (0 ≤ t6 ∧ t6 ≤ 100 * n) → Wd * H0 - n < (k : Int) → (cc96 + 6 * k ≤ 1458 ∧ sc96 + 36 * k ≤ 8748) → pic g base ad S H → va_S (fun q => base ≤ q) s.heap H locs → lv_has ls 11 [(8, .int (i32 (n))), (7, .int (i32 (1))), (6, .int (i32 (t6))), (5, .int (i32 (t5))), (4, .int (i32 (H0))), (3, .int (i32 (Wd))), (0, .ref (ad 1 0)), (1, .ref (ad 3 3)), (2, .int (i32 (x)))] → W p l e ({ frames := 9, cells := 1460, slots := 8760, locals := 162 } : Room) s m av below meth cz H locs cc96 sc96 Qm (F0 m 96 ls []) := by
    intro k
    induction k with
    | zero => intro n t5 t6 cc96 sc96 H locs ls zn z5 z6 z7 hmu _ _ _ _; exact absurd hmu (by omega)
    | succ k ih96 =>
      intro n t5 t6 cc96 sc96 H locs ls zn z5 z6 z7 hmu hcs96 hP hS hl
      have z8 := sm_b1 (φ := fun n => S (10 + x.toNat) 6 (n / Wd * 24 + n % Wd) ≠ -1) n.toNat
      rw [← z5] at z8
      refine lv_iload hx hb dL_isPiece_96 (lv_at hl 0 rfl) ?_
      refine lv_iload_n hx hb dL_isPiece_98 rfl (lv_at hl 5 rfl) ?_
      refine lv_iload hx hb dL_isPiece_99 (lv_at hl 4 rfl) ?_
      refine q_imul hx hb dL_isPiece_101 ?_
      refine q_icmp_ge (tgt := 223) hx hb ⟨by omega, by omega⟩ ⟨by omega, by omega⟩ dL_isPiece_102 (by decide) (fun c_5 => ?_) (fun c_5 => ?_)
      · -- (Wd * H0) ≤ n
        refine lv_aload_n hx hb dL_isPiece_223 rfl (lv_at hl 6 rfl) ?_
        refine lv_iload_n hx hb dL_isPiece_224 rfl (lv_at hl 8 rfl) ?_
        refine lv_iconst (v := i32 (3)) hx hb dL_isPiece_225 rfl ?_
        obtain ⟨t8, ht8⟩ : ∃ t8 : Int, b2 (dnC S (10 + x.toNat)) = t8 := ⟨_, rfl⟩
        have eqn : n = Wd * H0 := by omega
        have f5 : t5 = wnC S (10 + x.toNat) := by rw [z5, eqn]; exact hwn
        have f6 : t6 = shC S (10 + x.toNat) := by rw [z6, eqn]; exact hsh
        have h8 : (t5 = Wd * H0 ∧ t8 = 1) ∨ (t5 ≠ Wd * H0 ∧ t8 = 0) := by by_cases hd : dnC S (10 + x.toNat); (left; rw [← ht8, b2_t hd, f5]; exact ⟨hdn.mp hd, rfl⟩); (right; rw [← ht8, b2_f hd, f5]; exact ⟨fun y => hd (hdn.mpr y), rfl⟩)
        refine q_callH2 (As := [.ref (ad 1 0), .int (i32 (x)), .int (i32 (3))]) (rest := []) hx hb hml hl.1 hown hK hZ hP hS (c_L_pieceIs l g base ad S x 3 hfl hI.wc hrn ⟨by decide, by decide⟩) t_266 t_14 t_268 t_267 f_yL_pieceIs ⟨Nat.le_of_ble_eq_true rfl, Nat.le_of_ble_eq_true rfl⟩ rfl rfl (Nat.le_of_ble_eq_true rfl) dL_isPiece_226 (c2 := cc96 + 2) (s2 := sc96 + 12) ⟨by first | rfl | (dsimp only; omega), by first | rfl | (dsimp only; omega)⟩ ⟨by show cc96 + 2 ≤ 1460; omega, by show sc96 + 12 ≤ 8760; omega⟩ (q_an (fun H locs hP hS => ?_))
        refine q_nm (((lv_0 hpx (by decide) trivial).trans (pcC_3 rfl)).trans ht8) ?_
        refine lv_istore (lv' := [(8, .int (i32 (t8))), (7, .int (i32 (1))), (6, .int (i32 (t6))), (5, .int (i32 (t5))), (4, .int (i32 (H0))), (3, .int (i32 (Wd))), (0, .ref (ad 1 0)), (1, .ref (ad 3 3)), (2, .int (i32 (x)))]) hx hb dL_isPiece_229 hl (by decide) rfl (fun ls hl => ?_)
        refine lv_aload_n hx hb dL_isPiece_231 rfl (lv_at hl 6 rfl) ?_
        refine lv_iload_n hx hb dL_isPiece_232 rfl (lv_at hl 8 rfl) ?_
        refine lv_iconst (v := i32 (4)) hx hb dL_isPiece_233 rfl ?_
        obtain ⟨t9, ht9⟩ : ∃ t9 : Int, cif (dnC S (10 + x.toNat)) (snC S (10 + x.toNat)) 0 = t9 := ⟨_, rfl⟩
        have h9 : 0 ≤ t9 ∧ t9 < Wd ∧ ((t8 = 1 ∧ 2 < H0) ∨ t9 = 0) := by by_cases hd : dnC S (10 + x.toNat); (rw [cif_t hd] at ht9; rw [b2_t hd] at ht8; by_cases h2 : H0 ≤ 2; (have := hs2 h2; omega); omega); (rw [cif_f hd] at ht9; omega)
        refine q_callH2 (As := [.ref (ad 1 0), .int (i32 (x)), .int (i32 (4))]) (rest := []) hx hb hml hl.1 hown hK hZ hP hS (c_L_pieceIs l g base ad S x 4 hfl hI.wc hrn ⟨by decide, by decide⟩) t_266 t_14 t_268 t_267 f_yL_pieceIs ⟨Nat.le_of_ble_eq_true rfl, Nat.le_of_ble_eq_true rfl⟩ rfl rfl (Nat.le_of_ble_eq_true rfl) dL_isPiece_234 (c2 := cc96 + 4) (s2 := sc96 + 24) ⟨by first | rfl | (dsimp only; omega), by first | rfl | (dsimp only; omega)⟩ ⟨by show cc96 + 4 ≤ 1460; omega, by show sc96 + 24 ≤ 8760; omega⟩ (q_an (fun H locs hP hS => ?_))
        refine q_nm (((lv_0 hpx (by decide) trivial).trans (pcC_4 rfl)).trans ht9) ?_
        refine lv_istore (lv' := [(9, .int (i32 (t9))), (8, .int (i32 (t8))), (7, .int (i32 (1))), (6, .int (i32 (t6))), (5, .int (i32 (t5))), (4, .int (i32 (H0))), (3, .int (i32 (Wd))), (0, .ref (ad 1 0)), (1, .ref (ad 3 3)), (2, .int (i32 (x)))]) hx hb dL_isPiece_237 hl (by decide) rfl (fun ls hl => ?_)
        refine lv_iload hx hb dL_isPiece_239 (lv_at hl 2 rfl) ?_
        refine q_if_eq (tgt := 317) hx hb ⟨by decide, by decide⟩ dL_isPiece_241 (by decide) (fun h => by omega) (fun _ => ?_)
        refine lv_aload_n hx hb dL_isPiece_244 rfl (lv_at hl 7 rfl) ?_
        refine lv_iload_n hx hb dL_isPiece_245 rfl (lv_at hl 9 rfl) ?_
        refine lv_iconst (v := i32 (2)) hx hb dL_isPiece_246 rfl ?_
        refine q_callH2 (As := [.ref (ad 1 0), .int (i32 (x)), .int (i32 (2))]) (rest := []) hx hb hml hl.1 hown hK hZ hP hS (c_L_pieceIs l g base ad S x 2 hfl hI.wc hrn ⟨by decide, by decide⟩) t_266 t_14 t_268 t_267 f_yL_pieceIs ⟨Nat.le_of_ble_eq_true rfl, Nat.le_of_ble_eq_true rfl⟩ rfl rfl (Nat.le_of_ble_eq_true rfl) dL_isPiece_247 (c2 := cc96 + 6) (s2 := sc96 + 36) ⟨by first | rfl | (dsimp only; omega), by first | rfl | (dsimp only; omega)⟩ ⟨by show cc96 + 6 ≤ 1460; omega, by show sc96 + 36 ≤ 8760; omega⟩ (q_an (fun H locs hP hS => ?_))
        refine q_nm (((lv_0 hpx (by decide) trivial).trans (pcC_2 rfl)).trans f5.symm) ?_
        refine lv_iload hx hb dL_isPiece_250 (lv_at hl 4 rfl) ?_
        refine q_icmp_ne (tgt := 317) hx hb ⟨by omega, by omega⟩ ⟨by omega, by omega⟩ dL_isPiece_252 (by decide) (fun c_6 => (by exfalso; omega)) (fun c_6 => ?_)
        refine lv_aload_n hx hb dL_isPiece_255 rfl (lv_at hl 7 rfl) ?_
        refine lv_iload_n hx hb dL_isPiece_256 rfl (lv_at hl 9 rfl) ?_
        refine lv_iconst (v := i32 (5)) hx hb dL_isPiece_257 rfl ?_
        refine q_callH2 (As := [.ref (ad 1 0), .int (i32 (x)), .int (i32 (5))]) (rest := []) hx hb hml hl.1 hown hK hZ hP hS (c_L_pieceIs l g base ad S x 5 hfl hI.wc hrn ⟨by decide, by decide⟩) t_266 t_14 t_268 t_267 f_yL_pieceIs ⟨Nat.le_of_ble_eq_true rfl, Nat.le_of_ble_eq_true rfl⟩ rfl rfl (Nat.le_of_ble_eq_true rfl) dL_isPiece_258 (c2 := cc96 + 8) (s2 := sc96 + 48) ⟨by first | rfl | (dsimp only; omega), by first | rfl | (dsimp only; omega)⟩ ⟨by show cc96 + 8 ≤ 1460; omega, by show sc96 + 48 ≤ 8760; omega⟩ (q_an (fun H locs hP hS => ?_))
        refine q_nm (((lv_0 hpx (by decide) trivial).trans (pcC_5 rfl)).trans f6.symm) ?_
        refine lv_iload hx hb dL_isPiece_261 (lv_at hl 3 rfl) ?_
        refine q_icmp_ne (tgt := 317) hx hb ⟨by omega, by omega⟩ ⟨by omega, by omega⟩ dL_isPiece_263 (by decide) (fun c_7 => (by exfalso; omega)) (fun c_7 => ?_)
        refine lv_iload hx hb dL_isPiece_266 (lv_at hl 1 rfl) ?_
        refine lv_iload hx hb dL_isPiece_268 (lv_at hl 4 rfl) ?_
        refine lv_iload_n hx hb dL_isPiece_270 rfl (lv_at hl 6 rfl) ?_
        refine lv_iload hx hb dL_isPiece_271 (lv_at hl 5 rfl) ?_
        refine q_imul hx hb dL_isPiece_273 ?_
        refine q_icmp_ne (tgt := 281) hx hb ⟨by omega, by omega⟩ ⟨by omega, by omega⟩ dL_isPiece_274 (by decide) (fun c_8 => ?_) (fun c_8 => ?_)
        · -- t5 ≠ (Wd * H0)
          refine lv_iconst (v := i32 (0)) hx hb dL_isPiece_281 rfl ?_
          refine q_icmp_ne (tgt := 317) hx hb ⟨by omega, by omega⟩ ⟨by decide, by decide⟩ dL_isPiece_282 (by decide) (fun c_9 => (by exfalso; omega)) (fun c_9 => ?_)
          refine lv_iload hx hb dL_isPiece_285 (lv_at hl 0 rfl) ?_
          refine q_if_lt (tgt := 317) hx hb ⟨by omega, by omega⟩ dL_isPiece_287 (by decide) (fun c_10 => (by exfalso; omega)) (fun c_10 => ?_)
          refine lv_iload hx hb dL_isPiece_290 (lv_at hl 0 rfl) ?_
          refine lv_iload_n hx hb dL_isPiece_292 rfl (lv_at hl 6 rfl) ?_
          refine q_icmp_ge (tgt := 317) hx hb ⟨by omega, by omega⟩ ⟨by omega, by omega⟩ dL_isPiece_293 (by decide) (fun c_11 => (by exfalso; omega)) (fun c_11 => ?_)
          refine lv_iload hx hb dL_isPiece_296 (lv_at hl 1 rfl) ?_
          refine lv_iconst (v := i32 (1)) hx hb dL_isPiece_298 rfl ?_
          refine q_icmp_ne (tgt := 308) hx hb ⟨by omega, by omega⟩ ⟨by decide, by decide⟩ dL_isPiece_299 (by decide) (fun c_12 => ?_) (fun c_12 => ?_)
          · -- t8 ≠ 1
            refine lv_iload hx hb dL_isPiece_308 (lv_at hl 0 rfl) ?_
            refine q_if_ne (tgt := 317) hx hb ⟨by omega, by omega⟩ dL_isPiece_310 (by decide) (fun c_13 => (by exfalso; omega)) (fun c_13 => ?_)
            refine lv_iconst (v := i32 (1)) hx hb dL_isPiece_313 rfl ?_
            refine lv_goto (tgt := 318) hx hb dL_isPiece_314 (by decide) ?_
            subst hQm
            exact q_zret hx hb hr hlocks hP hS (v := 1) (by decide) ⟨rfl, rfl, rfl⟩ (by show cc96 + 8 ≤ 1460; omega) (by show sc96 + 48 ≤ 8760; omega) dL_isPiece_318
          · -- t8 = 1
            refine lv_iload hx hb dL_isPiece_302 (lv_at hl 5 rfl) ?_
            refine lv_iconst (v := i32 (2)) hx hb dL_isPiece_304 rfl ?_
            refine q_icmp_gt (tgt := 313) hx hb ⟨by omega, by omega⟩ ⟨by decide, by decide⟩ dL_isPiece_305 (by decide) (fun c_14 => ?_) (fun c_14 => ?_)
            · -- 2 < H0
              refine lv_iconst (v := i32 (1)) hx hb dL_isPiece_313 rfl ?_
              refine lv_goto (tgt := 318) hx hb dL_isPiece_314 (by decide) ?_
              subst hQm
              exact q_zret hx hb hr hlocks hP hS (v := 1) (by decide) ⟨rfl, rfl, rfl⟩ (by show cc96 + 8 ≤ 1460; omega) (by show sc96 + 48 ≤ 8760; omega) dL_isPiece_318
            · -- H0 ≤ 2
              refine lv_iload hx hb dL_isPiece_308 (lv_at hl 0 rfl) ?_
              refine q_if_ne (tgt := 317) hx hb ⟨by omega, by omega⟩ dL_isPiece_310 (by decide) (fun c_15 => (by exfalso; omega)) (fun c_15 => ?_)
              refine lv_iconst (v := i32 (1)) hx hb dL_isPiece_313 rfl ?_
              refine lv_goto (tgt := 318) hx hb dL_isPiece_314 (by decide) ?_
              subst hQm
              exact q_zret hx hb hr hlocks hP hS (v := 1) (by decide) ⟨rfl, rfl, rfl⟩ (by show cc96 + 8 ≤ 1460; omega) (by show sc96 + 48 ≤ 8760; omega) dL_isPiece_318
        · -- t5 = (Wd * H0)
          refine lv_iconst (v := i32 (1)) hx hb dL_isPiece_277 rfl ?_
          refine lv_goto (tgt := 282) hx hb dL_isPiece_278 (by decide) ?_
          refine q_icmp_ne (tgt := 317) hx hb ⟨by omega, by omega⟩ ⟨by decide, by decide⟩ dL_isPiece_282 (by decide) (fun c_16 => (by exfalso; omega)) (fun c_16 => ?_)
          refine lv_iload hx hb dL_isPiece_285 (lv_at hl 0 rfl) ?_
          refine q_if_lt (tgt := 317) hx hb ⟨by omega, by omega⟩ dL_isPiece_287 (by decide) (fun c_17 => (by exfalso; omega)) (fun c_17 => ?_)
          refine lv_iload hx hb dL_isPiece_290 (lv_at hl 0 rfl) ?_
          refine lv_iload_n hx hb dL_isPiece_292 rfl (lv_at hl 6 rfl) ?_
          refine q_icmp_ge (tgt := 317) hx hb ⟨by omega, by omega⟩ ⟨by omega, by omega⟩ dL_isPiece_293 (by decide) (fun c_18 => (by exfalso; omega)) (fun c_18 => ?_)
          refine lv_iload hx hb dL_isPiece_296 (lv_at hl 1 rfl) ?_
          refine lv_iconst (v := i32 (1)) hx hb dL_isPiece_298 rfl ?_
          refine q_icmp_ne (tgt := 308) hx hb ⟨by omega, by omega⟩ ⟨by decide, by decide⟩ dL_isPiece_299 (by decide) (fun h => by first | exact absurd c_16 h | exact absurd h c_16 | omega) (fun _ => ?_)
          refine lv_iload hx hb dL_isPiece_302 (lv_at hl 5 rfl) ?_
          refine lv_iconst (v := i32 (2)) hx hb dL_isPiece_304 rfl ?_
          refine q_icmp_gt (tgt := 313) hx hb ⟨by omega, by omega⟩ ⟨by decide, by decide⟩ dL_isPiece_305 (by decide) (fun c_19 => ?_) (fun c_19 => ?_)
          · -- 2 < H0
            refine lv_iconst (v := i32 (1)) hx hb dL_isPiece_313 rfl ?_
            refine lv_goto (tgt := 318) hx hb dL_isPiece_314 (by decide) ?_
            subst hQm
            exact q_zret hx hb hr hlocks hP hS (v := 1) (by decide) ⟨rfl, rfl, rfl⟩ (by show cc96 + 8 ≤ 1460; omega) (by show sc96 + 48 ≤ 8760; omega) dL_isPiece_318
          · -- H0 ≤ 2
            refine lv_iload hx hb dL_isPiece_308 (lv_at hl 0 rfl) ?_
            refine q_if_ne (tgt := 317) hx hb ⟨by omega, by omega⟩ dL_isPiece_310 (by decide) (fun c_20 => (by exfalso; omega)) (fun c_20 => ?_)
            refine lv_iconst (v := i32 (1)) hx hb dL_isPiece_313 rfl ?_
            refine lv_goto (tgt := 318) hx hb dL_isPiece_314 (by decide) ?_
            subst hQm
            exact q_zret hx hb hr hlocks hP hS (v := 1) (by decide) ⟨rfl, rfl, rfl⟩ (by show cc96 + 8 ≤ 1460; omega) (by show sc96 + 48 ≤ 8760; omega) dL_isPiece_318
      · -- n < (Wd * H0)
        refine lv_iload hx hb dL_isPiece_105 (lv_at hl 1 rfl) ?_
        refine q_if_eq (tgt := 223) hx hb ⟨by decide, by decide⟩ dL_isPiece_107 (by decide) (fun h => by omega) (fun _ => ?_)
        refine lv_aload_n hx hb dL_isPiece_110 rfl (lv_at hl 6 rfl) ?_
        refine lv_iload_n hx hb dL_isPiece_111 rfl (lv_at hl 8 rfl) ?_
        refine lv_iload hx hb dL_isPiece_112 (lv_at hl 0 rfl) ?_
        refine lv_iload_n hx hb dL_isPiece_114 rfl (lv_at hl 5 rfl) ?_
        refine q_idiv hx hb (by omega) (by omega) (by omega) (by omega) dL_isPiece_115 ?_
        refine lv_iload hx hb dL_isPiece_116 (lv_at hl 0 rfl) ?_
        refine lv_iload_n hx hb dL_isPiece_118 rfl (lv_at hl 5 rfl) ?_
        refine q_irem hx hb (by omega) (by omega) (by omega) (by omega) dL_isPiece_119 ?_
        refine lv_iconst (v := i32 (1)) hx hb dL_isPiece_120 rfl ?_
        have dm := dmb (n := n) (C := H0) (R := Wd) (by omega) (by rw [Int.mul_comm]; omega) (by omega)
        obtain ⟨lt, hlt⟩ : ∃ lt : Int, S (10 + x.toNat) 6 (n / Wd * 24 + n % Wd) = lt := ⟨_, rfl⟩
        obtain ⟨sd, hsd⟩ : ∃ sd : Int, S (10 + x.toNat) 7 (n / Wd * 24 + n % Wd) = sd := ⟨_, rfl⟩
        obtain ⟨cr, hcr⟩ : ∃ cr : Int, S (10 + x.toNat) 5 (n / Wd * 24 + n % Wd) = cr := ⟨_, rfl⟩
        have hok := hC (n / Wd) (n % Wd) dm.1 (by rw [hH]; exact dm.2.1) dm.2.2.1 (by rw [hW]; exact dm.2.2.2)
        rw [hlt, hsd, hcr] at hok
        obtain ⟨⟨ok1, ok2⟩, hok⟩ := hok
        have ok3 : (lt = -1 ∧ sd = 0) ∨ (0 ≤ lt ∧ lt < S 2 0 0 ∧ 0 ≤ sd ∧ sd ≤ 100) := by rcases hok with y | ⟨y1, y2, -, y3⟩; exact Or.inl y; exact Or.inr ⟨y1, y2, y3⟩
        have ok4 : 0 ≤ lt → S 2 2 lt = cr := by rcases hok with y | ⟨-, -, y3, -⟩; (intro y9; omega); exact fun _ => y3
        refine q_callH2 (As := [.ref (ad 1 0), .int (i32 (x)), .int (i32 (n / Wd)), .int (i32 (n % Wd)), .int (i32 (1))]) (rest := []) hx hb hml hl.1 hown hK hZ hP hS (c_L_cell l g base ad S x (n / Wd) (n % Wd) 1 hfl hI.wc hrn ⟨by omega, by omega⟩ ⟨by omega, by omega⟩ ⟨by decide, by decide⟩) t_331 t_14 t_333 t_332 f_yL_cell ⟨Nat.le_of_ble_eq_true rfl, Nat.le_of_ble_eq_true rfl⟩ rfl rfl (Nat.le_of_ble_eq_true rfl) dL_isPiece_121 (c2 := cc96 + 2) (s2 := sc96 + 12) ⟨by first | rfl | (dsimp only; omega), by first | rfl | (dsimp only; omega)⟩ ⟨by show cc96 + 2 ≤ 1460; omega, by show sc96 + 12 ≤ 8760; omega⟩ (q_an (fun H locs hP hS => ?_))
        refine q_nm ((lv_0 ⟨hpx, by rw [hW, hH]; exact ⟨dm.1, dm.2.1, dm.2.2.1, dm.2.2.2⟩⟩ (by decide) trivial).trans ((ceF_1 rfl).trans hlt)) ?_
        refine lv_istore (lv' := [(9, .int (i32 (lt))), (8, .int (i32 (n))), (7, .int (i32 (1))), (6, .int (i32 (t6))), (5, .int (i32 (t5))), (4, .int (i32 (H0))), (3, .int (i32 (Wd))), (0, .ref (ad 1 0)), (1, .ref (ad 3 3)), (2, .int (i32 (x)))]) hx hb dL_isPiece_124 hl (by decide) rfl (fun ls hl => ?_)
        refine lv_aload_n hx hb dL_isPiece_126 rfl (lv_at hl 7 rfl) ?_
        refine lv_iload_n hx hb dL_isPiece_127 rfl (lv_at hl 9 rfl) ?_
        refine lv_iload hx hb dL_isPiece_128 (lv_at hl 1 rfl) ?_
        refine lv_iload_n hx hb dL_isPiece_130 rfl (lv_at hl 6 rfl) ?_
        refine q_idiv hx hb (by omega) (by omega) (by omega) (by omega) dL_isPiece_131 ?_
        refine lv_iload hx hb dL_isPiece_132 (lv_at hl 1 rfl) ?_
        refine lv_iload_n hx hb dL_isPiece_134 rfl (lv_at hl 6 rfl) ?_
        refine q_irem hx hb (by omega) (by omega) (by omega) (by omega) dL_isPiece_135 ?_
        refine lv_iconst (v := i32 (2)) hx hb dL_isPiece_136 rfl ?_
        refine q_callH2 (As := [.ref (ad 1 0), .int (i32 (x)), .int (i32 (n / Wd)), .int (i32 (n % Wd)), .int (i32 (2))]) (rest := []) hx hb hml hl.1 hown hK hZ hP hS (c_L_cell l g base ad S x (n / Wd) (n % Wd) 2 hfl hI.wc hrn ⟨by omega, by omega⟩ ⟨by omega, by omega⟩ ⟨by decide, by decide⟩) t_331 t_14 t_333 t_332 f_yL_cell ⟨Nat.le_of_ble_eq_true rfl, Nat.le_of_ble_eq_true rfl⟩ rfl rfl (Nat.le_of_ble_eq_true rfl) dL_isPiece_137 (c2 := cc96 + 4) (s2 := sc96 + 24) ⟨by first | rfl | (dsimp only; omega), by first | rfl | (dsimp only; omega)⟩ ⟨by show cc96 + 4 ≤ 1460; omega, by show sc96 + 24 ≤ 8760; omega⟩ (q_an (fun H locs hP hS => ?_))
        refine q_nm ((lv_0 ⟨hpx, by rw [hW, hH]; exact ⟨dm.1, dm.2.1, dm.2.2.1, dm.2.2.2⟩⟩ (by decide) trivial).trans ((ceF_2 rfl).trans hsd)) ?_
        refine lv_istore (lv' := [(10, .int (i32 (sd))), (9, .int (i32 (lt))), (8, .int (i32 (n))), (7, .int (i32 (1))), (6, .int (i32 (t6))), (5, .int (i32 (t5))), (4, .int (i32 (H0))), (3, .int (i32 (Wd))), (0, .ref (ad 1 0)), (1, .ref (ad 3 3)), (2, .int (i32 (x)))]) hx hb dL_isPiece_140 hl (by decide) rfl (fun ls hl => ?_)
        refine lv_iload hx hb dL_isPiece_142 (lv_at hl 5 rfl) ?_
        refine lv_iload hx hb dL_isPiece_144 (lv_at hl 1 rfl) ?_
        refine q_if_lt (tgt := 153) hx hb ⟨by omega, by omega⟩ dL_isPiece_146 (by decide) (fun c_21 => ?_) (fun c_21 => ?_)
        · -- lt < 0
          refine lv_iconst (v := i32 (0)) hx hb dL_isPiece_153 rfl ?_
          refine q_iadd hx hb dL_isPiece_154 ?_
          refine lv_istore (lv' := [(5, .int (i32 (t5 + 0))), (10, .int (i32 (sd))), (9, .int (i32 (lt))), (8, .int (i32 (n))), (7, .int (i32 (1))), (6, .int (i32 (t6))), (4, .int (i32 (H0))), (3, .int (i32 (Wd))), (0, .ref (ad 1 0)), (1, .ref (ad 3 3)), (2, .int (i32 (x)))]) hx hb dL_isPiece_155 hl (by decide) rfl (fun ls hl => ?_)
          refine lv_iload hx hb dL_isPiece_157 (lv_at hl 5 rfl) ?_
          refine lv_iload hx hb dL_isPiece_159 (lv_at hl 1 rfl) ?_
          refine q_iadd hx hb dL_isPiece_161 ?_
          refine lv_istore (lv' := [(6, .int (i32 (t6 + sd))), (5, .int (i32 (t5 + 0))), (10, .int (i32 (sd))), (9, .int (i32 (lt))), (8, .int (i32 (n))), (7, .int (i32 (1))), (4, .int (i32 (H0))), (3, .int (i32 (Wd))), (0, .ref (ad 1 0)), (1, .ref (ad 3 3)), (2, .int (i32 (x)))]) hx hb dL_isPiece_162 hl (by decide) rfl (fun ls hl => ?_)
          refine lv_iload hx hb dL_isPiece_164 (lv_at hl 2 rfl) ?_
          refine q_if_lt (tgt := 214) hx hb ⟨by omega, by omega⟩ dL_isPiece_166 (by decide) (fun c_22 => (by exfalso; omega)) (fun c_22 => ?_)
          refine lv_iload hx hb dL_isPiece_169 (lv_at hl 2 rfl) ?_
          refine lv_bipush (v := i32 (100)) hx hb dL_isPiece_171 (by decide) ?_
          refine q_icmp_gt (tgt := 214) hx hb ⟨by omega, by omega⟩ ⟨by decide, by decide⟩ dL_isPiece_173 (by decide) (fun c_23 => (by exfalso; omega)) (fun c_23 => ?_)
          refine lv_iload hx hb dL_isPiece_176 (lv_at hl 3 rfl) ?_
          refine q_if_ge (tgt := 189) hx hb ⟨by omega, by omega⟩ dL_isPiece_178 (by decide) (fun h => by first | exact absurd c_21 h | exact absurd h c_21 | omega) (fun _ => ?_)
          refine lv_iload hx hb dL_isPiece_181 (lv_at hl 2 rfl) ?_
          refine q_if_ne (tgt := 214) hx hb ⟨by omega, by omega⟩ dL_isPiece_183 (by decide) (fun c_24 => (by exfalso; omega)) (fun c_24 => ?_)
          refine lv_goto (tgt := 210) hx hb dL_isPiece_186 (by decide) ?_
          refine lv_iconst (v := i32 (1)) hx hb dL_isPiece_210 rfl ?_
          refine lv_goto (tgt := 215) hx hb dL_isPiece_211 (by decide) ?_
          refine lv_istore (lv' := [(7, .int (i32 (1))), (6, .int (i32 (t6 + sd))), (5, .int (i32 (t5 + 0))), (10, .int (i32 (sd))), (9, .int (i32 (lt))), (8, .int (i32 (n))), (4, .int (i32 (H0))), (3, .int (i32 (Wd))), (0, .ref (ad 1 0)), (1, .ref (ad 3 3)), (2, .int (i32 (x)))]) hx hb dL_isPiece_215 hl (by decide) rfl (fun ls hl => ?_)
          refine lv_iinc (v := i32 (n + 1)) (lv' := [(8, .int (i32 (n + 1))), (7, .int (i32 (1))), (6, .int (i32 (t6 + sd))), (5, .int (i32 (t5 + 0))), (10, .int (i32 (sd))), (9, .int (i32 (lt))), (4, .int (i32 (H0))), (3, .int (i32 (Wd))), (0, .ref (ad 1 0)), (1, .ref (ad 3 3)), (2, .int (i32 (x)))]) hx hb dL_isPiece_217 hl (k := 5) rfl (i32_add _ _) (by decide) rfl (fun ls hl => ?_)
          refine lv_goto (tgt := 96) hx hb dL_isPiece_220 (by decide) ?_
          exact ih96 (n + 1) (t5 + 0) (t6 + sd) (cc96 + 4) (sc96 + 24) _ _ _ (by omega) (by rw [sm_1 _ zn.1, ← z5, hlt]; rw [b2_f (by omega)]) (by rw [sm_1 _ zn.1, ← z6, hsd]) (by omega) (by omega) (by omega) hP hS (lv_sub hl [0, 1, 2, 3, 6, 7, 8, 9, 10] rfl)
        · -- 0 ≤ lt
          refine lv_iconst (v := i32 (1)) hx hb dL_isPiece_149 rfl ?_
          refine lv_goto (tgt := 154) hx hb dL_isPiece_150 (by decide) ?_
          refine q_iadd hx hb dL_isPiece_154 ?_
          refine lv_istore (lv' := [(5, .int (i32 (t5 + 1))), (10, .int (i32 (sd))), (9, .int (i32 (lt))), (8, .int (i32 (n))), (7, .int (i32 (1))), (6, .int (i32 (t6))), (4, .int (i32 (H0))), (3, .int (i32 (Wd))), (0, .ref (ad 1 0)), (1, .ref (ad 3 3)), (2, .int (i32 (x)))]) hx hb dL_isPiece_155 hl (by decide) rfl (fun ls hl => ?_)
          refine lv_iload hx hb dL_isPiece_157 (lv_at hl 5 rfl) ?_
          refine lv_iload hx hb dL_isPiece_159 (lv_at hl 1 rfl) ?_
          refine q_iadd hx hb dL_isPiece_161 ?_
          refine lv_istore (lv' := [(6, .int (i32 (t6 + sd))), (5, .int (i32 (t5 + 1))), (10, .int (i32 (sd))), (9, .int (i32 (lt))), (8, .int (i32 (n))), (7, .int (i32 (1))), (4, .int (i32 (H0))), (3, .int (i32 (Wd))), (0, .ref (ad 1 0)), (1, .ref (ad 3 3)), (2, .int (i32 (x)))]) hx hb dL_isPiece_162 hl (by decide) rfl (fun ls hl => ?_)
          refine lv_iload hx hb dL_isPiece_164 (lv_at hl 2 rfl) ?_
          refine q_if_lt (tgt := 214) hx hb ⟨by omega, by omega⟩ dL_isPiece_166 (by decide) (fun c_25 => (by exfalso; omega)) (fun c_25 => ?_)
          refine lv_iload hx hb dL_isPiece_169 (lv_at hl 2 rfl) ?_
          refine lv_bipush (v := i32 (100)) hx hb dL_isPiece_171 (by decide) ?_
          refine q_icmp_gt (tgt := 214) hx hb ⟨by omega, by omega⟩ ⟨by decide, by decide⟩ dL_isPiece_173 (by decide) (fun c_26 => (by exfalso; omega)) (fun c_26 => ?_)
          refine lv_iload hx hb dL_isPiece_176 (lv_at hl 3 rfl) ?_
          refine q_if_ge (tgt := 189) hx hb ⟨by omega, by omega⟩ dL_isPiece_178 (by decide) (fun _ => ?_) (fun h => by first | exact absurd c_21 h | exact absurd h c_21 | omega)
          refine lv_aload_n hx hb dL_isPiece_189 rfl (lv_at hl 9 rfl) ?_
          refine lv_iload hx hb dL_isPiece_190 (lv_at hl 3 rfl) ?_
          have hlc2 := ok4 (by omega)
          refine p_iald (k := 3) (r := 3) (n := 20) hx hb hK hP hI.a.2.2 rfl rfl (by decide) (by decide) (by omega) (by omega) dL_isPiece_192 ?_
          refine lv_aload_n hx hb dL_isPiece_193 rfl (lv_at hl 8 rfl) ?_
          refine lv_iload_n hx hb dL_isPiece_194 rfl (lv_at hl 10 rfl) ?_
          refine lv_iload hx hb dL_isPiece_195 (lv_at hl 4 rfl) ?_
          refine lv_iload_n hx hb dL_isPiece_197 rfl (lv_at hl 7 rfl) ?_
          refine q_idiv hx hb (by omega) (by omega) (by omega) (by omega) dL_isPiece_198 ?_
          refine lv_iload hx hb dL_isPiece_199 (lv_at hl 4 rfl) ?_
          refine lv_iload_n hx hb dL_isPiece_201 rfl (lv_at hl 7 rfl) ?_
          refine q_irem hx hb (by omega) (by omega) (by omega) (by omega) dL_isPiece_202 ?_
          refine lv_iconst (v := i32 (0)) hx hb dL_isPiece_203 rfl ?_
          refine q_callH2 (As := [.ref (ad 1 0), .int (i32 (x)), .int (i32 (n / Wd)), .int (i32 (n % Wd)), .int (i32 (0))]) (rest := [.int (i32 (S 3 3 lt))]) hx hb hml hl.1 hown hK hZ hP hS (c_L_cell l g base ad S x (n / Wd) (n % Wd) 0 hfl hI.wc hrn ⟨by omega, by omega⟩ ⟨by omega, by omega⟩ ⟨by decide, by decide⟩) t_331 t_14 t_333 t_332 f_yL_cell ⟨Nat.le_of_ble_eq_true rfl, Nat.le_of_ble_eq_true rfl⟩ rfl rfl (Nat.le_of_ble_eq_true rfl) dL_isPiece_204 (c2 := cc96 + 6) (s2 := sc96 + 36) ⟨by first | rfl | (dsimp only; omega), by first | rfl | (dsimp only; omega)⟩ ⟨by show cc96 + 6 ≤ 1460; omega, by show sc96 + 36 ≤ 8760; omega⟩ (q_an (fun H locs hP hS => ?_))
          refine q_nm ((lv_0 ⟨hpx, by rw [hW, hH]; exact ⟨dm.1, dm.2.1, dm.2.2.1, dm.2.2.2⟩⟩ (by decide) trivial).trans ((ceF_0 rfl).trans hcr)) ?_
          refine q_icmp_ne (tgt := 214) hx hb (rS _ _ _) ⟨by omega, by omega⟩ dL_isPiece_207 (by decide) (fun c_27 => (by exfalso; exact c_27 (by rw [hcl lt (by omega) (by omega)]; exact ok4 (by omega)))) (fun c_27 => ?_)
          refine lv_iconst (v := i32 (1)) hx hb dL_isPiece_210 rfl ?_
          refine lv_goto (tgt := 215) hx hb dL_isPiece_211 (by decide) ?_
          refine lv_istore (lv' := [(7, .int (i32 (1))), (6, .int (i32 (t6 + sd))), (5, .int (i32 (t5 + 1))), (10, .int (i32 (sd))), (9, .int (i32 (lt))), (8, .int (i32 (n))), (4, .int (i32 (H0))), (3, .int (i32 (Wd))), (0, .ref (ad 1 0)), (1, .ref (ad 3 3)), (2, .int (i32 (x)))]) hx hb dL_isPiece_215 hl (by decide) rfl (fun ls hl => ?_)
          refine lv_iinc (v := i32 (n + 1)) (lv' := [(8, .int (i32 (n + 1))), (7, .int (i32 (1))), (6, .int (i32 (t6 + sd))), (5, .int (i32 (t5 + 1))), (10, .int (i32 (sd))), (9, .int (i32 (lt))), (4, .int (i32 (H0))), (3, .int (i32 (Wd))), (0, .ref (ad 1 0)), (1, .ref (ad 3 3)), (2, .int (i32 (x)))]) hx hb dL_isPiece_217 hl (k := 5) rfl (i32_add _ _) (by decide) rfl (fun ls hl => ?_)
          refine lv_goto (tgt := 96) hx hb dL_isPiece_220 (by decide) ?_
          exact ih96 (n + 1) (t5 + 1) (t6 + sd) (cc96 + 6) (sc96 + 36) _ _ _ (by omega) (by rw [sm_1 _ zn.1, ← z5, hlt]; rw [b2_t (by omega)]) (by rw [sm_1 _ zn.1, ← z6, hsd]) (by omega) (by omega) (by omega) hP hS (lv_sub hl [0, 1, 2, 3, 6, 7, 8, 9, 10] rfl)
  exact L96 ((Wd * H0 - 0) + 1).toNat 0 0 0 12 72 _ _ _ (by omega) (by rfl) (by rfl) (by omega) (by omega) (by omega) hP hS (lv_sub hl [0, 1, 2, 3, 4, 5, 6, 7, 8] rfl)
