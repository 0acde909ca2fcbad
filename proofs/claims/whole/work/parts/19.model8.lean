set_option maxHeartbeats 4000000 in
set_option maxRecDepth 100000 in
theorem c_X4_weaves (l : Launch) (g : GT) (base : Nat) (ad : Nat → Nat → Nat) (S : St) (x r f t : Int) (hw : wM S) (hxx : 0 ≤ x ∧ x < 20) (hrr : 0 ≤ r ∧ r < 10) (hft : 0 ≤ f ∧ f ≤ t ∧ t ≤ 24) (hun : ∀ j, f ≤ j → j < t → S 0 26 (240 * x + 10 * j + r) = -1 ∧ S 0 27 (240 * x + 10 * j + r) = 0) (hla : ∀ j, 0 ≤ j → j < 20 → 0 ≤ S 0 12 j ∧ S 0 12 j ≤ 999) : Met l yX4_weaves [Cond.code yX4_weaves cX4_weaves 9 (some FieldType.boolean)] ({ frames := 1, cells := 0, slots := 0, locals := 23 }) (va_Pc [.ref (ad 0 0), .int (i32 (x)), .int (i32 (r)), .int (i32 (f)), .int (i32 (t))] (PK g base ad S)) (gQ g base (wvP ad S x r f t)) 0 0 (fun q => base ≤ q) := by
  refine mk_m (own := RX4) (lv0 := [(0, .ref (ad 0 0)), (1, .int (i32 (x))), (2, .int (i32 (r))), (3, .int (i32 (f))), (4, .int (i32 (t)))]) (by decide) rfl (Nat.le_of_ble_eq_true rfl) rfl ?_
  intro p e s m below meth cz av Qm hx hb hr hml hown hlocks hK hZ hP hQm ls hl
  have hS : va_S (fun q => base ≤ q) s.heap s.heap [] := va_S.rf
  have rS : ∀ (a1 b1 : Nat) (i1 : Int), rng (S a1 b1 i1) := fun a1 b1 i1 => hP.rg a1 b1 i1
  obtain ⟨hx0, hx1⟩ := id hxx
  obtain ⟨hc1, hc2, hr1, hr2, hv1, hv2, hd1, hd2⟩ := hw.pc x hx0 hx1
  refine lv_iload_n hx hb dX4_weaves_0 rfl (lv_at hl 3 rfl) ?_
  refine lv_istore (lv' := [(5, .int (i32 (f))), (0, .ref (ad 0 0)), (1, .int (i32 (x))), (2, .int (i32 (r))), (3, .int (i32 (f))), (4, .int (i32 (t)))]) hx hb dX4_weaves_1 hl (by decide) rfl (fun ls hl => ?_)
  refine lv_iconst (v := i32 (1)) hx hb dX4_weaves_3 rfl ?_
  refine lv_istore (lv' := [(6, .int (i32 (1))), (5, .int (i32 (f))), (0, .ref (ad 0 0)), (1, .int (i32 (x))), (2, .int (i32 (r))), (3, .int (i32 (f))), (4, .int (i32 (t)))]) hx hb dX4_weaves_4 hl (by decide) rfl (fun ls hl => ?_)
  have L6 : ∀ (k : Nat) (q hs : Int) (Sa : St) (G : Int → Int) (H : Heap) (locs : List Loc) (ls : Array Slot), (f ≤ q ∧ q ≤ t) → (wvG S x r G f q) → (∀ (a1 b1 : Nat) (i1 : Int), Sa a1 b1 i1 = wvF S x r G f q a1 b1 i1) → (hs = 1 ∨ (hs = 0 ∧ q < t ∧ gvM Sa (S 0 25 (240 * x + 10 * q + r)) = -1)) → t - q + hs < (k : Int) → pic g base ad Sa H → va_S (fun q => base ≤ q) s.heap H locs → lv_has ls 9 [(6, .int (i32 (hs))), (5, .int (i32 (q))), (0, .ref (ad 0 0)), (1, .int (i32 (x))), (2, .int (i32 (r))), (3, .int (i32 (f))), (4, .int (i32 (t)))] → W p l e ({ frames := 1, cells := 0, slots := 0, locals := 23 } : Room) s m av below meth cz H locs 0 0 Qm (F0 m 6 ls []) := by
    intro k
    induction k with
    | zero => intro q hs Sa G H locs ls zc zG zS zh hmu _ _ _; exact absurd hmu (by rcases zh with h | h <;> omega)
    | succ k ih6 =>
      intro q hs Sa G H locs ls zc zG zS zh hmu hP hS hl
      have aSa_0 : Sa 0 0 (-1) = 1 := by rw [zS, wvF_o _ _ _ _ _ _ (by decide)]; exact hw.al
      have wSa : wM Sa := wM.keep hw (fun r j h => by unfold wrow at h; rw [zS, wvF_o _ _ _ _ _ _ (by omega)])
      have rSa : ∀ (a1 b1 : Nat) (i1 : Int), rng (Sa a1 b1 i1) := fun a1 b1 i1 => hP.rg a1 b1 i1
      refine lv_iload hx hb dX4_weaves_6 (lv_at hl 1 rfl) ?_
      refine lv_iload hx hb dX4_weaves_8 (lv_at hl 6 rfl) ?_
      refine q_icmp_ge (tgt := 93) hx hb ⟨by omega, by omega⟩ ⟨by omega, by omega⟩ dX4_weaves_10 (by decide) (fun c_1 => ?_) (fun c_1 => ?_)
      · -- t ≤ q
        refine lv_iload_n hx hb dX4_weaves_93 rfl (lv_at hl 5 rfl) ?_
        refine lv_istore (lv' := [(7, .int (i32 (f))), (6, .int (i32 (hs))), (5, .int (i32 (q))), (0, .ref (ad 0 0)), (1, .int (i32 (x))), (2, .int (i32 (r))), (3, .int (i32 (f))), (4, .int (i32 (t)))]) hx hb dX4_weaves_94 hl (by decide) rfl (fun ls hl => ?_)
        have L96 : ∀ (k : Nat) (n : Int) (Sb : St) (H : Heap) (locs : List Loc) (ls : Array Slot), (f ≤ n ∧ n ≤ q) → (∀ (a1 b1 : Nat) (i1 : Int), Sb a1 b1 i1 = wvF S x r G n q a1 b1 i1) → (hs ≠ 0 → n = f) → q - n < (k : Int) → pic g base ad Sb H → va_S (fun q => base ≤ q) s.heap H locs → lv_has ls 9 [(7, .int (i32 (n))), (6, .int (i32 (hs))), (5, .int (i32 (q))), (0, .ref (ad 0 0)), (1, .int (i32 (x))), (2, .int (i32 (r))), (3, .int (i32 (f))), (4, .int (i32 (t)))] → W p l e ({ frames := 1, cells := 0, slots := 0, locals := 23 } : Room) s m av below meth cz H locs 0 0 Qm (F0 m 96 ls []) := by
          intro k
          induction k with
          | zero => intro n Sb H locs ls zn zT zk hmu _ _ _; exact absurd hmu (by omega)
          | succ k ih96 =>
            intro n Sb H locs ls zn zT zk hmu hP hS hl
            have aSb_0 : Sb 0 0 (-1) = 1 := by rw [zT, wvF_o _ _ _ _ _ _ (by decide)]; exact hw.al
            have wSb : wM Sb := wM.keep hw (fun r j h => by unfold wrow at h; rw [zT, wvF_o _ _ _ _ _ _ (by omega)])
            have rSb : ∀ (a1 b1 : Nat) (i1 : Int), rng (Sb a1 b1 i1) := fun a1 b1 i1 => hP.rg a1 b1 i1
            refine lv_iload hx hb dX4_weaves_96 (lv_at hl 0 rfl) ?_
            refine lv_iload hx hb dX4_weaves_98 (lv_at hl 2 rfl) ?_
            refine q_icmp_ge (tgt := 155) hx hb ⟨by omega, by omega⟩ ⟨by omega, by omega⟩ dX4_weaves_100 (by decide) (fun c_2 => ?_) (fun c_2 => ?_)
            · -- q ≤ n
              refine lv_iload hx hb dX4_weaves_155 (lv_at hl 1 rfl) ?_
              subst hQm
              exact q_zret hx hb hr hlocks hP hS (hs_z zh) (by exact wv_ret zc zG zS zh zn zT zk (by first | exact Or.inl (by assumption) | exact Or.inr (by assumption)) (by first | exact Or.inl (by assumption) | exact Or.inr (by assumption))) (by decide) (by decide) dX4_weaves_157
            · -- n < q
              refine lv_iload hx hb dX4_weaves_103 (lv_at hl 1 rfl) ?_
              refine q_if_ne (tgt := 155) hx hb (hs_r zh) dX4_weaves_105 (by decide) (fun c_3 => ?_) (fun c_3 => ?_)
              · -- hs ≠ 0
                refine lv_iload hx hb dX4_weaves_155 (lv_at hl 1 rfl) ?_
                subst hQm
                exact q_zret hx hb hr hlocks hP hS (hs_z zh) (by exact wv_ret zc zG zS zh zn zT zk (by first | exact Or.inl (by assumption) | exact Or.inr (by assumption)) (by first | exact Or.inl (by assumption) | exact Or.inr (by assumption))) (by decide) (by decide) dX4_weaves_157
              · -- hs = 0
                have y26 := wv_26 zT hrr (Int.le_refl n) (by omega)
                obtain ⟨hg1, hg2⟩ := wvG_b hw.lt zG (j := n) zn.1 (by omega)
                have y12 := wv_12 (j := G n) zT
                rw [cn_l G (G n) (by omega), b2_t rfl] at y12
                obtain ⟨hb1, hb2⟩ := cn_b G (G n) (n := n + 1) (c := q) (by omega)
                obtain ⟨hl1, hl2⟩ := hla (G n) hg1 hg2
                rw [← y26] at y12 hb1 hb2 hl1 hl2
                refine lv_iload_n hx hb dX4_weaves_108 rfl (lv_at hl 4 rfl) ?_
                refine lv_iload hx hb dX4_weaves_109 (lv_at hl 0 rfl) ?_
                refine lv_iload_n hx hb dX4_weaves_111 rfl (lv_at hl 5 rfl) ?_
                refine q_callS hx hb hml hl.1 hown hK hZ hP hS (c_X4_at l g base ad Sb x n r ) t_841 (q_callB hK 840 36 842 t_840 t_36 t_842 f_yX4_at ⟨by decide, by decide⟩) rfl rfl (Nat.le_of_ble_eq_true rfl) dX4_weaves_112 ⟨by decide, by decide⟩  (q_an (fun H locs hP hS => ?_))
                refine lv_istore (lv' := [(8, .int (i32 (240 * x + 10 * n + r))), (7, .int (i32 (n))), (6, .int (i32 (hs))), (5, .int (i32 (q))), (0, .ref (ad 0 0)), (1, .int (i32 (x))), (2, .int (i32 (r))), (3, .int (i32 (f))), (4, .int (i32 (t)))]) hx hb dX4_weaves_115 hl (by decide) rfl (fun ls hl => ?_)
                refine lv_aload_n hx hb dX4_weaves_117 rfl (lv_at hl 4 rfl) ?_
                refine p_get (k := 0) hx hb hown hK hP aSb_0 rfl rfl rfl (lay_X4 hK) 11 709 (by decide) t_709 rfl rfl dX4_weaves_118 ?_
                refine lv_aload_n hx hb dX4_weaves_121 rfl (lv_at hl 4 rfl) ?_
                refine p_get (k := 0) hx hb hown hK hP aSb_0 rfl rfl rfl (lay_X4 hK) 25 723 (by decide) t_723 rfl rfl dX4_weaves_122 ?_
                refine lv_iload hx hb dX4_weaves_125 (lv_at hl 0 rfl) ?_
                refine p_iald (k := 0) (r := 26) (n := 4800) hx hb hK hP aSb_0 rfl rfl (by decide) (by decide) (by omega) (by omega) dX4_weaves_127 ?_
                refine lv_dup2_11 hx hb dX4_weaves_128 rfl rfl ?_
                refine p_iald (k := 0) (r := 12) (n := 20) hx hb hK hP aSb_0 rfl rfl (by decide) (by decide) (by omega) (by omega) dX4_weaves_129 ?_
                refine lv_iconst (v := i32 (1)) hx hb dX4_weaves_130 rfl ?_
                refine q_iadd hx hb dX4_weaves_131 ?_
                refine p_iast (k := 0) (r := 12) (n := 20) hx hb hK hP hS aSb_0 rfl rfl (by decide) (by decide) (by omega) (by omega) ⟨by omega, by omega⟩ dX4_weaves_132 (fun H locs hP hS => ?_)
                generalize eS4 : st Sb 0 12 (Sb 0 26 (240 * x + 10 * n + r)) ((Sb 0 12 (Sb 0 26 (240 * x + 10 * n + r))) + 1) = S4 at hP
                have qS4 : ∀ (a1 b1 : Nat) (i1 : Int), S4 a1 b1 i1 = if a1 = 0 ∧ b1 = 12 ∧ i1 = Sb 0 26 (240 * x + 10 * n + r) then (Sb 0 12 (Sb 0 26 (240 * x + 10 * n + r))) + 1 else Sb a1 b1 i1 := fun a1 b1 i1 => by rw [← eS4]; exact st_at _ _ _ _ _ _ _ _
                have rS4 : ∀ (a1 b1 : Nat) (i1 : Int), rng (S4 a1 b1 i1) := fun a1 b1 i1 => hP.rg a1 b1 i1
                have aS4_0 : S4 0 0 (-1) = 1 := by rw [qS4, if_neg (by omega)]; exact aSb_0
                have wS4 : wM S4 := wM.keep wSb (fun r j h => by unfold wrow at h; rw [qS4, if_neg (by omega)])
                refine lv_aload_n hx hb dX4_weaves_133 rfl (lv_at hl 4 rfl) ?_
                refine p_get (k := 0) hx hb hown hK hP aS4_0 rfl rfl rfl (lay_X4 hK) 25 723 (by decide) t_723 rfl rfl dX4_weaves_134 ?_
                refine lv_iload hx hb dX4_weaves_137 (lv_at hl 0 rfl) ?_
                refine lv_iconst (v := i32 (-1)) hx hb dX4_weaves_139 rfl ?_
                refine p_iast (k := 0) (r := 26) (n := 4800) hx hb hK hP hS aS4_0 rfl rfl (by decide) (by decide) (by omega) (by omega) ⟨by decide, by decide⟩ dX4_weaves_140 (fun H locs hP hS => ?_)
                generalize eS5 : st S4 0 26 (240 * x + 10 * n + r) (-1) = S5 at hP
                have qS5 : ∀ (a1 b1 : Nat) (i1 : Int), S5 a1 b1 i1 = if a1 = 0 ∧ b1 = 26 ∧ i1 = 240 * x + 10 * n + r then -1 else S4 a1 b1 i1 := fun a1 b1 i1 => by rw [← eS5]; exact st_at _ _ _ _ _ _ _ _
                have rS5 : ∀ (a1 b1 : Nat) (i1 : Int), rng (S5 a1 b1 i1) := fun a1 b1 i1 => hP.rg a1 b1 i1
                have aS5_0 : S5 0 0 (-1) = 1 := by rw [qS5, if_neg (by omega)]; exact aS4_0
                have wS5 : wM S5 := wM.keep wS4 (fun r j h => by unfold wrow at h; rw [qS5, if_neg (by omega)])
                refine lv_aload_n hx hb dX4_weaves_141 rfl (lv_at hl 4 rfl) ?_
                refine p_get (k := 0) hx hb hown hK hP aS5_0 rfl rfl rfl (lay_X4 hK) 26 724 (by decide) t_724 rfl rfl dX4_weaves_142 ?_
                refine lv_iload hx hb dX4_weaves_145 (lv_at hl 0 rfl) ?_
                refine lv_iconst (v := i32 (0)) hx hb dX4_weaves_147 rfl ?_
                refine p_iast (k := 0) (r := 27) (n := 4800) hx hb hK hP hS aS5_0 rfl rfl (by decide) (by decide) (by omega) (by omega) ⟨by decide, by decide⟩ dX4_weaves_148 (fun H locs hP hS => ?_)
                generalize eS6 : st S5 0 27 (240 * x + 10 * n + r) 0 = S6 at hP
                have qS6 : ∀ (a1 b1 : Nat) (i1 : Int), S6 a1 b1 i1 = if a1 = 0 ∧ b1 = 27 ∧ i1 = 240 * x + 10 * n + r then 0 else S5 a1 b1 i1 := fun a1 b1 i1 => by rw [← eS6]; exact st_at _ _ _ _ _ _ _ _
                have rS6 : ∀ (a1 b1 : Nat) (i1 : Int), rng (S6 a1 b1 i1) := fun a1 b1 i1 => hP.rg a1 b1 i1
                have aS6_0 : S6 0 0 (-1) = 1 := by rw [qS6, if_neg (by omega)]; exact aS5_0
                have wS6 : wM S6 := wM.keep wS5 (fun r j h => by unfold wrow at h; rw [qS6, if_neg (by omega)])
                refine lv_iinc (v := i32 (n + 1)) (lv' := [(7, .int (i32 (n + 1))), (8, .int (i32 (240 * x + 10 * n + r))), (6, .int (i32 (hs))), (5, .int (i32 (q))), (0, .ref (ad 0 0)), (1, .int (i32 (x))), (2, .int (i32 (r))), (3, .int (i32 (f))), (4, .int (i32 (t)))]) hx hb dX4_weaves_149 hl (k := 1) rfl (i32_add _ _) (by decide) rfl (fun ls hl => ?_)
                refine lv_goto (tgt := 96) hx hb dX4_weaves_152 (by decide) ?_
                exact ih96 (n + 1) S6 _ _ _ (by omega) (by exact wv_u zT hrr (by omega) (hun n (by omega) (by omega)) qS4 qS5 qS6 (wv_26 zT hrr (Int.le_refl _) (by omega)).symm) (by exact fun h => absurd c_3 h) (by omega) hP hS (lv_sub hl [0, 2, 3, 4, 5, 6, 7, 8] rfl)
        exact L96 ((q - f) + 1).toNat f Sa _ _ _ (by omega) (by exact zS) (by exact fun _ => rfl) (by omega) hP hS (lv_sub hl [0, 1, 2, 3, 4, 5, 6, 7] rfl)
      · -- q < t
        refine lv_iload hx hb dX4_weaves_13 (lv_at hl 0 rfl) ?_
        refine q_if_eq (tgt := 93) hx hb (hs_r zh) dX4_weaves_15 (by decide) (fun c_7 => ?_) (fun c_7 => ?_)
        · -- hs = 0
          refine lv_iload_n hx hb dX4_weaves_93 rfl (lv_at hl 5 rfl) ?_
          refine lv_istore (lv' := [(7, .int (i32 (f))), (6, .int (i32 (hs))), (5, .int (i32 (q))), (0, .ref (ad 0 0)), (1, .int (i32 (x))), (2, .int (i32 (r))), (3, .int (i32 (f))), (4, .int (i32 (t)))]) hx hb dX4_weaves_94 hl (by decide) rfl (fun ls hl => ?_)
          have L96 : ∀ (k : Nat) (n : Int) (Sb : St) (H : Heap) (locs : List Loc) (ls : Array Slot), (f ≤ n ∧ n ≤ q) → (∀ (a1 b1 : Nat) (i1 : Int), Sb a1 b1 i1 = wvF S x r G n q a1 b1 i1) → (hs ≠ 0 → n = f) → q - n < (k : Int) → pic g base ad Sb H → va_S (fun q => base ≤ q) s.heap H locs → lv_has ls 9 [(7, .int (i32 (n))), (6, .int (i32 (hs))), (5, .int (i32 (q))), (0, .ref (ad 0 0)), (1, .int (i32 (x))), (2, .int (i32 (r))), (3, .int (i32 (f))), (4, .int (i32 (t)))] → W p l e ({ frames := 1, cells := 0, slots := 0, locals := 23 } : Room) s m av below meth cz H locs 0 0 Qm (F0 m 96 ls []) := by
            intro k
            induction k with
            | zero => intro n Sb H locs ls zn zT zk hmu _ _ _; exact absurd hmu (by omega)
            | succ k ih96 =>
              intro n Sb H locs ls zn zT zk hmu hP hS hl
              have aSb_0 : Sb 0 0 (-1) = 1 := by rw [zT, wvF_o _ _ _ _ _ _ (by decide)]; exact hw.al
              have wSb : wM Sb := wM.keep hw (fun r j h => by unfold wrow at h; rw [zT, wvF_o _ _ _ _ _ _ (by omega)])
              have rSb : ∀ (a1 b1 : Nat) (i1 : Int), rng (Sb a1 b1 i1) := fun a1 b1 i1 => hP.rg a1 b1 i1
              refine lv_iload hx hb dX4_weaves_96 (lv_at hl 0 rfl) ?_
              refine lv_iload hx hb dX4_weaves_98 (lv_at hl 2 rfl) ?_
              refine q_icmp_ge (tgt := 155) hx hb ⟨by omega, by omega⟩ ⟨by omega, by omega⟩ dX4_weaves_100 (by decide) (fun c_8 => ?_) (fun c_8 => ?_)
              · -- q ≤ n
                refine lv_iload hx hb dX4_weaves_155 (lv_at hl 1 rfl) ?_
                subst hQm
                exact q_zret hx hb hr hlocks hP hS (hs_z zh) (by exact wv_ret zc zG zS zh zn zT zk (by first | exact Or.inl (by assumption) | exact Or.inr (by assumption)) (by first | exact Or.inl (by assumption) | exact Or.inr (by assumption))) (by decide) (by decide) dX4_weaves_157
              · -- n < q
                refine lv_iload hx hb dX4_weaves_103 (lv_at hl 1 rfl) ?_
                refine q_if_ne (tgt := 155) hx hb (hs_r zh) dX4_weaves_105 (by decide) (fun h => by first | exact absurd c_7 h | exact absurd h c_7 | omega) (fun _ => ?_)
                have y26 := wv_26 zT hrr (Int.le_refl n) (by omega)
                obtain ⟨hg1, hg2⟩ := wvG_b hw.lt zG (j := n) zn.1 (by omega)
                have y12 := wv_12 (j := G n) zT
                rw [cn_l G (G n) (by omega), b2_t rfl] at y12
                obtain ⟨hb1, hb2⟩ := cn_b G (G n) (n := n + 1) (c := q) (by omega)
                obtain ⟨hl1, hl2⟩ := hla (G n) hg1 hg2
                rw [← y26] at y12 hb1 hb2 hl1 hl2
                refine lv_iload_n hx hb dX4_weaves_108 rfl (lv_at hl 4 rfl) ?_
                refine lv_iload hx hb dX4_weaves_109 (lv_at hl 0 rfl) ?_
                refine lv_iload_n hx hb dX4_weaves_111 rfl (lv_at hl 5 rfl) ?_
                refine q_callS hx hb hml hl.1 hown hK hZ hP hS (c_X4_at l g base ad Sb x n r ) t_841 (q_callB hK 840 36 842 t_840 t_36 t_842 f_yX4_at ⟨by decide, by decide⟩) rfl rfl (Nat.le_of_ble_eq_true rfl) dX4_weaves_112 ⟨by decide, by decide⟩  (q_an (fun H locs hP hS => ?_))
                refine lv_istore (lv' := [(8, .int (i32 (240 * x + 10 * n + r))), (7, .int (i32 (n))), (6, .int (i32 (hs))), (5, .int (i32 (q))), (0, .ref (ad 0 0)), (1, .int (i32 (x))), (2, .int (i32 (r))), (3, .int (i32 (f))), (4, .int (i32 (t)))]) hx hb dX4_weaves_115 hl (by decide) rfl (fun ls hl => ?_)
                refine lv_aload_n hx hb dX4_weaves_117 rfl (lv_at hl 4 rfl) ?_
                refine p_get (k := 0) hx hb hown hK hP aSb_0 rfl rfl rfl (lay_X4 hK) 11 709 (by decide) t_709 rfl rfl dX4_weaves_118 ?_
                refine lv_aload_n hx hb dX4_weaves_121 rfl (lv_at hl 4 rfl) ?_
                refine p_get (k := 0) hx hb hown hK hP aSb_0 rfl rfl rfl (lay_X4 hK) 25 723 (by decide) t_723 rfl rfl dX4_weaves_122 ?_
                refine lv_iload hx hb dX4_weaves_125 (lv_at hl 0 rfl) ?_
                refine p_iald (k := 0) (r := 26) (n := 4800) hx hb hK hP aSb_0 rfl rfl (by decide) (by decide) (by omega) (by omega) dX4_weaves_127 ?_
                refine lv_dup2_11 hx hb dX4_weaves_128 rfl rfl ?_
                refine p_iald (k := 0) (r := 12) (n := 20) hx hb hK hP aSb_0 rfl rfl (by decide) (by decide) (by omega) (by omega) dX4_weaves_129 ?_
                refine lv_iconst (v := i32 (1)) hx hb dX4_weaves_130 rfl ?_
                refine q_iadd hx hb dX4_weaves_131 ?_
                refine p_iast (k := 0) (r := 12) (n := 20) hx hb hK hP hS aSb_0 rfl rfl (by decide) (by decide) (by omega) (by omega) ⟨by omega, by omega⟩ dX4_weaves_132 (fun H locs hP hS => ?_)
                generalize eS9 : st Sb 0 12 (Sb 0 26 (240 * x + 10 * n + r)) ((Sb 0 12 (Sb 0 26 (240 * x + 10 * n + r))) + 1) = S9 at hP
                have qS9 : ∀ (a1 b1 : Nat) (i1 : Int), S9 a1 b1 i1 = if a1 = 0 ∧ b1 = 12 ∧ i1 = Sb 0 26 (240 * x + 10 * n + r) then (Sb 0 12 (Sb 0 26 (240 * x + 10 * n + r))) + 1 else Sb a1 b1 i1 := fun a1 b1 i1 => by rw [← eS9]; exact st_at _ _ _ _ _ _ _ _
                have rS9 : ∀ (a1 b1 : Nat) (i1 : Int), rng (S9 a1 b1 i1) := fun a1 b1 i1 => hP.rg a1 b1 i1
                have aS9_0 : S9 0 0 (-1) = 1 := by rw [qS9, if_neg (by omega)]; exact aSb_0
                have wS9 : wM S9 := wM.keep wSb (fun r j h => by unfold wrow at h; rw [qS9, if_neg (by omega)])
                refine lv_aload_n hx hb dX4_weaves_133 rfl (lv_at hl 4 rfl) ?_
                refine p_get (k := 0) hx hb hown hK hP aS9_0 rfl rfl rfl (lay_X4 hK) 25 723 (by decide) t_723 rfl rfl dX4_weaves_134 ?_
                refine lv_iload hx hb dX4_weaves_137 (lv_at hl 0 rfl) ?_
                refine lv_iconst (v := i32 (-1)) hx hb dX4_weaves_139 rfl ?_
                refine p_iast (k := 0) (r := 26) (n := 4800) hx hb hK hP hS aS9_0 rfl rfl (by decide) (by decide) (by omega) (by omega) ⟨by decide, by decide⟩ dX4_weaves_140 (fun H locs hP hS => ?_)
                generalize eS10 : st S9 0 26 (240 * x + 10 * n + r) (-1) = S10 at hP
                have qS10 : ∀ (a1 b1 : Nat) (i1 : Int), S10 a1 b1 i1 = if a1 = 0 ∧ b1 = 26 ∧ i1 = 240 * x + 10 * n + r then -1 else S9 a1 b1 i1 := fun a1 b1 i1 => by rw [← eS10]; exact st_at _ _ _ _ _ _ _ _
                have rS10 : ∀ (a1 b1 : Nat) (i1 : Int), rng (S10 a1 b1 i1) := fun a1 b1 i1 => hP.rg a1 b1 i1
                have aS10_0 : S10 0 0 (-1) = 1 := by rw [qS10, if_neg (by omega)]; exact aS9_0
                have wS10 : wM S10 := wM.keep wS9 (fun r j h => by unfold wrow at h; rw [qS10, if_neg (by omega)])
                refine lv_aload_n hx hb dX4_weaves_141 rfl (lv_at hl 4 rfl) ?_
                refine p_get (k := 0) hx hb hown hK hP aS10_0 rfl rfl rfl (lay_X4 hK) 26 724 (by decide) t_724 rfl rfl dX4_weaves_142 ?_
                refine lv_iload hx hb dX4_weaves_145 (lv_at hl 0 rfl) ?_
                refine lv_iconst (v := i32 (0)) hx hb dX4_weaves_147 rfl ?_
                refine p_iast (k := 0) (r := 27) (n := 4800) hx hb hK hP hS aS10_0 rfl rfl (by decide) (by decide) (by omega) (by omega) ⟨by decide, by decide⟩ dX4_weaves_148 (fun H locs hP hS => ?_)
                generalize eS11 : st S10 0 27 (240 * x + 10 * n + r) 0 = S11 at hP
                have qS11 : ∀ (a1 b1 : Nat) (i1 : Int), S11 a1 b1 i1 = if a1 = 0 ∧ b1 = 27 ∧ i1 = 240 * x + 10 * n + r then 0 else S10 a1 b1 i1 := fun a1 b1 i1 => by rw [← eS11]; exact st_at _ _ _ _ _ _ _ _
                have rS11 : ∀ (a1 b1 : Nat) (i1 : Int), rng (S11 a1 b1 i1) := fun a1 b1 i1 => hP.rg a1 b1 i1
                have aS11_0 : S11 0 0 (-1) = 1 := by rw [qS11, if_neg (by omega)]; exact aS10_0
                have wS11 : wM S11 := wM.keep wS10 (fun r j h => by unfold wrow at h; rw [qS11, if_neg (by omega)])
                refine lv_iinc (v := i32 (n + 1)) (lv' := [(7, .int (i32 (n + 1))), (8, .int (i32 (240 * x + 10 * n + r))), (6, .int (i32 (hs))), (5, .int (i32 (q))), (0, .ref (ad 0 0)), (1, .int (i32 (x))), (2, .int (i32 (r))), (3, .int (i32 (f))), (4, .int (i32 (t)))]) hx hb dX4_weaves_149 hl (k := 1) rfl (i32_add _ _) (by decide) rfl (fun ls hl => ?_)
                refine lv_goto (tgt := 96) hx hb dX4_weaves_152 (by decide) ?_
                exact ih96 (n + 1) S11 _ _ _ (by omega) (by exact wv_u zT hrr (by omega) (hun n (by omega) (by omega)) qS9 qS10 qS11 (wv_26 zT hrr (Int.le_refl _) (by omega)).symm) (by exact fun h => absurd c_7 h) (by omega) hP hS (lv_sub hl [0, 2, 3, 4, 5, 6, 7, 8] rfl)
          exact L96 ((q - f) + 1).toNat f Sa _ _ _ (by omega) (by exact zS) (by exact fun _ => rfl) (by omega) hP hS (lv_sub hl [0, 1, 2, 3, 4, 5, 6, 7] rfl)
        · -- hs ≠ 0
          refine lv_iload_n hx hb dX4_weaves_18 rfl (lv_at hl 3 rfl) ?_
          refine lv_iload hx hb dX4_weaves_19 (lv_at hl 1 rfl) ?_
          refine lv_iload_n hx hb dX4_weaves_21 rfl (lv_at hl 4 rfl) ?_
          refine q_callS hx hb hml hl.1 hown hK hZ hP hS (c_X4_at l g base ad Sa x q r ) t_841 (q_callB hK 840 36 842 t_840 t_36 t_842 f_yX4_at ⟨by decide, by decide⟩) rfl rfl (Nat.le_of_ble_eq_true rfl) dX4_weaves_22 ⟨by decide, by decide⟩  (q_an (fun H locs hP hS => ?_))
          refine lv_istore (lv' := [(7, .int (i32 (240 * x + 10 * q + r))), (6, .int (i32 (hs))), (5, .int (i32 (q))), (0, .ref (ad 0 0)), (1, .int (i32 (x))), (2, .int (i32 (r))), (3, .int (i32 (f))), (4, .int (i32 (t)))]) hx hb dX4_weaves_25 hl (by decide) rfl (fun ls hl => ?_)
          refine lv_aload_n hx hb dX4_weaves_27 rfl (lv_at hl 3 rfl) ?_
          refine lv_aload_n hx hb dX4_weaves_28 rfl (lv_at hl 3 rfl) ?_
          refine p_get (k := 0) hx hb hown hK hP aSa_0 rfl rfl rfl (lay_X4 hK) 24 722 (by decide) t_722 rfl rfl dX4_weaves_29 ?_
          refine lv_iload hx hb dX4_weaves_32 (lv_at hl 0 rfl) ?_
          refine p_iald (k := 0) (r := 25) (n := 4800) hx hb hK hP aSa_0 rfl rfl (by decide) (by decide) (by omega) (by omega) dX4_weaves_34 ?_
          refine q_nm (show Sa 0 25 (240 * x + 10 * q + r) = S 0 25 (240 * x + 10 * q + r) from by rw [zS, wvF_o _ _ _ _ _ _ (by decide)]) ?_
          refine q_callV (k := 0) hx hb hml hl.1 hown hK hZ hP hS aSa_0 rfl rfl rfl (c_X4_giver l g base ad Sa (S 0 25 (240 * x + 10 * q + r)) wSa (rS _ _ _)) t_873 t_22 (q_callB hK 871 36 874 t_871 t_36 t_874 f_yX4_giver ⟨by decide, by decide⟩) rfl rfl (Nat.le_of_ble_eq_true rfl) dX4_weaves_35 ⟨by decide, by decide⟩  (q_an (fun H locs hP hS => ?_))
          obtain ⟨hv8, hv9, hv10⟩ := gvM_b wSa.lt (S 0 25 (240 * x + 10 * q + r))
          refine lv_istore (lv' := [(8, .int (i32 (gvM Sa (S 0 25 (240 * x + 10 * q + r))))), (7, .int (i32 (240 * x + 10 * q + r))), (6, .int (i32 (hs))), (5, .int (i32 (q))), (0, .ref (ad 0 0)), (1, .int (i32 (x))), (2, .int (i32 (r))), (3, .int (i32 (f))), (4, .int (i32 (t)))]) hx hb dX4_weaves_38 hl (by decide) rfl (fun ls hl => ?_)
          refine lv_iload hx hb dX4_weaves_40 (lv_at hl 0 rfl) ?_
          refine lv_iconst (v := i32 (-1)) hx hb dX4_weaves_42 rfl ?_
          have J51 : ∀ (H : Heap) (locs : List Loc), pic g base ad Sa H → va_S (fun q => base ≤ q) s.heap H locs → W p l e ({ frames := 1, cells := 0, slots := 0, locals := 23 } : Room) s m av below meth cz H locs 0 0 Qm (F0 m 51 ls (Value.int (i32 (b2 (((gvM Sa (S 0 25 (240 * x + 10 * q + r))) ≠ (-1))))) :: [])) := by
            intro H locs hP hS
            refine lv_istore (lv' := [(6, .int (i32 (b2 (((gvM Sa (S 0 25 (240 * x + 10 * q + r))) ≠ (-1)))))), (8, .int (i32 (gvM Sa (S 0 25 (240 * x + 10 * q + r))))), (7, .int (i32 (240 * x + 10 * q + r))), (5, .int (i32 (q))), (0, .ref (ad 0 0)), (1, .int (i32 (x))), (2, .int (i32 (r))), (3, .int (i32 (f))), (4, .int (i32 (t)))]) hx hb dX4_weaves_51 hl (by decide) rfl (fun ls hl => ?_)
            refine lv_iload hx hb dX4_weaves_53 (lv_at hl 0 rfl) ?_
            refine q_if_eqb (tgt := 90) hx hb dX4_weaves_55 (by decide) (fun c_12 => ?_) (fun c_12 => ?_)
            · -- ¬ (((gvM Sa (S 0 25 (240 * x + 10 * q + r))) ≠ (-1)))
              refine lv_goto (tgt := 6) hx hb dX4_weaves_90 (by decide) ?_
              exact ih6 q (b2 (((gvM Sa (S 0 25 (240 * x + 10 * q + r))) ≠ (-1)))) Sa G _ _ _ (by omega) (by exact zG) (by exact zS) (by exact Or.inr ⟨b2_f c_12, by omega, Classical.not_not.mp c_12⟩) (by rw [b2_f c_12]; rcases zh with h | h <;> omega) hP hS (lv_sub hl [0, 3, 4, 5, 6, 7, 8] rfl)
            · -- ((gvM Sa (S 0 25 (240 * x + 10 * q + r))) ≠ (-1))
              obtain ⟨hv11, hv12, hv13⟩ := hv10 c_12
              refine lv_aload_n hx hb dX4_weaves_58 rfl (lv_at hl 4 rfl) ?_
              refine p_get (k := 0) hx hb hown hK hP aSa_0 rfl rfl rfl (lay_X4 hK) 11 709 (by decide) t_709 rfl rfl dX4_weaves_59 ?_
              refine lv_iload hx hb dX4_weaves_62 (lv_at hl 1 rfl) ?_
              refine lv_dup2_11 hx hb dX4_weaves_64 rfl rfl ?_
              refine p_iald (k := 0) (r := 12) (n := 20) hx hb hK hP aSa_0 rfl rfl (by decide) (by decide) (by omega) (by omega) dX4_weaves_65 ?_
              refine lv_iconst (v := i32 (1)) hx hb dX4_weaves_66 rfl ?_
              refine q_isub hx hb dX4_weaves_67 ?_
              refine p_iast (k := 0) (r := 12) (n := 20) hx hb hK hP hS aSa_0 rfl rfl (by decide) (by decide) (by omega) (by omega) (rng_m1 hv13 (rSa _ _ _)) dX4_weaves_68 (fun H locs hP hS => ?_)
              generalize eS13 : st Sa 0 12 (gvM Sa (S 0 25 (240 * x + 10 * q + r))) ((Sa 0 12 (gvM Sa (S 0 25 (240 * x + 10 * q + r)))) - 1) = S13 at hP
              have qS13 : ∀ (a1 b1 : Nat) (i1 : Int), S13 a1 b1 i1 = if a1 = 0 ∧ b1 = 12 ∧ i1 = gvM Sa (S 0 25 (240 * x + 10 * q + r)) then (Sa 0 12 (gvM Sa (S 0 25 (240 * x + 10 * q + r)))) - 1 else Sa a1 b1 i1 := fun a1 b1 i1 => by rw [← eS13]; exact st_at _ _ _ _ _ _ _ _
              have rS13 : ∀ (a1 b1 : Nat) (i1 : Int), rng (S13 a1 b1 i1) := fun a1 b1 i1 => hP.rg a1 b1 i1
              have aS13_0 : S13 0 0 (-1) = 1 := by rw [qS13, if_neg (by omega)]; exact aSa_0
              have wS13 : wM S13 := wM.keep wSa (fun r j h => by unfold wrow at h; rw [qS13, if_neg (by omega)])
              refine lv_aload_n hx hb dX4_weaves_69 rfl (lv_at hl 4 rfl) ?_
              refine p_get (k := 0) hx hb hown hK hP aS13_0 rfl rfl rfl (lay_X4 hK) 25 723 (by decide) t_723 rfl rfl dX4_weaves_70 ?_
              refine lv_iload hx hb dX4_weaves_73 (lv_at hl 2 rfl) ?_
              refine lv_iload hx hb dX4_weaves_75 (lv_at hl 1 rfl) ?_
              refine p_iast (k := 0) (r := 26) (n := 4800) hx hb hK hP hS aS13_0 rfl rfl (by decide) (by decide) (by omega) (by omega) ⟨by omega, by omega⟩ dX4_weaves_77 (fun H locs hP hS => ?_)
              generalize eS14 : st S13 0 26 (240 * x + 10 * q + r) (gvM Sa (S 0 25 (240 * x + 10 * q + r))) = S14 at hP
              have qS14 : ∀ (a1 b1 : Nat) (i1 : Int), S14 a1 b1 i1 = if a1 = 0 ∧ b1 = 26 ∧ i1 = 240 * x + 10 * q + r then gvM Sa (S 0 25 (240 * x + 10 * q + r)) else S13 a1 b1 i1 := fun a1 b1 i1 => by rw [← eS14]; exact st_at _ _ _ _ _ _ _ _
              have rS14 : ∀ (a1 b1 : Nat) (i1 : Int), rng (S14 a1 b1 i1) := fun a1 b1 i1 => hP.rg a1 b1 i1
              have aS14_0 : S14 0 0 (-1) = 1 := by rw [qS14, if_neg (by omega)]; exact aS13_0
              have wS14 : wM S14 := wM.keep wS13 (fun r j h => by unfold wrow at h; rw [qS14, if_neg (by omega)])
              refine lv_aload_n hx hb dX4_weaves_78 rfl (lv_at hl 4 rfl) ?_
              refine p_get (k := 0) hx hb hown hK hP aS14_0 rfl rfl rfl (lay_X4 hK) 26 724 (by decide) t_724 rfl rfl dX4_weaves_79 ?_
              refine lv_iload hx hb dX4_weaves_82 (lv_at hl 2 rfl) ?_
              refine lv_bipush (v := i32 (100)) hx hb dX4_weaves_84 (by decide) ?_
              refine p_iast (k := 0) (r := 27) (n := 4800) hx hb hK hP hS aS14_0 rfl rfl (by decide) (by decide) (by omega) (by omega) ⟨by decide, by decide⟩ dX4_weaves_86 (fun H locs hP hS => ?_)
              generalize eS15 : st S14 0 27 (240 * x + 10 * q + r) 100 = S15 at hP
              have qS15 : ∀ (a1 b1 : Nat) (i1 : Int), S15 a1 b1 i1 = if a1 = 0 ∧ b1 = 27 ∧ i1 = 240 * x + 10 * q + r then 100 else S14 a1 b1 i1 := fun a1 b1 i1 => by rw [← eS15]; exact st_at _ _ _ _ _ _ _ _
              have rS15 : ∀ (a1 b1 : Nat) (i1 : Int), rng (S15 a1 b1 i1) := fun a1 b1 i1 => hP.rg a1 b1 i1
              have aS15_0 : S15 0 0 (-1) = 1 := by rw [qS15, if_neg (by omega)]; exact aS14_0
              have wS15 : wM S15 := wM.keep wS14 (fun r j h => by unfold wrow at h; rw [qS15, if_neg (by omega)])
              refine lv_iinc (v := i32 (q + 1)) (lv' := [(5, .int (i32 (q + 1))), (6, .int (i32 (b2 (((gvM Sa (S 0 25 (240 * x + 10 * q + r))) ≠ (-1)))))), (8, .int (i32 (gvM Sa (S 0 25 (240 * x + 10 * q + r))))), (7, .int (i32 (240 * x + 10 * q + r))), (0, .ref (ad 0 0)), (1, .int (i32 (x))), (2, .int (i32 (r))), (3, .int (i32 (f))), (4, .int (i32 (t)))]) hx hb dX4_weaves_87 hl (k := 3) rfl (i32_add _ _) (by decide) rfl (fun ls hl => ?_)
              refine lv_goto (tgt := 6) hx hb dX4_weaves_90 (by decide) ?_
              obtain ⟨zG2, zS2⟩ := wvG_s hrr zG zc.1 zS rfl c_12
              exact ih6 (q + 1) (b2 (((gvM Sa (S 0 25 (240 * x + 10 * q + r))) ≠ (-1)))) S15 (fun j => if j = q then gvM Sa (S 0 25 (240 * x + 10 * q + r)) else G j) _ _ _ (by omega) (by exact zG2) (by exact wv_s zS2 hrr zc.1 qS13 qS14 qS15 (if_pos rfl)) (by exact Or.inl (b2_t c_12)) (by rw [b2_t c_12]; rcases zh with h | h <;> omega) hP hS (lv_sub hl [1, 0, 4, 5, 6, 7, 8] rfl)
          refine q_icmp_eq (tgt := 50) hx hb ⟨by omega, by omega⟩ ⟨by decide, by decide⟩ dX4_weaves_43 (by decide) (fun c_16 => ?_) (fun c_16 => ?_)
          · -- (gvM Sa (S 0 25 (240 * x + 10 * q + r))) = (-1)
            refine lv_iconst (v := i32 (0)) hx hb dX4_weaves_50 rfl ?_
            refine q_nm (b2_f (show ¬ (((gvM Sa (S 0 25 (240 * x + 10 * q + r))) ≠ (-1))) from by first | omega | (simp only [*]; done) | simp_all)).symm ?_
            exact J51 _ _ hP hS
          · -- (gvM Sa (S 0 25 (240 * x + 10 * q + r))) ≠ (-1)
            refine lv_iconst (v := i32 (1)) hx hb dX4_weaves_46 rfl ?_
            refine lv_goto (tgt := 51) hx hb dX4_weaves_47 (by decide) ?_
            refine q_nm (b2_t (show ((gvM Sa (S 0 25 (240 * x + 10 * q + r))) ≠ (-1)) from by first | omega | (simp only [*]; done) | simp_all)).symm ?_
            exact J51 _ _ hP hS
  exact L6 ((t - f + 1) + 1).toNat f 1 S (fun _ => 0) _ _ _ (by omega) (by exact fun j h0 h1 => absurd h1 (by omega)) (by intro a1 b1 i1; exact wv_0 S x r _ f a1 b1 i1) (by exact Or.inl rfl) (by omega) hP hS (lv_sub hl [0, 1, 2, 3, 4, 5, 6] rfl)

set_option maxHeartbeats 4000000 in
set_option maxRecDepth 100000 in
theorem c_X4_weave (l : Launch) (g : GT) (base : Nat) (ad : Nat → Nat → Nat) (S : St) (x w : Int) (hw : wM S) (hrn : rng x) (hrn2 : rng w) (hla : ∀ j, 0 ≤ j → j < 20 → 0 ≤ S 0 12 j ∧ S 0 12 j ≤ 999) (hun : isP S x → 0 ≤ w → w < S 0 18 x → S 0 20 (4 * x + w) < S 0 17 x → ∀ j, w * S 0 21 x / S 0 18 x ≤ j → j < (w + 1) * S 0 21 x / S 0 18 x → S 0 26 (240 * x + 10 * j + S 0 20 (4 * x + w)) = -1 ∧ S 0 27 (240 * x + 10 * j + S 0 20 (4 * x + w)) = 0) : Met l yX4_weave [Cond.code yX4_weave cX4_weave 7 (some FieldType.int)] ({ frames := 2, cells := 0, slots := 0, locals := 51 }) (va_Pc [.ref (ad 0 0), .int (i32 (x)), .int (i32 (w))] (PK g base ad S)) (gQ g base (wqP ad S x w)) 0 0 (fun q => base ≤ q) := by
  refine mk_m (own := RX4) (lv0 := [(0, .ref (ad 0 0)), (1, .int (i32 (x))), (2, .int (i32 (w)))]) (by decide) rfl (Nat.le_of_ble_eq_true rfl) rfl ?_
  intro p e s m below meth cz av Qm hx hb hr hml hown hlocks hK hZ hP hQm ls hl
  have hS : va_S (fun q => base ≤ q) s.heap s.heap [] := va_S.rf
  have rS : ∀ (a1 b1 : Nat) (i1 : Int), rng (S a1 b1 i1) := fun a1 b1 i1 => hP.rg a1 b1 i1
  obtain ⟨hp1, hp2⟩ := hw.ps
  refine lv_aload_n hx hb dX4_weave_0 rfl (lv_at hl 0 rfl) ?_
  refine lv_iload_n hx hb dX4_weave_1 rfl (lv_at hl 1 rfl) ?_
  refine q_callV (k := 0) hx hb hml hl.1 hown hK hZ hP hS hw.al rfl rfl rfl (c_X4_isPiece l g base ad S x hw hrn) t_861 t_19 (q_callB hK 859 36 862 t_859 t_36 t_862 f_yX4_isPiece ⟨by decide, by decide⟩) rfl rfl (Nat.le_of_ble_eq_true rfl) dX4_weave_2 ⟨by decide, by decide⟩  (q_an (fun H locs hP hS => ?_))
  have J41 : ∀ (H : Heap) (locs : List Loc), pic g base ad S H → va_S (fun q => base ≤ q) s.heap H locs → W p l e ({ frames := 2, cells := 0, slots := 0, locals := 51 } : Room) s m av below meth cz H locs 0 0 Qm (F0 m 41 ls (Value.int (i32 (b2 ((isP S x) ∧ (0 ≤ w ∧ w ≤ ((S 0 18 x) - 1))))) :: [])) := by
    intro H locs hP hS
    refine lv_istore_n (lv' := [(3, .int (i32 (b2 ((isP S x) ∧ (0 ≤ w ∧ w ≤ ((S 0 18 x) - 1)))))), (0, .ref (ad 0 0)), (1, .int (i32 (x))), (2, .int (i32 (w)))]) hx hb dX4_weave_41 rfl hl (by decide) rfl (fun ls hl => ?_)
    refine lv_iload_n hx hb dX4_weave_42 rfl (lv_at hl 0 rfl) ?_
    have J60 : ∀ (b60 : Int) (H : Heap) (locs : List Loc), (((¬ ((isP S x) ∧ (0 ≤ w ∧ w ≤ ((S 0 18 x) - 1)))) ∧ b60 = 0) ∨ (((isP S x) ∧ (0 ≤ w ∧ w ≤ ((S 0 18 x) - 1))) ∧ b60 = S 0 20 ((4 * x) + w))) → pic g base ad S H → va_S (fun q => base ≤ q) s.heap H locs → W p l e ({ frames := 2, cells := 0, slots := 0, locals := 51 } : Room) s m av below meth cz H locs 0 0 Qm (F0 m 60 ls (Value.int (i32 b60) :: [])) := by
      intro b60 H locs hb60 hP hS
      refine lv_istore (lv' := [(4, .int (i32 (b60))), (3, .int (i32 (b2 ((isP S x) ∧ (0 ≤ w ∧ w ≤ ((S 0 18 x) - 1)))))), (0, .ref (ad 0 0)), (1, .int (i32 (x))), (2, .int (i32 (w)))]) hx hb dX4_weave_60 hl (by decide) rfl (fun ls hl => ?_)
      refine lv_iload_n hx hb dX4_weave_62 rfl (lv_at hl 1 rfl) ?_
      have J85 : ∀ (b85 : Int) (H : Heap) (locs : List Loc), (((¬ ((isP S x) ∧ (0 ≤ w ∧ w ≤ ((S 0 18 x) - 1)))) ∧ b85 = 0) ∨ (((isP S x) ∧ (0 ≤ w ∧ w ≤ ((S 0 18 x) - 1))) ∧ b85 = (w * (S 0 21 x)) / (S 0 18 x))) → pic g base ad S H → va_S (fun q => base ≤ q) s.heap H locs → W p l e ({ frames := 2, cells := 0, slots := 0, locals := 51 } : Room) s m av below meth cz H locs 0 0 Qm (F0 m 85 ls (Value.int (i32 b85) :: [])) := by
        intro b85 H locs hb85 hP hS
        refine lv_istore (lv' := [(5, .int (i32 (b85))), (4, .int (i32 (b60))), (3, .int (i32 (b2 ((isP S x) ∧ (0 ≤ w ∧ w ≤ ((S 0 18 x) - 1)))))), (0, .ref (ad 0 0)), (1, .int (i32 (x))), (2, .int (i32 (w)))]) hx hb dX4_weave_85 hl (by decide) rfl (fun ls hl => ?_)
        refine lv_iload_n hx hb dX4_weave_87 rfl (lv_at hl 2 rfl) ?_
        have J112 : ∀ (b112 : Int) (H : Heap) (locs : List Loc), (((¬ ((isP S x) ∧ (0 ≤ w ∧ w ≤ ((S 0 18 x) - 1)))) ∧ b112 = 0) ∨ (((isP S x) ∧ (0 ≤ w ∧ w ≤ ((S 0 18 x) - 1))) ∧ b112 = ((w + 1) * (S 0 21 x)) / (S 0 18 x))) → pic g base ad S H → va_S (fun q => base ≤ q) s.heap H locs → W p l e ({ frames := 2, cells := 0, slots := 0, locals := 51 } : Room) s m av below meth cz H locs 0 0 Qm (F0 m 112 ls (Value.int (i32 b112) :: [])) := by
          intro b112 H locs hb112 hP hS
          refine lv_istore (lv' := [(6, .int (i32 (b112))), (5, .int (i32 (b85))), (4, .int (i32 (b60))), (3, .int (i32 (b2 ((isP S x) ∧ (0 ≤ w ∧ w ≤ ((S 0 18 x) - 1)))))), (0, .ref (ad 0 0)), (1, .int (i32 (x))), (2, .int (i32 (w)))]) hx hb dX4_weave_112 hl (by decide) rfl (fun ls hl => ?_)
          refine lv_aload_n hx hb dX4_weave_114 rfl (lv_at hl 4 rfl) ?_
          refine lv_iload_n hx hb dX4_weave_115 rfl (lv_at hl 3 rfl) ?_
          refine lv_iload_n hx hb dX4_weave_116 rfl (lv_at hl 3 rfl) ?_
          refine q_if_eqb (tgt := 147) hx hb dX4_weave_117 (by decide) (fun c_1 => ?_) (fun c_1 => ?_)
          · -- ¬ ((isP S x) ∧ (0 ≤ w ∧ w ≤ ((S 0 18 x) - 1)))
            refine lv_iconst (v := i32 (0)) hx hb dX4_weave_147 rfl ?_
            refine lv_iconst (v := i32 (1)) hx hb dX4_weave_148 rfl ?_
            refine W.eq (g2 := F0 m 149 ls (Value.int (i32 (b2 (True))) :: Value.int (i32 (b2 (False))) :: Value.int (i32 (b2 ((isP S x) ∧ (0 ≤ w ∧ w ≤ ((S 0 18 x) - 1))))) :: Value.ref (ad 0 0) :: [])) (by simp only [b2_t trivial, b2_f not_false] <;> rfl) ?_
            refine q_callV (k := 0) hx hb hml hl.1 hown hK hZ hP hS hw.al rfl rfl rfl (c_X4_goes l g base ad S ((isP S x) ∧ (0 ≤ w ∧ w ≤ ((S 0 18 x) - 1))) False True hw.al) t_796 t_14 (q_callB hK 794 36 797 t_794 t_36 t_797 f_yX4_goes ⟨by decide, by decide⟩) rfl rfl (Nat.le_of_ble_eq_true rfl) dX4_weave_149 ⟨by decide, by decide⟩  (q_an (fun H locs hP hS => ?_))
            generalize eS2 : st S 0 0 27 (thr ((isP S x) ∧ (0 ≤ w ∧ w ≤ ((S 0 18 x) - 1))) False True) = S2 at hP
            have rS2 : ∀ (a1 b1 : Nat) (i1 : Int), rng (S2 a1 b1 i1) := fun a1 b1 i1 => hP.rg a1 b1 i1
            have qS2 : ∀ (a1 b1 : Nat) (i1 : Int), S2 a1 b1 i1 = if a1 = 0 ∧ b1 = 0 ∧ i1 = 27 then thr ((isP S x) ∧ (0 ≤ w ∧ w ≤ ((S 0 18 x) - 1))) False True else S a1 b1 i1 := fun a1 b1 i1 => by rw [← eS2]; exact st_at _ _ _ _ _ _ _ _
            have aS2_0 : S2 0 0 (-1) = 1 := by rw [qS2, if_neg (by omega)]; exact hw.al
            have wS2 : wM S2 := wM.keep hw (fun r j h => by unfold wrow at h; rw [qS2, if_neg (by omega)])
            refine q_if_neb (tgt := 157) hx hb dX4_weave_152 (by decide) (fun c_3 => ?_) (fun c_3 => ?_)
            · -- ((isP S x) ∧ (0 ≤ w ∧ w ≤ ((S 0 18 x) - 1))) ∧ False ∧ True
              exact absurd c_3.2.1 id
            · -- ¬ (((isP S x) ∧ (0 ≤ w ∧ w ≤ ((S 0 18 x) - 1))) ∧ False ∧ True)
              refine lv_iconst (v := i32 (0)) hx hb dX4_weave_155 rfl ?_
              subst hQm
              exact q_iret hx hb hr hlocks hP hS (by subst eS2; exact wq_1 c_1) (by decide) (by decide) dX4_weave_156
          · -- (isP S x) ∧ (0 ≤ w ∧ w ≤ ((S 0 18 x) - 1))
            obtain ⟨⟨hq1, hq2, hq3⟩, hq4, hq5⟩ := id c_1
            obtain ⟨hc1, hc2, hr1, hr2, hv1, hv2, hd1, hd2⟩ := hw.pc x (by omega) (by omega)
            have e60 := b_e hb60 c_1
            have e85 := b_e hb85 c_1
            have e112 := b_e hb112 c_1
            refine lv_aload_n hx hb dX4_weave_120 rfl (lv_at hl 4 rfl) ?_
            refine lv_iload_n hx hb dX4_weave_121 rfl (lv_at hl 5 rfl) ?_
            refine lv_iload_n hx hb dX4_weave_122 rfl (lv_at hl 6 rfl) ?_
            refine q_callV (k := 0) hx hb hml hl.1 hown hK hZ hP hS hw.al rfl rfl rfl (c_X4_mayWeave l g base ad S x w hw (by omega) (by omega)) t_865 t_20 (q_callB hK 863 36 866 t_863 t_36 t_866 f_yX4_mayWeave ⟨by decide, by decide⟩) rfl rfl (Nat.le_of_ble_eq_true rfl) dX4_weave_123 ⟨by decide, by decide⟩  (q_an (fun H locs hP hS => ?_))
            refine q_if_eqb (tgt := 147) hx hb dX4_weave_126 (by decide) (fun c_4 => ?_) (fun c_4 => ?_)
            · -- ¬ (mwM S x w)
              refine lv_iconst (v := i32 (0)) hx hb dX4_weave_147 rfl ?_
              refine lv_iconst (v := i32 (1)) hx hb dX4_weave_148 rfl ?_
              refine W.eq (g2 := F0 m 149 ls (Value.int (i32 (b2 (True))) :: Value.int (i32 (b2 (False))) :: Value.int (i32 (b2 ((isP S x) ∧ (0 ≤ w ∧ w ≤ ((S 0 18 x) - 1))))) :: Value.ref (ad 0 0) :: [])) (by simp only [b2_t trivial, b2_f not_false] <;> rfl) ?_
              refine q_callV (k := 0) hx hb hml hl.1 hown hK hZ hP hS hw.al rfl rfl rfl (c_X4_goes l g base ad S ((isP S x) ∧ (0 ≤ w ∧ w ≤ ((S 0 18 x) - 1))) False True hw.al) t_796 t_14 (q_callB hK 794 36 797 t_794 t_36 t_797 f_yX4_goes ⟨by decide, by decide⟩) rfl rfl (Nat.le_of_ble_eq_true rfl) dX4_weave_149 ⟨by decide, by decide⟩  (q_an (fun H locs hP hS => ?_))
              generalize eS5 : st S 0 0 27 (thr ((isP S x) ∧ (0 ≤ w ∧ w ≤ ((S 0 18 x) - 1))) False True) = S5 at hP
              have rS5 : ∀ (a1 b1 : Nat) (i1 : Int), rng (S5 a1 b1 i1) := fun a1 b1 i1 => hP.rg a1 b1 i1
              have qS5 : ∀ (a1 b1 : Nat) (i1 : Int), S5 a1 b1 i1 = if a1 = 0 ∧ b1 = 0 ∧ i1 = 27 then thr ((isP S x) ∧ (0 ≤ w ∧ w ≤ ((S 0 18 x) - 1))) False True else S a1 b1 i1 := fun a1 b1 i1 => by rw [← eS5]; exact st_at _ _ _ _ _ _ _ _
              have aS5_0 : S5 0 0 (-1) = 1 := by rw [qS5, if_neg (by omega)]; exact hw.al
              have wS5 : wM S5 := wM.keep hw (fun r j h => by unfold wrow at h; rw [qS5, if_neg (by omega)])
              refine q_if_neb (tgt := 157) hx hb dX4_weave_152 (by decide) (fun c_6 => ?_) (fun c_6 => ?_)
              · -- ((isP S x) ∧ (0 ≤ w ∧ w ≤ ((S 0 18 x) - 1))) ∧ False ∧ True
                exact absurd c_6.2.1 id
              · -- ¬ (((isP S x) ∧ (0 ≤ w ∧ w ≤ ((S 0 18 x) - 1))) ∧ False ∧ True)
                refine lv_iconst (v := i32 (0)) hx hb dX4_weave_155 rfl ?_
                subst hQm
                exact q_iret hx hb hr hlocks hP hS (by subst eS5; exact wq_2 c_1 c_4) (by decide) (by decide) dX4_weave_156
            · -- mwM S x w
              obtain ⟨hm1, -, -⟩ := id c_4
              obtain ⟨hb1, hb2, hb3, hb4, hb5, hb6, hb7⟩ := dvb (v := S 0 18 x) (d := S 0 21 x) hq4 (by omega) hv2 hd1 hd2
              obtain ⟨hw1, hw2⟩ := hw.wv (4 * x + w) (by omega) (by omega)
              have hun2 : ∀ j, b85 ≤ j → j < b112 → S 0 26 (240 * x + 10 * j + b60) = -1 ∧ S 0 27 (240 * x + 10 * j + b60) = 0 := by
                rw [e60, e85, e112]
                exact hun ⟨hq1, hq2, hq3⟩ hq4 (by omega) hm1
              refine lv_aload_n hx hb dX4_weave_129 rfl (lv_at hl 4 rfl) ?_
              refine lv_iload_n hx hb dX4_weave_130 rfl (lv_at hl 5 rfl) ?_
              refine lv_iload hx hb dX4_weave_131 (lv_at hl 2 rfl) ?_
              refine lv_iload hx hb dX4_weave_133 (lv_at hl 1 rfl) ?_
              refine lv_iload hx hb dX4_weave_135 (lv_at hl 0 rfl) ?_
              refine q_callV (k := 0) hx hb hml hl.1 hown hK hZ hP hS hw.al rfl rfl rfl (c_X4_weaves l g base ad S x b60 b85 b112 hw (by omega) (by omega) (by omega) hun2 hla) t_869 t_21 (q_callB hK 867 36 870 t_867 t_36 t_870 f_yX4_weaves ⟨by decide, by decide⟩) rfl rfl (Nat.le_of_ble_eq_true rfl) dX4_weave_137 ⟨by decide, by decide⟩  (fun rr ad' S' H locs hQ hP hS => ?_)
              obtain ⟨h9, hQ⟩ := hQ
              rw [h9] at hP
              rcases hQ with ⟨G, zG, h8, h7⟩ | ⟨G, c, zc1, zc2, zG, zg, h8, h7⟩
              · rw [h8]; rw [h7] at hP
                generalize eS7 : wvF S x b60 G b85 b112 = S7 at hP
                have qS7 : ∀ (a1 b1 : Nat) (i1 : Int), S7 a1 b1 i1 = wvF S x b60 G b85 b112 a1 b1 i1 := fun a1 b1 i1 => by rw [← eS7]
                have rS7 : ∀ (a1 b1 : Nat) (i1 : Int), rng (S7 a1 b1 i1) := fun a1 b1 i1 => hP.rg a1 b1 i1
                have aS7_0 : S7 0 0 (-1) = 1 := by rw [qS7, wvF_o _ _ _ _ _ _ (by decide)]; exact hw.al
                have wS7 : wM S7 := wM.keep hw (fun r j h => by unfold wrow at h; rw [qS7, wvF_o _ _ _ _ _ _ (by omega)])
                refine q_if_eq (tgt := 147) hx hb ⟨by decide, by decide⟩ dX4_weave_140 (by decide) (fun h => by omega) (fun _ => ?_)
                refine lv_iconst (v := i32 (1)) hx hb dX4_weave_143 rfl ?_
                refine lv_goto (tgt := 148) hx hb dX4_weave_144 (by decide) ?_
                refine lv_iconst (v := i32 (1)) hx hb dX4_weave_148 rfl ?_
                refine W.eq (g2 := F0 m 149 ls (Value.int (i32 (b2 (True))) :: Value.int (i32 (b2 (True))) :: Value.int (i32 (b2 ((isP S x) ∧ (0 ≤ w ∧ w ≤ ((S 0 18 x) - 1))))) :: Value.ref (ad 0 0) :: [])) (by simp only [b2_t trivial, b2_f not_false] <;> rfl) ?_
                refine q_callV (k := 0) hx hb hml hl.1 hown hK hZ hP hS aS7_0 rfl rfl rfl (c_X4_goes l g base ad S7 ((isP S x) ∧ (0 ≤ w ∧ w ≤ ((S 0 18 x) - 1))) True True aS7_0) t_796 t_14 (q_callB hK 794 36 797 t_794 t_36 t_797 f_yX4_goes ⟨by decide, by decide⟩) rfl rfl (Nat.le_of_ble_eq_true rfl) dX4_weave_149 ⟨by decide, by decide⟩  (q_an (fun H locs hP hS => ?_))
                generalize eS8 : st S7 0 0 27 (thr ((isP S x) ∧ (0 ≤ w ∧ w ≤ ((S 0 18 x) - 1))) True True) = S8 at hP
                have rS8 : ∀ (a1 b1 : Nat) (i1 : Int), rng (S8 a1 b1 i1) := fun a1 b1 i1 => hP.rg a1 b1 i1
                have qS8 : ∀ (a1 b1 : Nat) (i1 : Int), S8 a1 b1 i1 = if a1 = 0 ∧ b1 = 0 ∧ i1 = 27 then thr ((isP S x) ∧ (0 ≤ w ∧ w ≤ ((S 0 18 x) - 1))) True True else S7 a1 b1 i1 := fun a1 b1 i1 => by rw [← eS8]; exact st_at _ _ _ _ _ _ _ _
                have aS8_0 : S8 0 0 (-1) = 1 := by rw [qS8, if_neg (by omega)]; exact aS7_0
                have wS8 : wM S8 := wM.keep wS7 (fun r j h => by unfold wrow at h; rw [qS8, if_neg (by omega)])
                refine q_if_neb (tgt := 157) hx hb dX4_weave_152 (by decide) (fun c_9 => ?_) (fun c_9 => ?_)
                · -- ((isP S x) ∧ (0 ≤ w ∧ w ≤ ((S 0 18 x) - 1))) ∧ True ∧ True
                  obtain ⟨⟨hq1, hq2, hq3⟩, hq4, hq5⟩ := id c_1
                  obtain ⟨hc1, hc2, hr1, hr2, hv1, hv2, hd1, hd2⟩ := hw.pc x (by omega) (by omega)
                  obtain ⟨hw1, hw2⟩ := hw.wv (4 * x + w) (by omega) (by omega)
                  refine lv_aload_n hx hb dX4_weave_157 rfl (lv_at hl 4 rfl) ?_
                  refine p_get (k := 0) hx hb hown hK hP aS8_0 rfl rfl rfl (lay_X4 hK) 19 717 (by decide) t_717 rfl rfl dX4_weave_158 ?_
                  refine lv_iconst (v := i32 (4)) hx hb dX4_weave_161 rfl ?_
                  refine lv_iload_n hx hb dX4_weave_162 rfl (lv_at hl 5 rfl) ?_
                  refine q_imul hx hb dX4_weave_163 ?_
                  refine lv_iload_n hx hb dX4_weave_164 rfl (lv_at hl 6 rfl) ?_
                  refine q_iadd hx hb dX4_weave_165 ?_
                  refine lv_dup2_11 hx hb dX4_weave_166 rfl rfl ?_
                  refine p_iald (k := 0) (r := 20) (n := 80) hx hb hK hP aS8_0 rfl rfl (by decide) (by decide) (by omega) (by omega) dX4_weave_167 ?_
                  refine q_nm (show S8 0 20 ((4 * x) + w) = S 0 20 ((4 * x) + w) from by rw [qS8, if_neg (by omega), qS7, wvF_o _ _ _ _ _ _ (by decide)]) ?_
                  refine lv_iconst (v := i32 (1)) hx hb dX4_weave_168 rfl ?_
                  refine q_iadd hx hb dX4_weave_169 ?_
                  refine p_iast (k := 0) (r := 20) (n := 80) hx hb hK hP hS aS8_0 rfl rfl (by decide) (by decide) (by omega) (by omega) ⟨by omega, by omega⟩ dX4_weave_170 (fun H locs hP hS => ?_)
                  generalize eS10 : st S8 0 20 ((4 * x) + w) ((S 0 20 ((4 * x) + w)) + 1) = S10 at hP
                  have qS10 : ∀ (a1 b1 : Nat) (i1 : Int), S10 a1 b1 i1 = if a1 = 0 ∧ b1 = 20 ∧ i1 = (4 * x) + w then (S 0 20 ((4 * x) + w)) + 1 else S8 a1 b1 i1 := fun a1 b1 i1 => by rw [← eS10]; exact st_at _ _ _ _ _ _ _ _
                  have rS10 : ∀ (a1 b1 : Nat) (i1 : Int), rng (S10 a1 b1 i1) := fun a1 b1 i1 => hP.rg a1 b1 i1
                  have aS10_0 : S10 0 0 (-1) = 1 := by rw [qS10, if_neg (by omega)]; exact aS8_0
                  refine lv_iload hx hb dX4_weave_171 (lv_at hl 2 rfl) ?_
                  subst hQm
                  exact q_iret hx hb hr hlocks hP hS (by subst eS10; subst eS8; subst eS7; exact wq_4 c_1 c_4 e60 e85 e112 zG) (by decide) (by decide) dX4_weave_173
                · -- ¬ (((isP S x) ∧ (0 ≤ w ∧ w ≤ ((S 0 18 x) - 1))) ∧ True ∧ True)
                  exact absurd ⟨c_1, trivial, trivial⟩ c_9
              · rw [h8]; rw [h7] at hP
                refine q_if_eq (tgt := 147) hx hb ⟨by decide, by decide⟩ dX4_weave_140 (by decide) (fun _ => ?_) (fun h => by omega)
                refine lv_iconst (v := i32 (0)) hx hb dX4_weave_147 rfl ?_
                refine lv_iconst (v := i32 (1)) hx hb dX4_weave_148 rfl ?_
                refine W.eq (g2 := F0 m 149 ls (Value.int (i32 (b2 (True))) :: Value.int (i32 (b2 (False))) :: Value.int (i32 (b2 ((isP S x) ∧ (0 ≤ w ∧ w ≤ ((S 0 18 x) - 1))))) :: Value.ref (ad 0 0) :: [])) (by simp only [b2_t trivial, b2_f not_false] <;> rfl) ?_
                refine q_callV (k := 0) hx hb hml hl.1 hown hK hZ hP hS hw.al rfl rfl rfl (c_X4_goes l g base ad S ((isP S x) ∧ (0 ≤ w ∧ w ≤ ((S 0 18 x) - 1))) False True hw.al) t_796 t_14 (q_callB hK 794 36 797 t_794 t_36 t_797 f_yX4_goes ⟨by decide, by decide⟩) rfl rfl (Nat.le_of_ble_eq_true rfl) dX4_weave_149 ⟨by decide, by decide⟩  (q_an (fun H locs hP hS => ?_))
                generalize eS11 : st S 0 0 27 (thr ((isP S x) ∧ (0 ≤ w ∧ w ≤ ((S 0 18 x) - 1))) False True) = S11 at hP
                have rS11 : ∀ (a1 b1 : Nat) (i1 : Int), rng (S11 a1 b1 i1) := fun a1 b1 i1 => hP.rg a1 b1 i1
                have qS11 : ∀ (a1 b1 : Nat) (i1 : Int), S11 a1 b1 i1 = if a1 = 0 ∧ b1 = 0 ∧ i1 = 27 then thr ((isP S x) ∧ (0 ≤ w ∧ w ≤ ((S 0 18 x) - 1))) False True else S a1 b1 i1 := fun a1 b1 i1 => by rw [← eS11]; exact st_at _ _ _ _ _ _ _ _
                have aS11_0 : S11 0 0 (-1) = 1 := by rw [qS11, if_neg (by omega)]; exact hw.al
                have wS11 : wM S11 := wM.keep hw (fun r j h => by unfold wrow at h; rw [qS11, if_neg (by omega)])
                refine q_if_neb (tgt := 157) hx hb dX4_weave_152 (by decide) (fun c_12 => ?_) (fun c_12 => ?_)
                · -- ((isP S x) ∧ (0 ≤ w ∧ w ≤ ((S 0 18 x) - 1))) ∧ False ∧ True
                  exact absurd c_12.2.1 id
                · -- ¬ (((isP S x) ∧ (0 ≤ w ∧ w ≤ ((S 0 18 x) - 1))) ∧ False ∧ True)
                  refine lv_iconst (v := i32 (0)) hx hb dX4_weave_155 rfl ?_
                  subst hQm
                  exact q_iret hx hb hr hlocks hP hS (by subst eS11; exact wq_3 c_1 c_4 e60 e85 e112 zc1 zc2 zG zg) (by decide) (by decide) dX4_weave_156
        refine q_if_eqb (tgt := 111) hx hb dX4_weave_88 (by decide) (fun c_13 => ?_) (fun c_13 => ?_)
        · -- ¬ ((isP S x) ∧ (0 ≤ w ∧ w ≤ ((S 0 18 x) - 1)))
          refine lv_iconst (v := i32 (0)) hx hb dX4_weave_111 rfl ?_
          exact J112 _ _ _ (by first | omega | (simp only [*]; done) | simp_all) hP hS
        · -- (isP S x) ∧ (0 ≤ w ∧ w ≤ ((S 0 18 x) - 1))
          obtain ⟨⟨hq1, hq2, hq3⟩, hq4, hq5⟩ := id c_13
          obtain ⟨hc1, hc2, hr1, hr2, hv1, hv2, hd1, hd2⟩ := hw.pc x (by omega) (by omega)
          obtain ⟨hb1, hb2, hb3, hb4, hb5, hb6, hb7⟩ := dvb (v := S 0 18 x) (d := S 0 21 x) hq4 (by omega) hv2 hd1 hd2
          refine lv_iload_n hx hb dX4_weave_91 rfl (lv_at hl 5 rfl) ?_
          refine lv_iconst (v := i32 (1)) hx hb dX4_weave_92 rfl ?_
          refine q_iadd hx hb dX4_weave_93 ?_
          refine lv_aload_n hx hb dX4_weave_94 rfl (lv_at hl 3 rfl) ?_
          refine p_get (k := 0) hx hb hown hK hP hw.al rfl rfl rfl (lay_X4 hK) 20 718 (by decide) t_718 rfl rfl dX4_weave_95 ?_
          refine lv_iload_n hx hb dX4_weave_98 rfl (lv_at hl 4 rfl) ?_
          refine p_iald (k := 0) (r := 21) (n := 20) hx hb hK hP hw.al rfl rfl (by decide) (by decide) (by omega) (by omega) dX4_weave_99 ?_
          refine q_imul hx hb dX4_weave_100 ?_
          refine lv_aload_n hx hb dX4_weave_101 rfl (lv_at hl 3 rfl) ?_
          refine p_get (k := 0) hx hb hown hK hP hw.al rfl rfl rfl (lay_X4 hK) 17 715 (by decide) t_715 rfl rfl dX4_weave_102 ?_
          refine lv_iload_n hx hb dX4_weave_105 rfl (lv_at hl 4 rfl) ?_
          refine p_iald (k := 0) (r := 18) (n := 20) hx hb hK hP hw.al rfl rfl (by decide) (by decide) (by omega) (by omega) dX4_weave_106 ?_
          refine q_idiv hx hb (by omega) (by omega) (by omega) (by omega) dX4_weave_107 ?_
          refine lv_goto (tgt := 112) hx hb dX4_weave_108 (by decide) ?_
          exact J112 _ _ _ (by first | omega | (simp only [*]; done) | simp_all) hP hS
      refine q_if_eqb (tgt := 84) hx hb dX4_weave_63 (by decide) (fun c_14 => ?_) (fun c_14 => ?_)
      · -- ¬ ((isP S x) ∧ (0 ≤ w ∧ w ≤ ((S 0 18 x) - 1)))
        refine lv_iconst (v := i32 (0)) hx hb dX4_weave_84 rfl ?_
        exact J85 _ _ _ (by first | omega | (simp only [*]; done) | simp_all) hP hS
      · -- (isP S x) ∧ (0 ≤ w ∧ w ≤ ((S 0 18 x) - 1))
        obtain ⟨⟨hq1, hq2, hq3⟩, hq4, hq5⟩ := id c_14
        obtain ⟨hc1, hc2, hr1, hr2, hv1, hv2, hd1, hd2⟩ := hw.pc x (by omega) (by omega)
        obtain ⟨hb1, hb2, hb3, hb4, hb5, hb6, hb7⟩ := dvb (v := S 0 18 x) (d := S 0 21 x) hq4 (by omega) hv2 hd1 hd2
        refine lv_iload_n hx hb dX4_weave_66 rfl (lv_at hl 4 rfl) ?_
        refine lv_aload_n hx hb dX4_weave_67 rfl (lv_at hl 2 rfl) ?_
        refine p_get (k := 0) hx hb hown hK hP hw.al rfl rfl rfl (lay_X4 hK) 20 718 (by decide) t_718 rfl rfl dX4_weave_68 ?_
        refine lv_iload_n hx hb dX4_weave_71 rfl (lv_at hl 3 rfl) ?_
        refine p_iald (k := 0) (r := 21) (n := 20) hx hb hK hP hw.al rfl rfl (by decide) (by decide) (by omega) (by omega) dX4_weave_72 ?_
        refine q_imul hx hb dX4_weave_73 ?_
        refine lv_aload_n hx hb dX4_weave_74 rfl (lv_at hl 2 rfl) ?_
        refine p_get (k := 0) hx hb hown hK hP hw.al rfl rfl rfl (lay_X4 hK) 17 715 (by decide) t_715 rfl rfl dX4_weave_75 ?_
        refine lv_iload_n hx hb dX4_weave_78 rfl (lv_at hl 3 rfl) ?_
        refine p_iald (k := 0) (r := 18) (n := 20) hx hb hK hP hw.al rfl rfl (by decide) (by decide) (by omega) (by omega) dX4_weave_79 ?_
        refine q_idiv hx hb (by omega) (by omega) (by omega) (by omega) dX4_weave_80 ?_
        refine lv_goto (tgt := 85) hx hb dX4_weave_81 (by decide) ?_
        exact J85 _ _ _ (by first | omega | (simp only [*]; done) | simp_all) hP hS
    refine q_if_eqb (tgt := 59) hx hb dX4_weave_43 (by decide) (fun c_15 => ?_) (fun c_15 => ?_)
    · -- ¬ ((isP S x) ∧ (0 ≤ w ∧ w ≤ ((S 0 18 x) - 1)))
      refine lv_iconst (v := i32 (0)) hx hb dX4_weave_59 rfl ?_
      exact J60 _ _ _ (by first | omega | (simp only [*]; done) | simp_all) hP hS
    · -- (isP S x) ∧ (0 ≤ w ∧ w ≤ ((S 0 18 x) - 1))
      obtain ⟨⟨hq1, hq2, hq3⟩, hq4, hq5⟩ := id c_15
      obtain ⟨hc1, hc2, hr1, hr2, hv1, hv2, hd1, hd2⟩ := hw.pc x (by omega) (by omega)
      refine lv_aload_n hx hb dX4_weave_46 rfl (lv_at hl 1 rfl) ?_
      refine p_get (k := 0) hx hb hown hK hP hw.al rfl rfl rfl (lay_X4 hK) 19 717 (by decide) t_717 rfl rfl dX4_weave_47 ?_
      refine lv_iconst (v := i32 (4)) hx hb dX4_weave_50 rfl ?_
      refine lv_iload_n hx hb dX4_weave_51 rfl (lv_at hl 2 rfl) ?_
      refine q_imul hx hb dX4_weave_52 ?_
      refine lv_iload_n hx hb dX4_weave_53 rfl (lv_at hl 3 rfl) ?_
      refine q_iadd hx hb dX4_weave_54 ?_
      refine p_iald (k := 0) (r := 20) (n := 80) hx hb hK hP hw.al rfl rfl (by decide) (by decide) (by omega) (by omega) dX4_weave_55 ?_
      refine lv_goto (tgt := 60) hx hb dX4_weave_56 (by decide) ?_
      exact J60 _ _ _ (by first | omega | (simp only [*]; done) | simp_all) hP hS
  refine q_if_eqb (tgt := 40) hx hb dX4_weave_5 (by decide) (fun c_16 => ?_) (fun c_16 => ?_)
  · -- ¬ (isP S x)
    refine lv_iconst (v := i32 (0)) hx hb dX4_weave_40 rfl ?_
    refine q_nm (b2_f (show ¬ ((isP S x) ∧ (0 ≤ w ∧ w ≤ ((S 0 18 x) - 1))) from by first | omega | (simp only [*]; done) | simp_all)).symm ?_
    exact J41 _ _ hP hS
  · -- isP S x
    obtain ⟨hq1, hq2, hq3⟩ := id c_16
    obtain ⟨hc1, hc2, hr1, hr2, hv1, hv2, hd1, hd2⟩ := hw.pc x (by omega) (by omega)
    refine lv_iload_n hx hb dX4_weave_8 rfl (lv_at hl 2 rfl) ?_
    refine lv_iconst (v := i32 (0)) hx hb dX4_weave_9 rfl ?_
    refine lv_aload_n hx hb dX4_weave_10 rfl (lv_at hl 0 rfl) ?_
    refine p_get (k := 0) hx hb hown hK hP hw.al rfl rfl rfl (lay_X4 hK) 17 715 (by decide) t_715 rfl rfl dX4_weave_11 ?_
    refine lv_aload_n hx hb dX4_weave_14 rfl (lv_at hl 0 rfl) ?_
    refine lv_iload_n hx hb dX4_weave_15 rfl (lv_at hl 1 rfl) ?_
    refine q_callV (k := 0) hx hb hml hl.1 hown hK hZ hP hS hw.al rfl rfl rfl (c_X4_isPiece l g base ad S x hw hrn) t_861 t_19 (q_callB hK 859 36 862 t_859 t_36 t_862 f_yX4_isPiece ⟨by decide, by decide⟩) rfl rfl (Nat.le_of_ble_eq_true rfl) dX4_weave_16 ⟨by decide, by decide⟩  (q_an (fun H locs hP hS => ?_))
    refine q_if_eqb (tgt := 26) hx hb dX4_weave_19 (by decide) (fun h => by first | exact absurd c_16 h | exact absurd h c_16 | omega) (fun _ => ?_)
    refine lv_iload_n hx hb dX4_weave_22 rfl (lv_at hl 1 rfl) ?_
    refine lv_goto (tgt := 27) hx hb dX4_weave_23 (by decide) ?_
    refine p_iald (k := 0) (r := 18) (n := 20) hx hb hK hP hw.al rfl rfl (by decide) (by decide) (by omega) (by omega) dX4_weave_27 ?_
    refine lv_iconst (v := i32 (1)) hx hb dX4_weave_28 rfl ?_
    refine q_isub hx hb dX4_weave_29 ?_
    refine q_callS hx hb hml hl.1 hown hK hZ hP hS (c_X4_in l g base ad S w 0 ((S 0 18 x) - 1) hrn2 ⟨by decide, by decide⟩ ⟨by omega, by omega⟩) t_807 (q_callB hK 806 36 808 t_806 t_36 t_808 f_yX4_in ⟨by decide, by decide⟩) rfl rfl (Nat.le_of_ble_eq_true rfl) dX4_weave_30 ⟨by decide, by decide⟩  (q_an (fun H locs hP hS => ?_))
    refine q_if_eqb (tgt := 40) hx hb dX4_weave_33 (by decide) (fun c_17 => ?_) (fun c_17 => ?_)
    · -- ¬ (0 ≤ w ∧ w ≤ ((S 0 18 x) - 1))
      refine lv_iconst (v := i32 (0)) hx hb dX4_weave_40 rfl ?_
      refine q_nm (b2_f (show ¬ ((isP S x) ∧ (0 ≤ w ∧ w ≤ ((S 0 18 x) - 1))) from by first | omega | (simp only [*]; done) | simp_all)).symm ?_
      exact J41 _ _ hP hS
    · -- 0 ≤ w ∧ w ≤ ((S 0 18 x) - 1)
      refine lv_iconst (v := i32 (1)) hx hb dX4_weave_36 rfl ?_
      refine lv_goto (tgt := 41) hx hb dX4_weave_37 (by decide) ?_
      refine q_nm (b2_t (show (isP S x) ∧ (0 ≤ w ∧ w ≤ ((S 0 18 x) - 1)) from by first | omega | (simp only [*]; done) | simp_all)).symm ?_
      exact J41 _ _ hP hS
