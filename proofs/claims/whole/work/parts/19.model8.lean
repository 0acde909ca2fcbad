set_option maxHeartbeats 4000000 in
set_option maxRecDepth 100000 in
theorem c_X4_weaves (l : Launch) (g : GT) (base : Nat) (ad : Nat → Nat → Nat) (S : St) (x r f t : Int) (hw : wM S) (hxx : 0 ≤ x ∧ x < 20) (hrr : 0 ≤ r ∧ r < 10) (hft : 0 ≤ f ∧ f ≤ t ∧ t ≤ 24) (hun : ∀ j, f ≤ j → j < t → S 0 26 (240 * x + 10 * j + r) = -1 ∧ S 0 27 (240 * x + 10 * j + r) = 0) (hla : ∀ j, 0 ≤ j → j < 20 → 0 ≤ S 0 12 j ∧ S 0 12 j ≤ 999) : Met l yX4_weaves [Cond.code yX4_weaves cX4_weaves 9 (some FieldType.boolean)] ({ frames := 1, cells := 0, slots := 0, locals := 23 }) (va_Pc [.ref (ad 0 0), .int (i32 (x)), .int (i32 (r)), .int (i32 (f)), .int (i32 (t))] (PK g base ad S)) (gQ g base (wvP ad S x r f t)) 0 0 (fun q => base ≤ q) := by
  refine mk_m (own := RX4) (lv0 := [(0, .ref (ad 0 0)), (1, .int (i32 (x))), (2, .int (i32 (r))), (3, .int (i32 (f))), (4, .int (i32 (t)))]) (by decide) rfl (Nat.le_of_ble_eq_true rfl) rfl ?_
  intro p e s m below meth cz av Qm hx hb hr hml hown hlocks hK hZ hP hQm ls hl
  have hS : va_S (fun q => base ≤ q) s.heap s.heap [] := va_S.rf
  have rS : ∀ (a1 b1 : Nat) (i1 : Int), rng (S a1 b1 i1) := fun a1 b1 i1 => hP.rg a1 b1 i1
  obtain ⟨hx0, hx1⟩ := id hxx
  obtain ⟨hc1, hc2, hr1, hr2, hv1, hv2, hd1, hd2⟩ := hw.pc x hx0 hx1
  refine lv_iload_n hx hb dX4_weaves_0 rfl (lv_at hl 3 rfl) ?_
  refine lv_istore (lv' := [(5, .int (i32 (f))), (0, .ref (ad 0 0)), (1, .int (i32 (x))), (2, .int (i32 (r))), (3, .int (i32 (f))), (4, .int (i32 (t)))]) hx hb dX4_weaves_1 hl (by decide) rfl (fun ls hl => ?_)
  refine lv_iconst (v := i32 (1)) hx hb dX4_weaves_3 rfl ?_
  refine lv_istore (lv' := [(6, .int (i32 (1))), (5, .int (i32 (f))), (0, .ref (ad 0 0)), (1, .int (i32 (x))), (2, .int (i32 (r))), (3, .int (i32 (f))), (4, .int (i32 (t)))]) hx hb dX4_weaves_4 hl (by decide) rfl (fun ls hl => ?_)
  have L6 : ∀ (k : Nat) (q hs : Int) (Sa : St) (G : Int → Int) (H : Heap) (locs : List Loc) (ls : Array Slot), (f ≤ q ∧ q ≤ t) → (wvG S x r G f q) → (∀ (a1 b1 : Nat) (i1 : Int), Sa a1 b1 i1 = wvF S x r G f q a1 b1 i1) → (hs = 1 ∨ (hs = 0 ∧ q < t ∧ gvM Sa (S 0 25 (240 * x + 10 * q + r)) = -1)) → t - q + hs < (k : Int) → pic g base ad Sa H → va_S (fun q => base ≤ q) s.heap H locs → lv_has ls 9 [(6, .int (i32 (hs))), (5, .int (i32 (q))), (0, .ref (ad 0 0)), (1, .int (i32 (x))), (2, .int (i32 (r))), (3, .int (i32 (f))), (4, .int (i32 (t)))] → W p l e ({ frames := 1, cells := 0, slots := 0, locals := 23 } : Room) s m av below meth cz H locs 0 0 Qm (F0 m 6 ls []) := by
    intro k
    induction k with
    | zero => intro q hs Sa G H locs ls zc zG zS zh hmu _ _ _; exact absurd hmu (by rcases zh with h | h <;> omega)
    | succ k ih6 =>
      intro q hs Sa G H locs ls zc zG zS zh hmu hP hS hl
      have aSa_0 : Sa 0 0 (-1) = 1 := by rw [zS, wvF_o _ _ _ _ _ _ (by decide)]; exact hw.al
      have wSa : wM Sa := wM.keep hw (fun r j h => by unfold wrow at h; rw [zS, wvF_o _ _ _ _ _ _ (by omega)])
      have rSa : ∀ (a1 b1 : Nat) (i1 : Int), rng (Sa a1 b1 i1) := fun a1 b1 i1 => hP.rg a1 b1 i1
      refine lv_iload hx hb dX4_weaves_6 (lv_at hl 1 rfl) ?_
      refine lv_iload hx hb dX4_weaves_8 (lv_at hl 6 rfl) ?_
      refine q_icmp_ge (tgt := 93) hx hb ⟨by omega, by omega⟩ ⟨by omega, by omega⟩ dX4_weaves_10 (by decide) (fun c_1 => ?_) (fun c_1 => ?_)
      · -- t ≤ q
        refine lv_iload_n hx hb dX4_weaves_93 rfl (lv_at hl 5 rfl) ?_
        refine lv_istore (lv' := [(7, .int (i32 (f))), (6, .int (i32 (hs))), (5, .int (i32 (q))), (0, .ref (ad 0 0)), (1, .int (i32 (x))), (2, .int (i32 (r))), (3, .int (i32 (f))), (4, .int (i32 (t)))]) hx hb dX4_weaves_94 hl (by decide) rfl (fun ls hl => ?_)
        have L96 : ∀ (k : Nat) (n : Int) (Sb : St) (H : Heap) (locs : List Loc) (ls : Array Slot), (f ≤ n ∧ n ≤ q) → (∀ (a1 b1 : Nat) (i1 : Int), Sb a1 b1 i1 = wvF S x r G n q a1 b1 i1) → (hs ≠ 0 → n = f) → q - n < (k : Int) → pic g base ad Sb H → va_S (fun q => base ≤ q) s.heap H locs → lv_has ls 9 [(7, .int (i32 (n))), (6, .int (i32 (hs))), (5, .int (i32 (q))), (0, .ref (ad 0 0)), (1, .int (i32 (x))), (2, .int (i32 (r))), (3, .int (i32 (f))), (4, .int (i32 (t)))] → W p l e ({ frames := 1, cells := 0, slots := 0, locals := 23 } : Room) s m av below meth cz H locs 0 0 Qm (F0 m 96 ls []) := by
          intro k
          induction k with
          | zero => intro n Sb H locs ls zn zT zk hmu _ _ _; exact absurd hmu (by omega)
          | succ k ih96 =>
            intro n Sb H locs ls zn zT zk hmu hP hS hl
            have aSb_0 : Sb 0 0 (-1) = 1 := by rw [zT, wvF_o _ _ _ _ _ _ (by decide)]; exact hw.al
            have wSb : wM Sb := wM.keep hw (fun r j h => by unfold wrow at h; rw [zT, wvF_o _ _ _ _ _ _ (by omega)])
            have rSb : ∀ (a1 b1 : Nat) (i1 : Int), rng (Sb a1 b1 i1) := fun a1 b1 i1 => hP.rg a1 b1 i1
            refine lv_iload hx hb dX4_weaves_96 (lv_at hl 0 rfl) ?_
            refine lv_iload hx hb dX4_weaves_98 (lv_at hl 2 rfl) ?_
            refine q_icmp_ge (tgt := 155) hx hb ⟨by omega, by omega⟩ ⟨by omega, by omega⟩ dX4_weaves_100 (by decide) (fun c_2 => ?_) (fun c_2 => ?_)
            · -- q ≤ n
              refine lv_iload hx hb dX4_weaves_155 (lv_at hl 1 rfl) ?_
              subst hQm
              exact q_zret hx hb hr hlocks hP hS (hs_z zh) (by exact wv_ret zc zG zS zh zn zT zk (by first | exact Or.inl (by assumption) | exact Or.inr (by assumption)) (by first | exact Or.inl (by assumption) | exact Or.inr (by assumption))) (by decide) (by decide) dX4_weaves_157
            · -- n < q
              refine lv_iload hx hb dX4_weaves_103 (lv_at hl 1 rfl) ?_
              refine q_if_ne (tgt := 155) hx hb (hs_r zh) dX4_weaves_105 (by decide) (fun c_3 => ?_) (fun c_3 => ?_)
              · -- hs ≠ 0
                refine lv_iload hx hb dX4_weaves_155 (lv_at hl 1 rfl) ?_
                subst hQm
                exact q_zret hx hb hr hlocks hP hS (hs_z zh) (by exact wv_ret zc zG zS zh zn zT zk (by first | exact Or.inl (by assumption) | exact Or.inr (by assumption)) (by first | exact Or.inl (by assumption) | exact Or.inr (by assumption))) (by decide) (by decide) dX4_weaves_157
              · -- hs = 0
                have y26 := wv_26 zT hrr (Int.le_refl n) (by omega)
                obtain ⟨hg1, hg2⟩ := wvG_b hw.lt zG (j := n) zn.1 (by omega)
                have y12 := wv_12 (j := G n) zT
                rw [cn_l G (G n) (by omega), b2_t rfl] at y12
                obtain ⟨hb1, hb2⟩ := cn_b G (G n) (n := n + 1) (c := q) (by omega)
                obtain ⟨hl1, hl2⟩ := hla (G n) hg1 hg2
                rw [← y26] at y12 hb1 hb2 hl1 hl2
                refine lv_iload_n hx hb dX4_weaves_108 rfl (lv_at hl 4 rfl) ?_
                refine lv_iload hx hb dX4_weaves_109 (lv_at hl 0 rfl) ?_
                refine lv_iload_n hx hb dX4_weaves_111 rfl (lv_at hl 5 rfl) ?_
                refine q_callS hx hb hml hl.1 hown hK hZ hP hS (c_X4_at l g base ad Sb x n r ) t_841 (q_callB hK 840 36 842 t_840 t_36 t_842 f_yX4_at ⟨by decide, by decide⟩) rfl rfl (Nat.le_of_ble_eq_true rfl) dX4_weaves_112 ⟨by decide, by decide⟩  (q_an (fun H locs hP hS => ?_))
                refine lv_istore (lv' := [(8, .int (i32 (240 * x + 10 * n + r))), (7, .int (i32 (n))), (6, .int (i32 (hs))), (5, .int (i32 (q))), (0, .ref (ad 0 0)), (1, .int (i32 (x))), (2, .int (i32 (r))), (3, .int (i32 (f))), (4, .int (i32 (t)))]) hx hb dX4_weaves_115 hl (by decide) rfl (fun ls hl => ?_)
                refine lv_aload_n hx hb dX4_weaves_117 rfl (lv_at hl 4 rfl) ?_
                refine p_get (k := 0) hx hb hown hK hP aSb_0 rfl rfl rfl (lay_X4 hK) 11 709 (by decide) t_709 rfl rfl dX4_weaves_118 ?_
                refine lv_aload_n hx hb dX4_weaves_121 rfl (lv_at hl 4 rfl) ?_
                refine p_get (k := 0) hx hb hown hK hP aSb_0 rfl rfl rfl (lay_X4 hK) 25 723 (by decide) t_723 rfl rfl dX4_weaves_122 ?_
                refine lv_iload hx hb dX4_weaves_125 (lv_at hl 0 rfl) ?_
                refine p_iald (k := 0) (r := 26) (n := 4800) hx hb hK hP aSb_0 rfl rfl (by decide) (by decide) (by omega) (by omega) dX4_weaves_127 ?_
                refine lv_dup2_11 hx hb dX4_weaves_128 rfl rfl ?_
                refine p_iald (k := 0) (r := 12) (n := 20) hx hb hK hP aSb_0 rfl rfl (by decide) (by decide) (by omega) (by omega) dX4_weaves_129 ?_
                refine lv_iconst (v := i32 (1)) hx hb dX4_weaves_130 rfl ?_
                refine q_iadd hx hb dX4_weaves_131 ?_
                refine p_iast (k := 0) (r := 12) (n := 20) hx hb hK hP hS aSb_0 rfl rfl (by decide) (by decide) (by omega) (by omega) ⟨by omega, by omega⟩ dX4_weaves_132 (fun H locs hP hS => ?_)
                generalize eS4 : st Sb 0 12 (Sb 0 26 (240 * x + 10 * n + r)) ((Sb 0 12 (Sb 0 26 (240 * x + 10 * n + r))) + 1) = S4 at hP
                have qS4 : ∀ (a1 b1 : Nat) (i1 : Int), S4 a1 b1 i1 = if a1 = 0 ∧ b1 = 12 ∧ i1 = Sb 0 26 (240 * x + 10 * n + r) then (Sb 0 12 (Sb 0 26 (240 * x + 10 * n + r))) + 1 else Sb a1 b1 i1 := fun a1 b1 i1 => by rw [← eS4]; exact st_at _ _ _ _ _ _ _ _
                have rS4 : ∀ (a1 b1 : Nat) (i1 : Int), rng (S4 a1 b1 i1) := fun a1 b1 i1 => hP.rg a1 b1 i1
                have aS4_0 : S4 0 0 (-1) = 1 := by rw [qS4, if_neg (by omega)]; exact aSb_0
                have wS4 : wM S4 := wM.keep wSb (fun r j h => by unfold wrow at h; rw [qS4, if_neg (by omega)])
                refine lv_aload_n hx hb dX4_weaves_133 rfl (lv_at hl 4 rfl) ?_
                refine p_get (k := 0) hx hb hown hK hP aS4_0 rfl rfl rfl (lay_X4 hK) 25 723 (by decide) t_723 rfl rfl dX4_weaves_134 ?_
                refine lv_iload hx hb dX4_weaves_137 (lv_at hl 0 rfl) ?_
                refine lv_iconst (v := i32 (-1)) hx hb dX4_weaves_139 rfl ?_
                refine p_iast (k := 0) (r := 26) (n := 4800) hx hb hK hP hS aS4_0 rfl rfl (by decide) (by decide) (by omega) (by omega) ⟨by decide, by decide⟩ dX4_weaves_140 (fun H locs hP hS => ?_)
                generalize eS5 : st S4 0 26 (240 * x + 10 * n + r) (-1) = S5 at hP
                have qS5 : ∀ (a1 b1 : Nat) (i1 : Int), S5 a1 b1 i1 = if a1 = 0 ∧ b1 = 26 ∧ i1 = 240 * x + 10 * n + r then -1 else S4 a1 b1 i1 := fun a1 b1 i1 => by rw [← eS5]; exact st_at _ _ _ _ _ _ _ _
                have rS5 : ∀ (a1 b1 : Nat) (i1 : Int), rng (S5 a1 b1 i1) := fun a1 b1 i1 => hP.rg a1 b1 i1
                have aS5_0 : S5 0 0 (-1) = 1 := by rw [qS5, if_neg (by omega)]; exact aS4_0
                have wS5 : wM S5 := wM.keep wS4 (fun r j h => by unfold wrow at h; rw [qS5, if_neg (by omega)])
                refine lv_aload_n hx hb dX4_weaves_141 rfl (lv_at hl 4 rfl) ?_
                refine p_get (k := 0) hx hb hown hK hP aS5_0 rfl rfl rfl (lay_X4 hK) 26 724 (by decide) t_724 rfl rfl dX4_weaves_142 ?_
                refine lv_iload hx hb dX4_weaves_145 (lv_at hl 0 rfl) ?_
                refine lv_iconst (v := i32 (0)) hx hb dX4_weaves_147 rfl ?_
                refine p_iast (k := 0) (r := 27) (n := 4800) hx hb hK hP hS aS5_0 rfl rfl (by decide) (by decide) (by omega) (by omega) ⟨by decide, by decide⟩ dX4_weaves_148 (fun H locs hP hS => ?_)
                generalize eS6 : st S5 0 27 (240 * x + 10 * n + r) 0 = S6 at hP
                have qS6 : ∀ (a1 b1 : Nat) (i1 : Int), S6 a1 b1 i1 = if a1 = 0 ∧ b1 = 27 ∧ i1 = 240 * x + 10 * n + r then 0 else S5 a1 b1 i1 := fun a1 b1 i1 => by rw [← eS6]; exact st_at _ _ _ _ _ _ _ _
                have rS6 : ∀ (a1 b1 : Nat) (i1 : Int), rng (S6 a1 b1 i1) := fun a1 b1 i1 => hP.rg a1 b1 i1
                have aS6_0 : S6 0 0 (-1) = 1 := by rw [qS6, if_neg (by omega)]; exact aS5_0
                have wS6 : wM S6 := wM.keep wS5 (fun r j h => by unfold wrow at h; rw [qS6, if_neg (by omega)])
                refine lv_iinc (v := i32 (n + 1)) (lv' := [(7, .int (i32 (n + 1))), (8, .int (i32 (240 * x + 10 * n + r))), (6, .int (i32 (hs))), (5, .int (i32 (q))), (0, .ref (ad 0 0)), (1, .int (i32 (x))), (2, .int (i32 (r))), (3, .int (i32 (f))), (4, .int (i32 (t)))]) hx hb dX4_weaves_149 hl (k := 1) rfl (i32_add _ _) (by decide) rfl (fun ls hl => ?_)
                refine lv_goto (tgt := 96) hx hb dX4_weaves_152 (by decide) ?_
                exact ih96 (n + 1) S6 _ _ _ (by omega) (by exact wv_u zT hrr (by omega) (hun n (by omega) (by omega)) qS4 qS5 qS6 (wv_26 zT hrr (Int.le_refl _) (by omega)).symm) (by exact fun h => absurd c_3 h) (by omega) hP hS (lv_sub hl [0, 2, 3, 4, 5, 6, 7, 8] rfl)
        exact L96 ((q - f) + 1).toNat f Sa _ _ _ (by omega) (by exact zS) (by exact fun _ => rfl) (by omega) hP hS (lv_sub hl [0, 1, 2, 3, 4, 5, 6, 7] rfl)
      · -- q < t
        refine lv_iload hx hb dX4_weaves_13 (lv_at hl 0 rfl) ?_
        refine q_if_eq (tgt := 93) hx hb (hs_r zh) dX4_weaves_15 (by decide) (fun c_7 => ?_) (fun c_7 => ?_)
        · -- hs = 0
          refine lv_iload_n hx hb dX4_weaves_93 rfl (lv_at hl 5 rfl) ?_
          refine lv_istore (lv' := [(7, .int (i32 (f))), (6, .int (i32 (hs))), (5, .int (i32 (q))), (0, .ref (ad 0 0)), (1, .int (i32 (x))), (2, .int (i32 (r))), (3, .int (i32 (f))), (4, .int (i32 (t)))]) hx hb dX4_weaves_94 hl (by decide) rfl (fun ls hl => ?_)
          have L96 : ∀ (k : Nat) (n : Int) (Sb : St) (H : Heap) (locs : List Loc) (ls : Array Slot), (f ≤ n ∧ n ≤ q) → (∀ (a1 b1 : Nat) (i1 : Int), Sb a1 b1 i1 = wvF S x r G n q a1 b1 i1) → (hs ≠ 0 → n = f) → q - n < (k : Int) → pic g base ad Sb H → va_S (fun q => base ≤ q) s.heap H locs → lv_has ls 9 [(7, .int (i32 (n))), (6, .int (i32 (hs))), (5, .int (i32 (q))), (0, .ref (ad 0 0)), (1, .int (i32 (x))), (2, .int (i32 (r))), (3, .int (i32 (f))), (4, .int (i32 (t)))] → W p l e ({ frames := 1, cells := 0, slots := 0, locals := 23 } : Room) s m av below meth cz H locs 0 0 Qm (F0 m 96 ls []) := by
            intro k
            induction k with
            | zero => intro n Sb H locs ls zn zT zk hmu _ _ _; exact absurd hmu (by omega)
            | succ k ih96 =>
              intro n Sb H locs ls zn zT zk hmu hP hS hl
              have aSb_0 : Sb 0 0 (-1) = 1 := by rw [zT, wvF_o _ _ _ _ _ _ (by decide)]; exact hw.al
              have wSb : wM Sb := wM.keep hw (fun r j h => by unfold wrow at h; rw [zT, wvF_o _ _ _ _ _ _ (by omega)])
              have rSb : ∀ (a1 b1 : Nat) (i1 : Int), rng (Sb a1 b1 i1) := fun a1 b1 i1 => hP.rg a1 b1 i1
              refine lv_iload hx hb dX4_weaves_96 (lv_at hl 0 rfl) ?_
              refine lv_iload hx hb dX4_weaves_98 (lv_at hl 2 rfl) ?_
              refine q_icmp_ge (tgt := 155) hx hb ⟨by omega, by omega⟩ ⟨by omega, by omega⟩ dX4_weaves_100 (by decide) (fun c_8 => ?_) (fun c_8 => ?_)
              · -- q ≤ n
                refine lv_iload hx hb dX4_weaves_155 (lv_at hl 1 rfl) ?_
                subst hQm
                exact q_zret hx hb hr hlocks hP hS (hs_z zh) (by exact wv_ret zc zG zS zh zn zT zk (by first | exact Or.inl (by assumption) | exact Or.inr (by assumption)) (by first | exact Or.inl (by assumption) | exact Or.inr (by assumption))) (by decide) (by decide) dX4_weaves_157
              · -- n < q
                refine lv_iload hx hb dX4_weaves_103 (lv_at hl 1 rfl) ?_
                refine q_if_ne (tgt := 155) hx hb (hs_r zh) dX4_weaves_105 (by decide) (fun h => by first | exact absurd c_7 h | exact absurd h c_7 | omega) (fun _ => ?_)
                have y26 := wv_26 zT hrr (Int.le_refl n) (by omega)
                obtain ⟨hg1, hg2⟩ := wvG_b hw.lt zG (j := n) zn.1 (by omega)
                have y12 := wv_12 (j := G n) zT
                rw [cn_l G (G n) (by omega), b2_t rfl] at y12
                obtain ⟨hb1, hb2⟩ := cn_b G (G n) (n := n + 1) (c := q) (by omega)
                obtain ⟨hl1, hl2⟩ := hla (G n) hg1 hg2
                rw [← y26] at y12 hb1 hb2 hl1 hl2
                refine lv_iload_n hx hb dX4_weaves_108 rfl (lv_at hl 4 rfl) ?_
                refine lv_iload hx hb dX4_weaves_109 (lv_at hl 0 rfl) ?_
                refine lv_iload_n hx hb dX4_weaves_111 rfl (lv_at hl 5 rfl) ?_
                refine q_callS hx hb hml hl.1 hown hK hZ hP hS (c_X4_at l g base ad Sb x n r ) t_841 (q_callB hK 840 36 842 t_840 t_36 t_842 f_yX4_at ⟨by decide, by decide⟩) rfl rfl (Nat.le_of_ble_eq_true rfl) dX4_weaves_112 ⟨by decide, by decide⟩  (q_an (fun H locs hP hS => ?_))
                refine lv_istore (lv' := [(8, .int (i32 (240 * x + 10 * n + r))), (7, .int (i32 (n))), (6, .int (i32 (hs))), (5, .int (i32 (q))), (0, .ref (ad 0 0)), (1, .int (i32 (x))), (2, .int (i32 (r))), (3, .int (i32 (f))), (4, .int (i32 (t)))]) hx hb dX4_weaves_115 hl (by decide) rfl (fun ls hl => ?_)
                refine lv_aload_n hx hb dX4_weaves_117 rfl (lv_at hl 4 rfl) ?_
                refine p_get (k := 0) hx hb hown hK hP aSb_0 rfl rfl rfl (lay_X4 hK) 11 709 (by decide) t_709 rfl rfl dX4_weaves_118 ?_
                refine lv_aload_n hx hb dX4_weaves_121 rfl (lv_at hl 4 rfl) ?_
                refine p_get (k := 0) hx hb hown hK hP aSb_0 rfl rfl rfl (lay_X4 hK) 25 723 (by decide) t_723 rfl rfl dX4_weaves_122 ?_
                refine lv_iload hx hb dX4_weaves_125 (lv_at hl 0 rfl) ?_
                refine p_iald (k := 0) (r := 26) (n := 4800) hx hb hK hP aSb_0 rfl rfl (by decide) (by decide) (by omega) (by omega) dX4_weaves_127 ?_
                refine lv_dup2_11 hx hb dX4_weaves_128 rfl rfl ?_
                refine p_iald (k := 0) (r := 12) (n := 20) hx hb hK hP aSb_0 rfl rfl (by decide) (by decide) (by omega) (by omega) dX4_weaves_129 ?_
                refine lv_iconst (v := i32 (1)) hx hb dX4_weaves_130 rfl ?_
                refine q_iadd hx hb dX4_weaves_131 ?_
                refine p_iast (k := 0) (r := 12) (n := 20) hx hb hK hP hS aSb_0 rfl rfl (by decide) (by decide) (by omega) (by omega) ⟨by omega, by omega⟩ dX4_weaves_132 (fun H locs hP hS => ?_)
                generalize eS9 : st Sb 0 12 (Sb 0 26 (240 * x + 10 * n + r)) ((Sb 0 12 (Sb 0 26 (240 * x + 10 * n + r))) + 1) = S9 at hP
                have qS9 : ∀ (a1 b1 : Nat) (i1 : Int), S9 a1 b1 i1 = if a1 = 0 ∧ b1 = 12 ∧ i1 = Sb 0 26 (240 * x + 10 * n + r) then (Sb 0 12 (Sb 0 26 (240 * x + 10 * n + r))) + 1 else Sb a1 b1 i1 := fun a1 b1 i1 => by rw [← eS9]; exact st_at _ _ _ _ _ _ _ _
                have rS9 : ∀ (a1 b1 : Nat) (i1 : Int), rng (S9 a1 b1 i1) := fun a1 b1 i1 => hP.rg a1 b1 i1
                have aS9_0 : S9 0 0 (-1) = 1 := by rw [qS9, if_neg (by omega)]; exact aSb_0
                have wS9 : wM S9 := wM.keep wSb (fun r j h => by unfold wrow at h; rw [qS9, if_neg (by omega)])
                refine lv_aload_n hx hb dX4_weaves_133 rfl (lv_at hl 4 rfl) ?_
                refine p_get (k := 0) hx hb hown hK hP aS9_0 rfl rfl rfl (lay_X4 hK) 25 723 (by decide) t_723 rfl rfl dX4_weaves_134 ?_
                refine lv_iload hx hb dX4_weaves_137 (lv_at hl 0 rfl) ?_
                refine lv_iconst (v := i32 (-1)) hx hb dX4_weaves_139 rfl ?_
                refine p_iast (k := 0) (r := 26) (n := 4800) hx hb hK hP hS aS9_0 rfl rfl (by decide) (by decide) (by omega) (by omega) ⟨by decide, by decide⟩ dX4_weaves_140 (fun H locs hP hS => ?_)
                generalize eS10 : st S9 0 26 (240 * x + 10 * n + r) (-1) = S10 at hP
                have qS10 : ∀ (a1 b1 : Nat) (i1 : Int), S10 a1 b1 i1 = if a1 = 0 ∧ b1 = 26 ∧ i1 = 240 * x + 10 * n + r then -1 else S9 a1 b1 i1 := fun a1 b1 i1 => by rw [← eS10]; exact st_at _ _ _ _ _ _ _ _
                have rS10 : ∀ (a1 b1 : Nat) (i1 : Int), rng (S10 a1 b1 i1) := fun a1 b1 i1 => hP.rg a1 b1 i1
                have aS10_0 : S10 0 0 (-1) = 1 := by rw [qS10, if_neg (by omega)]; exact aS9_0
                have wS10 : wM S10 := wM.keep wS9 (fun r j h => by unfold wrow at h; rw [qS10, if_neg (by omega)])
                refine lv_aload_n hx hb dX4_weaves_141 rfl (lv_at hl 4 rfl) ?_
                refine p_get (k := 0) hx hb hown hK hP aS10_0 rfl rfl rfl (lay_X4 hK) 26 724 (by decide) t_724 rfl rfl dX4_weaves_142 ?_
                refine lv_iload hx hb dX4_weaves_145 (lv_at hl 0 rfl) ?_
                refine lv_iconst (v := i32 (0)) hx hb dX4_weaves_147 rfl ?_
                refine p_iast (k := 0) (r := 27) (n := 4800) hx hb hK hP hS aS10_0 rfl rfl (by decide) (by decide) (by omega) (by omega) ⟨by decide, by decide⟩ dX4_weaves_148 (fun H locs hP hS => ?_)
                generalize eS11 : st S10 0 27 (240 * x + 10 * n + r) 0 = S11 at hP
                have qS11 : ∀ (a1 b1 : Nat) (i1 : Int), S11 a1 b1 i1 = if a1 = 0 ∧ b1 = 27 ∧ i1 = 240 * x + 10 * n + r then 0 else S10 a1 b1 i1 := fun a1 b1 i1 => by rw [← eS11]; exact st_at _ _ _ _ _ _ _ _
                have rS11 : ∀ (a1 b1 : Nat) (i1 : Int), rng (S11 a1 b1 i1) := fun a1 b1 i1 => hP.rg a1 b1 i1
                have aS11_0 : S11 0 0 (-1) = 1 := by rw [qS11, if_neg (by omega)]; exact aS10_0
                have wS11 : wM S11 := wM.keep wS10 (fun r j h => by unfold wrow at h; rw [qS11, if_neg (by omega)])
                refine lv_iinc (v := i32 (n + 1)) (lv' := [(7, .int (i32 (n + 1))), (8, .int (i32 (240 * x + 10 * n + r))), (6, .int (i32 (hs))), (5, .int (i32 (q))), (0, .ref (ad 0 0)), (1, .int (i32 (x))), (2, .int (i32 (r))), (3, .int (i32 (f))), (4, .int (i32 (t)))]) hx hb dX4_weaves_149 hl (k := 1) rfl (i32_add _ _) (by decide) rfl (fun ls hl => ?_)
                refine lv_goto (tgt := 96) hx hb dX4_weaves_152 (by decide) ?_
                exact ih96 (n + 1) S11 _ _ _ (by omega) (by exact wv_u zT hrr (by omega) (hun n (by omega) (by omega)) qS9 qS10 qS11 (wv_26 zT hrr (Int.le_refl _) (by omega)).symm) (by exact fun h => absurd c_7 h) (by omega) hP hS (lv_sub hl [0, 2, 3, 4, 5, 6, 7, 8] rfl)
          exact L96 ((q - f) + 1).toNat f Sa _ _ _ (by omega) (by exact zS) (by exact fun _ => rfl) (by omega) hP hS (lv_sub hl [0, 1, 2, 3, 4, 5, 6, 7] rfl)
        · -- hs ≠ 0
          refine lv_iload_n hx hb dX4_weaves_18 rfl (lv_at hl 3 rfl) ?_
          refine lv_iload hx hb dX4_weaves_19 (lv_at hl 1 rfl) ?_
          refine lv_iload_n hx hb dX4_weaves_21 rfl (lv_at hl 4 rfl) ?_
          refine q_callS hx hb hml hl.1 hown hK hZ hP hS (c_X4_at l g base ad Sa x q r ) t_841 (q_callB hK 840 36 842 t_840 t_36 t_842 f_yX4_at ⟨by decide, by decide⟩) rfl rfl (Nat.le_of_ble_eq_true rfl) dX4_weaves_22 ⟨by decide, by decide⟩  (q_an (fun H locs hP hS => ?_))
          refine lv_istore (lv' := [(7, .int (i32 (240 * x + 10 * q + r))), (6, .int (i32 (hs))), (5, .int (i32 (q))), (0, .ref (ad 0 0)), (1, .int (i32 (x))), (2, .int (i32 (r))), (3, .int (i32 (f))), (4, .int (i32 (t)))]) hx hb dX4_weaves_25 hl (by decide) rfl (fun ls hl => ?_)
          refine lv_aload_n hx hb dX4_weaves_27 rfl (lv_at hl 3 rfl) ?_
          refine lv_aload_n hx hb dX4_weaves_28 rfl (lv_at hl 3 rfl) ?_
          refine p_get (k := 0) hx hb hown hK hP aSa_0 rfl rfl rfl (lay_X4 hK) 24 722 (by decide) t_722 rfl rfl dX4_weaves_29 ?_
          refine lv_iload hx hb dX4_weaves_32 (lv_at hl 0 rfl) ?_
          refine p_iald (k := 0) (r := 25) (n := 4800) hx hb hK hP aSa_0 rfl rfl (by decide) (by decide) (by omega) (by omega) dX4_weaves_34 ?_
          refine q_nm (show Sa 0 25 (240 * x + 10 * q + r) = S 0 25 (240 * x + 10 * q + r) from by rw [zS, wvF_o _ _ _ _ _ _ (by decide)]) ?_
          refine q_callV (k := 0) hx hb hml hl.1 hown hK hZ hP hS aSa_0 rfl rfl rfl (c_X4_giver l g base ad Sa (S 0 25 (240 * x + 10 * q + r)) wSa (rS _ _ _)) t_873 t_22 (q_callB hK 871 36 874 t_871 t_36 t_874 f_yX4_giver ⟨by decide, by decide⟩) rfl rfl (Nat.le_of_ble_eq_true rfl) dX4_weaves_35 ⟨by decide, by decide⟩  (q_an (fun H locs hP hS => ?_))
          obtain ⟨hv8, hv9, hv10⟩ := gvM_b wSa.lt (S 0 25 (240 * x + 10 * q + r))
          refine lv_istore (lv' := [(8, .int (i32 (gvM Sa (S 0 25 (240 * x + 10 * q + r))))), (7, .int (i32 (240 * x + 10 * q + r))), (6, .int (i32 (hs))), (5, .int (i32 (q))), (0, .ref (ad 0 0)), (1, .int (i32 (x))), (2, .int (i32 (r))), (3, .int (i32 (f))), (4, .int (i32 (t)))]) hx hb dX4_weaves_38 hl (by decide) rfl (fun ls hl => ?_)
          refine lv_iload hx hb dX4_weaves_40 (lv_at hl 0 rfl) ?_
          refine lv_iconst (v := i32 (-1)) hx hb dX4_weaves_42 rfl ?_
          have J51 : ∀ (H : Heap) (locs : List Loc), pic g base ad Sa H → va_S (fun q => base ≤ q) s.heap H locs → W p l e ({ frames := 1, cells := 0, slots := 0, locals := 23 } : Room) s m av below meth cz H locs 0 0 Qm (F0 m 51 ls (Value.int (i32 (b2 (((gvM Sa (S 0 25 (240 * x + 10 * q + r))) ≠ (-1))))) :: [])) := by
            intro H locs hP hS
            refine lv_istore (lv' := [(6, .int (i32 (b2 (((gvM Sa (S 0 25 (240 * x + 10 * q + r))) ≠ (-1)))))), (8, .int (i32 (gvM Sa (S 0 25 (240 * x + 10 * q + r))))), (7, .int (i32 (240 * x + 10 * q + r))), (5, .int (i32 (q))), (0, .ref (ad 0 0)), (1, .int (i32 (x))), (2, .int (i32 (r))), (3, .int (i32 (f))), (4, .int (i32 (t)))]) hx hb dX4_weaves_51 hl (by decide) rfl (fun ls hl => ?_)
            refine lv_iload hx hb dX4_weaves_53 (lv_at hl 0 rfl) ?_
            refine q_if_eqb (tgt := 90) hx hb dX4_weaves_55 (by decide) (fun c_12 => ?_) (fun c_12 => ?_)
            · -- ¬ (((gvM Sa (S 0 25 (240 * x + 10 * q + r))) ≠ (-1)))
              refine lv_goto (tgt := 6) hx hb dX4_weaves_90 (by decide) ?_
              exact ih6 q (b2 (((gvM Sa (S 0 25 (240 * x + 10 * q + r))) ≠ (-1)))) Sa G _ _ _ (by omega) (by exact zG) (by exact zS) (by exact Or.inr ⟨b2_f c_12, by omega, Classical.not_not.mp c_12⟩) (by rw [b2_f c_12]; rcases zh with h | h <;> omega) hP hS (lv_sub hl [0, 3, 4, 5, 6, 7, 8] rfl)
            · -- ((gvM Sa (S 0 25 (240 * x + 10 * q + r))) ≠ (-1))
              obtain ⟨hv11, hv12, hv13⟩ := hv10 c_12
              refine lv_aload_n hx hb dX4_weaves_58 rfl (lv_at hl 4 rfl) ?_
              refine p_get (k := 0) hx hb hown hK hP aSa_0 rfl rfl rfl (lay_X4 hK) 11 709 (by decide) t_709 rfl rfl dX4_weaves_59 ?_
              refine lv_iload hx hb dX4_weaves_62 (lv_at hl 1 rfl) ?_
              refine lv_dup2_11 hx hb dX4_weaves_64 rfl rfl ?_
              refine p_iald (k := 0) (r := 12) (n := 20) hx hb hK hP aSa_0 rfl rfl (by decide) (by decide) (by omega) (by omega) dX4_weaves_65 ?_
              refine lv_iconst (v := i32 (1)) hx hb dX4_weaves_66 rfl ?_
              refine q_isub hx hb dX4_weaves_67 ?_
              refine p_iast (k := 0) (r := 12) (n := 20) hx hb hK hP hS aSa_0 rfl rfl (by decide) (by decide) (by omega) (by omega) (rng_m1 hv13 (rSa _ _ _)) dX4_weaves_68 (fun H locs hP hS => ?_)
              generalize eS13 : st Sa 0 12 (gvM Sa (S 0 25 (240 * x + 10 * q + r))) ((Sa 0 12 (gvM Sa (S 0 25 (240 * x + 10 * q + r)))) - 1) = S13 at hP
              have qS13 : ∀ (a1 b1 : Nat) (i1 : Int), S13 a1 b1 i1 = if a1 = 0 ∧ b1 = 12 ∧ i1 = gvM Sa (S 0 25 (240 * x + 10 * q + r)) then (Sa 0 12 (gvM Sa (S 0 25 (240 * x + 10 * q + r)))) - 1 else Sa a1 b1 i1 := fun a1 b1 i1 => by rw [← eS13]; exact st_at _ _ _ _ _ _ _ _
              have rS13 : ∀ (a1 b1 : Nat) (i1 : Int), rng (S13 a1 b1 i1) := fun a1 b1 i1 => hP.rg a1 b1 i1
              have aS13_0 : S13 0 0 (-1) = 1 := by rw [qS13, if_neg (by omega)]; exact aSa_0
              have wS13 : wM S13 := wM.keep wSa (fun r j h => by unfold wrow at h; rw [qS13, if_neg (by omega)])
              refine lv_aload_n hx hb dX4_weaves_69 rfl (lv_at hl 4 rfl) ?_
              refine p_get (k := 0) hx hb hown hK hP aS13_0 rfl rfl rfl (lay_X4 hK) 25 723 (by decide) t_723 rfl rfl dX4_weaves_70 ?_
              refine lv_iload hx hb dX4_weaves_73 (lv_at hl 2 rfl) ?_
              refine lv_iload hx hb dX4_weaves_75 (lv_at hl 1 rfl) ?_
              refine p_iast (k := 0) (r := 26) (n := 4800) hx hb hK hP hS aS13_0 rfl rfl (by decide) (by decide) (by omega) (by omega) ⟨by omega, by omega⟩ dX4_weaves_77 (fun H locs hP hS => ?_)
              generalize eS14 : st S13 0 26 (240 * x + 10 * q + r) (gvM Sa (S 0 25 (240 * x + 10 * q + r))) = S14 at hP
              have qS14 : ∀ (a1 b1 : Nat) (i1 : Int), S14 a1 b1 i1 = if a1 = 0 ∧ b1 = 26 ∧ i1 = 240 * x + 10 * q + r then gvM Sa (S 0 25 (240 * x + 10 * q + r)) else S13 a1 b1 i1 := fun a1 b1 i1 => by rw [← eS14]; exact st_at _ _ _ _ _ _ _ _
              have rS14 : ∀ (a1 b1 : Nat) (i1 : Int), rng (S14 a1 b1 i1) := fun a1 b1 i1 => hP.rg a1 b1 i1
              have aS14_0 : S14 0 0 (-1) = 1 := by rw [qS14, if_neg (by omega)]; exact aS13_0
              have wS14 : wM S14 := wM.keep wS13 (fun r j h => by unfold wrow at h; rw [qS14, if_neg (by omega)])
              refine lv_aload_n hx hb dX4_weaves_78 rfl (lv_at hl 4 rfl) ?_
              refine p_get (k := 0) hx hb hown hK hP aS14_0 rfl rfl rfl (lay_X4 hK) 26 724 (by decide) t_724 rfl rfl dX4_weaves_79 ?_
              refine lv_iload hx hb dX4_weaves_82 (lv_at hl 2 rfl) ?_
              refine lv_bipush (v := i32 (100)) hx hb dX4_weaves_84 (by decide) ?_
              refine p_iast (k := 0) (r := 27) (n := 4800) hx hb hK hP hS aS14_0 rfl rfl (by decide) (by decide) (by omega) (by omega) ⟨by decide, by decide⟩ dX4_weaves_86 (fun H locs hP hS => ?_)
              generalize eS15 : st S14 0 27 (240 * x + 10 * q + r) 100 = S15 at hP
              have qS15 : ∀ (a1 b1 : Nat) (i1 : Int), S15 a1 b1 i1 = if a1 = 0 ∧ b1 = 27 ∧ i1 = 240 * x + 10 * q + r then 100 else S14 a1 b1 i1 := fun a1 b1 i1 => by rw [← eS15]; exact st_at _ _ _ _ _ _ _ _
              have rS15 : ∀ (a1 b1 : Nat) (i1 : Int), rng (S15 a1 b1 i1) := fun a1 b1 i1 => hP.rg a1 b1 i1
              have aS15_0 : S15 0 0 (-1) = 1 := by rw [qS15, if_neg (by omega)]; exact aS14_0
              have wS15 : wM S15 := wM.keep wS14 (fun r j h => by unfold wrow at h; rw [qS15, if_neg (by omega)])
              refine lv_iinc (v := i32 (q + 1)) (lv' := [(5, .int (i32 (q + 1))), (6, .int (i32 (b2 (((gvM Sa (S 0 25 (240 * x + 10 * q + r))) ≠ (-1)))))), (8, .int (i32 (gvM Sa (S 0 25 (240 * x + 10 * q + r))))), (7, .int (i32 (240 * x + 10 * q + r))), (0, .ref (ad 0 0)), (1, .int (i32 (x))), (2, .int (i32 (r))), (3, .int (i32 (f))), (4, .int (i32 (t)))]) hx hb dX4_weaves_87 hl (k := 3) rfl (i32_add _ _) (by decide) rfl (fun ls hl => ?_)
              refine lv_goto (tgt := 6) hx hb dX4_weaves_90 (by decide) ?_
              obtain ⟨zG2, zS2⟩ := wvG_s hrr zG zc.1 zS rfl c_12
              exact ih6 (q + 1) (b2 (((gvM Sa (S 0 25 (240 * x + 10 * q + r))) ≠ (-1)))) S15 (fun j => if j = q then gvM Sa (S 0 25 (240 * x + 10 * q + r)) else G j) _ _ _ (by omega) (by exact zG2) (by exact wv_s zS2 hrr zc.1 qS13 qS14 qS15 (if_pos rfl)) (by exact Or.inl (b2_t c_12)) (by rw [b2_t c_12]; rcases zh with h | h <;> omega) hP hS (lv_sub hl [1, 0, 4, 5, 6, 7, 8] rfl)
          refine q_icmp_eq (tgt := 50) hx hb ⟨by omega, by omega⟩ ⟨by decide, by decide⟩ dX4_weaves_43 (by decide) (fun c_16 => ?_) (fun c_16 => ?_)
          · -- (gvM Sa (S 0 25 (240 * x + 10 * q + r))) = (-1)
            refine lv_iconst (v := i32 (0)) hx hb dX4_weaves_50 rfl ?_
            refine q_nm (b2_f (show ¬ (((gvM Sa (S 0 25 (240 * x + 10 * q + r))) ≠ (-1))) from by first | omega | (simp only [*]; done) | simp_all)).symm ?_
            exact J51 _ _ hP hS
          · -- (gvM Sa (S 0 25 (240 * x + 10 * q + r))) ≠ (-1)
            refine lv_iconst (v := i32 (1)) hx hb dX4_weaves_46 rfl ?_
            refine lv_goto (tgt := 51) hx hb dX4_weaves_47 (by decide) ?_
            refine q_nm (b2_t (show ((gvM Sa (S 0 25 (240 * x + 10 * q + r))) ≠ (-1)) from by first | omega | (simp only [*]; done) | simp_all)).symm ?_
            exact J51 _ _ hP hS
  exact L6 ((t - f + 1) + 1).toNat f 1 S (fun _ => 0) _ _ _ (by omega) (by exact fun j h0 h1 => absurd h1 (by omega)) (by intro a1 b1 i1; exact wv_0 S x r _ f a1 b1 i1) (by exact Or.inl rfl) (by omega) hP hS (lv_sub hl [0, 1, 2, 3, 4, 5, 6] rfl)
