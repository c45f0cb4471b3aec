section
theorem dX7_common_0 : decode cX7_common 0 = .ok (.lload_n 0, 1) := by decide +kernel
theorem dX7_common_1 : decode cX7_common 1 = .ok (.lconst 0, 1) := by decide +kernel
theorem dX7_common_2 : decode cX7_common 2 = .ok (.lcmp, 1) := by decide +kernel
theorem dX7_common_3 : decode cX7_common 3 = .ok (.ifCond .ge 8, 3) := by decide +kernel
theorem dX7_common_6 : decode cX7_common 6 = .ok (.lload_n 0, 1) := by decide +kernel
theorem dX7_common_7 : decode cX7_common 7 = .ok (.lneg, 1) := by decide +kernel
theorem dX7_common_8 : decode cX7_common 8 = .ok (.goto 4, 3) := by decide +kernel
theorem dX7_common_11 : decode cX7_common 11 = .ok (.lload_n 0, 1) := by decide +kernel
theorem dX7_common_12 : decode cX7_common 12 = .ok (.lstore 4, 2) := by decide +kernel
theorem dX7_common_14 : decode cX7_common 14 = .ok (.lload_n 2, 1) := by decide +kernel
theorem dX7_common_15 : decode cX7_common 15 = .ok (.lconst 0, 1) := by decide +kernel
theorem dX7_common_16 : decode cX7_common 16 = .ok (.lcmp, 1) := by decide +kernel
theorem dX7_common_17 : decode cX7_common 17 = .ok (.ifCond .ge 8, 3) := by decide +kernel
theorem dX7_common_20 : decode cX7_common 20 = .ok (.lload_n 2, 1) := by decide +kernel
theorem dX7_common_21 : decode cX7_common 21 = .ok (.lneg, 1) := by decide +kernel
theorem dX7_common_22 : decode cX7_common 22 = .ok (.goto 4, 3) := by decide +kernel
theorem dX7_common_25 : decode cX7_common 25 = .ok (.lload_n 2, 1) := by decide +kernel
theorem dX7_common_26 : decode cX7_common 26 = .ok (.lstore 6, 2) := by decide +kernel
theorem dX7_common_28 : decode cX7_common 28 = .ok (.lload 6, 2) := by decide +kernel
theorem dX7_common_30 : decode cX7_common 30 = .ok (.lconst 0, 1) := by decide +kernel
theorem dX7_common_31 : decode cX7_common 31 = .ok (.lcmp, 1) := by decide +kernel
theorem dX7_common_32 : decode cX7_common 32 = .ok (.ifCond .eq 21, 3) := by decide +kernel
theorem dX7_common_35 : decode cX7_common 35 = .ok (.lload 4, 2) := by decide +kernel
theorem dX7_common_37 : decode cX7_common 37 = .ok (.lload 6, 2) := by decide +kernel
theorem dX7_common_39 : decode cX7_common 39 = .ok (.lrem, 1) := by decide +kernel
theorem dX7_common_40 : decode cX7_common 40 = .ok (.lstore 8, 2) := by decide +kernel
theorem dX7_common_42 : decode cX7_common 42 = .ok (.lload 6, 2) := by decide +kernel
theorem dX7_common_44 : decode cX7_common 44 = .ok (.lstore 4, 2) := by decide +kernel
theorem dX7_common_46 : decode cX7_common 46 = .ok (.lload 8, 2) := by decide +kernel
theorem dX7_common_48 : decode cX7_common 48 = .ok (.lstore 6, 2) := by decide +kernel
theorem dX7_common_50 : decode cX7_common 50 = .ok (.goto (-22), 3) := by decide +kernel
theorem dX7_common_53 : decode cX7_common 53 = .ok (.lload 4, 2) := by decide +kernel
theorem dX7_common_55 : decode cX7_common 55 = .ok (.lreturn, 1) := by decide +kernel
set_option maxHeartbeats 4000000 in
set_option maxRecDepth 100000 in
theorem ct_X7_common (l : Launch) (D : va_G) (ce : Nat → ClassId) (a b : Int64)  : Ct l yX7_common cX7_common 10 (some .long) { frames := 0, cells := 0, slots := 0, locals := 0 } 0 0 D (TY ce) [.long a, .long b] ([]) (QL D (TY ce) (fun r w1 => ∃ r0 : Int64, r = r0 ∧ w1 = [] ∧ (cgE a b r0))) := by
  refine Ct.ofL (by decide) (Nat.le_of_ble_eq_true rfl) ?_
  intro p e s m args below meth c A Q hX hnm hR
  refine Z.pick (lv' := [(0, .long a), (2, .long b)]) [0, 1] rfl ?_
  have key_12 : ∀ (x : Int64), (hx1 : x = lab a) → Z p l e { frames := 0, cells := 0, slots := 0, locals := 0 } s m args below meth c D A 10 0 0 Q 12 [(0, .long a), (2, .long b)] [.long x] ([]) := by
    intro x hx1
    refine Z.lstore (lv' := [(4, .long x), (0, .long a), (2, .long b)]) hX dX7_common_12 (by decide) rfl ?_
    have key_26 : ∀ (y : Int64), (hy1 : y = lab b) → Z p l e { frames := 0, cells := 0, slots := 0, locals := 0 } s m args below meth c D A 10 0 0 Q 26 [(4, .long x)] [.long y] ([]) := by
      intro y hy1
      refine Z.lstore (lv' := [(6, .long y), (4, .long x)]) hX dX7_common_26 (by decide) rfl ?_
      have key_28 : ∀ (N : Nat), ∀ (x y : Int64), y.toInt.natAbs < N → (hi : cgI a b x y) → Z p l e { frames := 0, cells := 0, slots := 0, locals := 0 } s m args below meth c D A 10 0 0 Q 28 [(4, .long x), (6, .long y)] [] ([]) := by
        intro N
        induction N with
        | zero => intro x y hm; exact absurd hm (Nat.not_lt_zero _)
        | succ N ih_28 =>
          intro x y hm hi
          refine Z.lload hX dX7_common_28 rfl ?_
          refine Z.lconst (v := 0) hX dX7_common_30 rfl ?_
          refine Z.lcmp_eq hX 53 dX7_common_31 dX7_common_32 (by decide) ?_ ?_
          · intro c1
            refine Z.lload hX dX7_common_53 rfl ?_
            exact hR _ _ _ _ dX7_common_55 ⟨x, rfl, rfl, cgI_e (by assumption) hi⟩
          · intro c1
            refine Z.lload hX dX7_common_35 rfl ?_
            refine Z.lload hX dX7_common_37 rfl ?_
            refine Z.lrem hX dX7_common_39 (by assumption) ?_
            refine Z.lstore (lv' := [(8, .long (x - x / y * y)), (4, .long x), (6, .long y)]) hX dX7_common_40 (by decide) rfl ?_
            refine Z.lload hX dX7_common_42 rfl ?_
            refine Z.lstore (lv' := [(4, .long y), (8, .long (x - x / y * y)), (6, .long y)]) hX dX7_common_44 (by decide) rfl ?_
            refine Z.lload hX dX7_common_46 rfl ?_
            refine Z.lstore (lv' := [(6, .long (x - x / y * y)), (4, .long y), (8, .long (x - x / y * y))]) hX dX7_common_48 (by decide) rfl ?_
            refine Z.goto hX 28 dX7_common_50 (by decide) ?_
            refine Z.pick [1, 0] rfl ?_
            exact ih_28 _ _ (Nat.lt_of_lt_of_le (cg_dec (by assumption)) (Nat.le_of_lt_succ hm)) (cgI_s (by assumption) hi)
      refine Z.pick [1, 0] rfl ?_
      exact key_28 _ _ _ (Nat.lt_succ_self _) (by rw [hx1, hy1]; exact cgI_0 a b)
    refine Z.lload_n hX dX7_common_14 rfl rfl ?_
    refine Z.lconst (v := 0) hX dX7_common_15 rfl ?_
    refine Z.lcmp_ge hX 25 dX7_common_16 dX7_common_17 (by decide) ?_ ?_
    · intro c2
      refine Z.lload_n hX dX7_common_25 rfl rfl ?_
      refine Z.pick [0] rfl ?_
      exact key_26 _ (lab_pos (by assumption))
    · intro c2
      refine Z.lload_n hX dX7_common_20 rfl rfl ?_
      refine Z.lneg hX dX7_common_21 ?_
      refine Z.goto hX 26 dX7_common_22 (by decide) ?_
      refine Z.pick [0] rfl ?_
      exact key_26 _ (lab_neg (by assumption))
  refine Z.lload_n hX dX7_common_0 rfl rfl ?_
  refine Z.lconst (v := 0) hX dX7_common_1 rfl ?_
  refine Z.lcmp_ge hX 11 dX7_common_2 dX7_common_3 (by decide) ?_ ?_
  · intro c3
    refine Z.lload_n hX dX7_common_11 rfl rfl ?_
    refine Z.pick [0, 1] rfl ?_
    exact key_12 _ (lab_pos (by assumption))
  · intro c3
    refine Z.lload_n hX dX7_common_6 rfl rfl ?_
    refine Z.lneg hX dX7_common_7 ?_
    refine Z.goto hX 12 dX7_common_8 (by decide) ?_
    refine Z.pick [0, 1] rfl ?_
    exact key_12 _ (lab_neg (by assumption))

theorem dX7_degreeOf_0 : decode cX7_degreeOf 0 = .ok (.iconst 4, 1) := by decide +kernel
theorem dX7_degreeOf_1 : decode cX7_degreeOf 1 = .ok (.istore_n 1, 1) := by decide +kernel
theorem dX7_degreeOf_2 : decode cX7_degreeOf 2 = .ok (.iload_n 1, 1) := by decide +kernel
theorem dX7_degreeOf_3 : decode cX7_degreeOf 3 = .ok (.ifCond .lt 17, 3) := by decide +kernel
theorem dX7_degreeOf_6 : decode cX7_degreeOf 6 = .ok (.aload_n 0, 1) := by decide +kernel
theorem dX7_degreeOf_7 : decode cX7_degreeOf 7 = .ok (.iload_n 1, 1) := by decide +kernel
theorem dX7_degreeOf_8 : decode cX7_degreeOf 8 = .ok (.laload, 1) := by decide +kernel
theorem dX7_degreeOf_9 : decode cX7_degreeOf 9 = .ok (.lconst 0, 1) := by decide +kernel
theorem dX7_degreeOf_10 : decode cX7_degreeOf 10 = .ok (.lcmp, 1) := by decide +kernel
theorem dX7_degreeOf_11 : decode cX7_degreeOf 11 = .ok (.ifCond .ne 9, 3) := by decide +kernel
theorem dX7_degreeOf_14 : decode cX7_degreeOf 14 = .ok (.iinc 1 (-1), 3) := by decide +kernel
theorem dX7_degreeOf_17 : decode cX7_degreeOf 17 = .ok (.goto (-15), 3) := by decide +kernel
theorem dX7_degreeOf_20 : decode cX7_degreeOf 20 = .ok (.iload_n 1, 1) := by decide +kernel
theorem dX7_degreeOf_21 : decode cX7_degreeOf 21 = .ok (.ireturn, 1) := by decide +kernel
set_option maxHeartbeats 4000000 in
set_option maxRecDepth 100000 in
theorem ct_X7_degreeOf (l : Launch) (D : va_G) (ce : Nat → ClassId) (ad : Nat) (f : Nat → Int64)  : Ct l yX7_degreeOf cX7_degreeOf 2 (some .int) { frames := 0, cells := 0, slots := 0, locals := 0 } 0 0 D (TY ce) [.ref ad] ([(ad, .inl (ce 1, 5, .inr (.inl f)))]) (QI D (TY ce) (fun r w1 => ∃ z : Int, r = zI z ∧ w1 = [(ad, .inl (ce 1, 5, .inr (.inl f)))] ∧ (-1 ≤ z ∧ z ≤ 4) ∧ (∀ k : Int, z < k → k ≤ 4 → f k.toNat = 0) ∧ (0 ≤ z → f z.toNat ≠ 0))) := by
  refine Ct.ofI (by decide) (Nat.le_of_ble_eq_true rfl) ?_
  intro p e s m args below meth c A Q hX hnm hR
  refine Z.pick (lv' := [(0, .ref ad)]) [0] rfl ?_
  refine Z.iconst hX dX7_degreeOf_0 ?_
  refine Z.istore_n (lv' := [(1, .int (zI 4)), (0, .ref ad)]) hX dX7_degreeOf_1 rfl (by decide) rfl ?_
  have key_2 : ∀ (N : Nat), ∀ (z : Int), (z + 1).toNat < N → (h1 : -1 ≤ z ∧ z ≤ 4) → (h2 : ∀ k : Int, z < k → k ≤ 4 → f k.toNat = 0) → Z p l e { frames := 0, cells := 0, slots := 0, locals := 0 } s m args below meth c D A 2 0 0 Q 2 [(1, .int (zI z)), (0, .ref ad)] [] ([(ad, .inl (ce 1, 5, .inr (.inl f)))]) := by
    intro N
    induction N with
    | zero => intro z hm; exact absurd hm (Nat.not_lt_zero _)
    | succ N ih_2 =>
      intro z hm h1 h2
      refine Z.iload_n hX dX7_degreeOf_2 rfl rfl ?_
      refine Z.if_lt hX 20 dX7_degreeOf_3 (by decide) ⟨by omega, by omega⟩ ?_ ?_
      · intro c1
        refine Z.iload_n hX dX7_degreeOf_20 rfl rfl ?_
        exact hR _ _ _ _ dX7_degreeOf_21 ⟨z, rfl, rfl, h1, h2, (fun h => by first | omega | assumption)⟩
      · intro c1
        refine Z.aload_n hX dX7_degreeOf_6 rfl rfl ?_
        refine Z.iload_n hX dX7_degreeOf_7 rfl rfl ?_
        refine Z.laload hX 0 1 dX7_degreeOf_8 rfl rfl (by omega) (by omega) (by decide) ?_
        refine Z.lconst (v := 0) hX dX7_degreeOf_9 rfl ?_
        refine Z.lcmp_ne hX 20 dX7_degreeOf_10 dX7_degreeOf_11 (by decide) ?_ ?_
        · intro c2
          refine Z.iload_n hX dX7_degreeOf_20 rfl rfl ?_
          exact hR _ _ _ _ dX7_degreeOf_21 ⟨z, rfl, rfl, h1, h2, (fun h => by first | omega | assumption)⟩
        · intro c2
          refine Z.iinc (lv' := [(1, .int (zI (z + -1))), (0, .ref ad)]) hX dX7_degreeOf_14 rfl (by decide) rfl ?_
          refine Z.goto hX 2 dX7_degreeOf_17 (by decide) ?_
          refine Z.pick [0, 1] rfl ?_
          exact ih_2 _ (by omega) (by omega) (dg_ih h2 (by assumption))
  refine Z.pick [0, 1] rfl ?_
  exact key_2 _ _ (Nat.lt_succ_self _) (by omega) (fun k h3 h4 => by omega)

theorem dX7_isSort_0 : decode cX7_isSort 0 = .ok (.iload_n 0, 1) := by decide +kernel
theorem dX7_isSort_1 : decode cX7_isSort 1 = .ok (.ifCond .eq 8, 3) := by decide +kernel
theorem dX7_isSort_4 : decode cX7_isSort 4 = .ok (.iload_n 0, 1) := by decide +kernel
theorem dX7_isSort_5 : decode cX7_isSort 5 = .ok (.iconst 1, 1) := by decide +kernel
theorem dX7_isSort_6 : decode cX7_isSort 6 = .ok (.if_icmp .ne 7, 3) := by decide +kernel
theorem dX7_isSort_9 : decode cX7_isSort 9 = .ok (.iconst 1, 1) := by decide +kernel
theorem dX7_isSort_10 : decode cX7_isSort 10 = .ok (.goto 4, 3) := by decide +kernel
theorem dX7_isSort_13 : decode cX7_isSort 13 = .ok (.iconst 0, 1) := by decide +kernel
theorem dX7_isSort_14 : decode cX7_isSort 14 = .ok (.ireturn, 1) := by decide +kernel
set_option maxHeartbeats 4000000 in
set_option maxRecDepth 100000 in
theorem ct_X7_isSort (l : Launch) (D : va_G) (ce : Nat → ClassId) (a : Int) (ha : -2147483648 ≤ a ∧ a < 2147483648) : Ct l yX7_isSort cX7_isSort 1 (some .boolean) { frames := 0, cells := 0, slots := 0, locals := 0 } 0 0 D (TY ce) [.int (zI a)] ([]) (QI D (TY ce) (fun r w1 => ∃ z : Int, r = zI z ∧ w1 = [] ∧ ((z = 1 ∧ (a = 0 ∨ a = 1)) ∨ (z = 0 ∧ ¬ (a = 0 ∨ a = 1))))) := by
  refine Ct.ofB (by decide) (Nat.le_of_ble_eq_true rfl) ?_
  intro p e s m args below meth c A Q hX hnm hR
  refine Z.pick (lv' := [(0, .int (zI a))]) [0] rfl ?_
  refine Z.iload_n hX dX7_isSort_0 rfl rfl ?_
  refine Z.if_eq hX 9 dX7_isSort_1 (by decide) ⟨by omega, by omega⟩ ?_ ?_
  · intro c1
    refine Z.iconst hX dX7_isSort_9 ?_
    refine Z.goto hX 14 dX7_isSort_10 (by decide) ?_
    exact hR _ _ _ _ dX7_isSort_14 rfl ⟨1, rfl, rfl, (by omega)⟩
  · intro c1
    refine Z.iload_n hX dX7_isSort_4 rfl rfl ?_
    refine Z.iconst hX dX7_isSort_5 ?_
    refine Z.icmp_ne hX 13 dX7_isSort_6 (by decide) ⟨by omega, by omega⟩ ⟨by omega, by omega⟩ ?_ ?_
    · intro c2
      refine Z.iconst hX dX7_isSort_13 ?_
      exact hR _ _ _ _ dX7_isSort_14 rfl ⟨0, rfl, rfl, (by omega)⟩
    · intro c2
      refine Z.iconst hX dX7_isSort_9 ?_
      refine Z.goto hX 14 dX7_isSort_10 (by decide) ?_
      exact hR _ _ _ _ dX7_isSort_14 rfl ⟨1, rfl, rfl, (by omega)⟩

theorem dX7_isParameter_0 : decode cX7_isParameter 0 = .ok (.iload_n 0, 1) := by decide +kernel
theorem dX7_isParameter_1 : decode cX7_isParameter 1 = .ok (.bipush (-9), 2) := by decide +kernel
theorem dX7_isParameter_3 : decode cX7_isParameter 3 = .ok (.if_icmp .lt 33, 3) := by decide +kernel
theorem dX7_isParameter_6 : decode cX7_isParameter 6 = .ok (.iload_n 0, 1) := by decide +kernel
theorem dX7_isParameter_7 : decode cX7_isParameter 7 = .ok (.bipush 9, 2) := by decide +kernel
theorem dX7_isParameter_9 : decode cX7_isParameter 9 = .ok (.if_icmp .gt 27, 3) := by decide +kernel
theorem dX7_isParameter_12 : decode cX7_isParameter 12 = .ok (.iload_n 1, 1) := by decide +kernel
theorem dX7_isParameter_13 : decode cX7_isParameter 13 = .ok (.bipush (-9), 2) := by decide +kernel
theorem dX7_isParameter_15 : decode cX7_isParameter 15 = .ok (.if_icmp .lt 21, 3) := by decide +kernel
theorem dX7_isParameter_18 : decode cX7_isParameter 18 = .ok (.iload_n 1, 1) := by decide +kernel
theorem dX7_isParameter_19 : decode cX7_isParameter 19 = .ok (.bipush 9, 2) := by decide +kernel
theorem dX7_isParameter_21 : decode cX7_isParameter 21 = .ok (.if_icmp .gt 15, 3) := by decide +kernel
theorem dX7_isParameter_24 : decode cX7_isParameter 24 = .ok (.iload_n 0, 1) := by decide +kernel
theorem dX7_isParameter_25 : decode cX7_isParameter 25 = .ok (.ifCond .ne 7, 3) := by decide +kernel
theorem dX7_isParameter_28 : decode cX7_isParameter 28 = .ok (.iload_n 1, 1) := by decide +kernel
theorem dX7_isParameter_29 : decode cX7_isParameter 29 = .ok (.ifCond .eq 7, 3) := by decide +kernel
theorem dX7_isParameter_32 : decode cX7_isParameter 32 = .ok (.iconst 1, 1) := by decide +kernel
theorem dX7_isParameter_33 : decode cX7_isParameter 33 = .ok (.goto 4, 3) := by decide +kernel
theorem dX7_isParameter_36 : decode cX7_isParameter 36 = .ok (.iconst 0, 1) := by decide +kernel
theorem dX7_isParameter_37 : decode cX7_isParameter 37 = .ok (.ireturn, 1) := by decide +kernel
set_option maxHeartbeats 4000000 in
set_option maxRecDepth 100000 in
theorem ct_X7_isParameter (l : Launch) (D : va_G) (ce : Nat → ClassId) (a b : Int) (ha : -2147483648 ≤ a ∧ a < 2147483648) (hb : -2147483648 ≤ b ∧ b < 2147483648) : Ct l yX7_isParameter cX7_isParameter 2 (some .boolean) { frames := 0, cells := 0, slots := 0, locals := 0 } 0 0 D (TY ce) [.int (zI a), .int (zI b)] ([]) (QI D (TY ce) (fun r w1 => ∃ z : Int, r = zI z ∧ w1 = [] ∧ ((z = 1 ∧ (-9 ≤ a ∧ a ≤ 9 ∧ -9 ≤ b ∧ b ≤ 9 ∧ ¬ (a = 0 ∧ b = 0))) ∨ (z = 0 ∧ ¬ (-9 ≤ a ∧ a ≤ 9 ∧ -9 ≤ b ∧ b ≤ 9 ∧ ¬ (a = 0 ∧ b = 0)))))) := by
  refine Ct.ofB (by decide) (Nat.le_of_ble_eq_true rfl) ?_
  intro p e s m args below meth c A Q hX hnm hR
  refine Z.pick (lv' := [(0, .int (zI a)), (1, .int (zI b))]) [0, 1] rfl ?_
  refine Z.iload_n hX dX7_isParameter_0 rfl rfl ?_
  refine Z.bipush hX dX7_isParameter_1 (by decide) ?_
  refine Z.icmp_lt hX 36 dX7_isParameter_3 (by decide) ⟨by omega, by omega⟩ ⟨by omega, by omega⟩ ?_ ?_
  · intro c1
    refine Z.iconst hX dX7_isParameter_36 ?_
    exact hR _ _ _ _ dX7_isParameter_37 rfl ⟨0, rfl, rfl, (by omega)⟩
  · intro c1
    refine Z.iload_n hX dX7_isParameter_6 rfl rfl ?_
    refine Z.bipush hX dX7_isParameter_7 (by decide) ?_
    refine Z.icmp_gt hX 36 dX7_isParameter_9 (by decide) ⟨by omega, by omega⟩ ⟨by omega, by omega⟩ ?_ ?_
    · intro c2
      refine Z.iconst hX dX7_isParameter_36 ?_
      exact hR _ _ _ _ dX7_isParameter_37 rfl ⟨0, rfl, rfl, (by omega)⟩
    · intro c2
      refine Z.iload_n hX dX7_isParameter_12 rfl rfl ?_
      refine Z.bipush hX dX7_isParameter_13 (by decide) ?_
      refine Z.icmp_lt hX 36 dX7_isParameter_15 (by decide) ⟨by omega, by omega⟩ ⟨by omega, by omega⟩ ?_ ?_
      · intro c3
        refine Z.iconst hX dX7_isParameter_36 ?_
        exact hR _ _ _ _ dX7_isParameter_37 rfl ⟨0, rfl, rfl, (by omega)⟩
      · intro c3
        refine Z.iload_n hX dX7_isParameter_18 rfl rfl ?_
        refine Z.bipush hX dX7_isParameter_19 (by decide) ?_
        refine Z.icmp_gt hX 36 dX7_isParameter_21 (by decide) ⟨by omega, by omega⟩ ⟨by omega, by omega⟩ ?_ ?_
        · intro c4
          refine Z.iconst hX dX7_isParameter_36 ?_
          exact hR _ _ _ _ dX7_isParameter_37 rfl ⟨0, rfl, rfl, (by omega)⟩
        · intro c4
          refine Z.iload_n hX dX7_isParameter_24 rfl rfl ?_
          refine Z.if_ne hX 32 dX7_isParameter_25 (by decide) ⟨by omega, by omega⟩ ?_ ?_
          · intro c5
            refine Z.iconst hX dX7_isParameter_32 ?_
            refine Z.goto hX 37 dX7_isParameter_33 (by decide) ?_
            exact hR _ _ _ _ dX7_isParameter_37 rfl ⟨1, rfl, rfl, (by omega)⟩
          · intro c5
            refine Z.iload_n hX dX7_isParameter_28 rfl rfl ?_
            refine Z.if_eq hX 36 dX7_isParameter_29 (by decide) ⟨by omega, by omega⟩ ?_ ?_
            · intro c6
              refine Z.iconst hX dX7_isParameter_36 ?_
              exact hR _ _ _ _ dX7_isParameter_37 rfl ⟨0, rfl, rfl, (by omega)⟩
            · intro c6
              refine Z.iconst hX dX7_isParameter_32 ?_
              refine Z.goto hX 37 dX7_isParameter_33 (by decide) ?_
              exact hR _ _ _ _ dX7_isParameter_37 rfl ⟨1, rfl, rfl, (by omega)⟩

theorem dX7_isPlace_0 : decode cX7_isPlace 0 = .ok (.iload_n 0, 1) := by decide +kernel
theorem dX7_isPlace_1 : decode cX7_isPlace 1 = .ok (.bipush (-20), 2) := by decide +kernel
theorem dX7_isPlace_3 : decode cX7_isPlace 3 = .ok (.if_icmp .lt 36, 3) := by decide +kernel
theorem dX7_isPlace_6 : decode cX7_isPlace 6 = .ok (.iload_n 0, 1) := by decide +kernel
theorem dX7_isPlace_7 : decode cX7_isPlace 7 = .ok (.bipush 20, 2) := by decide +kernel
theorem dX7_isPlace_9 : decode cX7_isPlace 9 = .ok (.if_icmp .gt 30, 3) := by decide +kernel
theorem dX7_isPlace_12 : decode cX7_isPlace 12 = .ok (.iload_n 1, 1) := by decide +kernel
theorem dX7_isPlace_13 : decode cX7_isPlace 13 = .ok (.bipush (-20), 2) := by decide +kernel
theorem dX7_isPlace_15 : decode cX7_isPlace 15 = .ok (.if_icmp .lt 24, 3) := by decide +kernel
theorem dX7_isPlace_18 : decode cX7_isPlace 18 = .ok (.iload_n 1, 1) := by decide +kernel
theorem dX7_isPlace_19 : decode cX7_isPlace 19 = .ok (.bipush 20, 2) := by decide +kernel
theorem dX7_isPlace_21 : decode cX7_isPlace 21 = .ok (.if_icmp .gt 18, 3) := by decide +kernel
theorem dX7_isPlace_24 : decode cX7_isPlace 24 = .ok (.iload_n 2, 1) := by decide +kernel
theorem dX7_isPlace_25 : decode cX7_isPlace 25 = .ok (.iconst 1, 1) := by decide +kernel
theorem dX7_isPlace_26 : decode cX7_isPlace 26 = .ok (.if_icmp .lt 13, 3) := by decide +kernel
theorem dX7_isPlace_29 : decode cX7_isPlace 29 = .ok (.iload_n 2, 1) := by decide +kernel
theorem dX7_isPlace_30 : decode cX7_isPlace 30 = .ok (.bipush 9, 2) := by decide +kernel
theorem dX7_isPlace_32 : decode cX7_isPlace 32 = .ok (.if_icmp .gt 7, 3) := by decide +kernel
theorem dX7_isPlace_35 : decode cX7_isPlace 35 = .ok (.iconst 1, 1) := by decide +kernel
theorem dX7_isPlace_36 : decode cX7_isPlace 36 = .ok (.goto 4, 3) := by decide +kernel
theorem dX7_isPlace_39 : decode cX7_isPlace 39 = .ok (.iconst 0, 1) := by decide +kernel
theorem dX7_isPlace_40 : decode cX7_isPlace 40 = .ok (.ireturn, 1) := by decide +kernel
set_option maxHeartbeats 4000000 in
set_option maxRecDepth 100000 in
theorem ct_X7_isPlace (l : Launch) (D : va_G) (ce : Nat → ClassId) (a b d : Int) (ha : -2147483648 ≤ a ∧ a < 2147483648) (hb : -2147483648 ≤ b ∧ b < 2147483648) (hd : -2147483648 ≤ d ∧ d < 2147483648) : Ct l yX7_isPlace cX7_isPlace 3 (some .boolean) { frames := 0, cells := 0, slots := 0, locals := 0 } 0 0 D (TY ce) [.int (zI a), .int (zI b), .int (zI d)] ([]) (QI D (TY ce) (fun r w1 => ∃ z : Int, r = zI z ∧ w1 = [] ∧ ((z = 1 ∧ (-20 ≤ a ∧ a ≤ 20 ∧ -20 ≤ b ∧ b ≤ 20 ∧ 1 ≤ d ∧ d ≤ 9)) ∨ (z = 0 ∧ ¬ (-20 ≤ a ∧ a ≤ 20 ∧ -20 ≤ b ∧ b ≤ 20 ∧ 1 ≤ d ∧ d ≤ 9))))) := by
  refine Ct.ofB (by decide) (Nat.le_of_ble_eq_true rfl) ?_
  intro p e s m args below meth c A Q hX hnm hR
  refine Z.pick (lv' := [(0, .int (zI a)), (1, .int (zI b)), (2, .int (zI d))]) [0, 1, 2] rfl ?_
  refine Z.iload_n hX dX7_isPlace_0 rfl rfl ?_
  refine Z.bipush hX dX7_isPlace_1 (by decide) ?_
  refine Z.icmp_lt hX 39 dX7_isPlace_3 (by decide) ⟨by omega, by omega⟩ ⟨by omega, by omega⟩ ?_ ?_
  · intro c1
    refine Z.iconst hX dX7_isPlace_39 ?_
    exact hR _ _ _ _ dX7_isPlace_40 rfl ⟨0, rfl, rfl, (by omega)⟩
  · intro c1
    refine Z.iload_n hX dX7_isPlace_6 rfl rfl ?_
    refine Z.bipush hX dX7_isPlace_7 (by decide) ?_
    refine Z.icmp_gt hX 39 dX7_isPlace_9 (by decide) ⟨by omega, by omega⟩ ⟨by omega, by omega⟩ ?_ ?_
    · intro c2
      refine Z.iconst hX dX7_isPlace_39 ?_
      exact hR _ _ _ _ dX7_isPlace_40 rfl ⟨0, rfl, rfl, (by omega)⟩
    · intro c2
      refine Z.iload_n hX dX7_isPlace_12 rfl rfl ?_
      refine Z.bipush hX dX7_isPlace_13 (by decide) ?_
      refine Z.icmp_lt hX 39 dX7_isPlace_15 (by decide) ⟨by omega, by omega⟩ ⟨by omega, by omega⟩ ?_ ?_
      · intro c3
        refine Z.iconst hX dX7_isPlace_39 ?_
        exact hR _ _ _ _ dX7_isPlace_40 rfl ⟨0, rfl, rfl, (by omega)⟩
      · intro c3
        refine Z.iload_n hX dX7_isPlace_18 rfl rfl ?_
        refine Z.bipush hX dX7_isPlace_19 (by decide) ?_
        refine Z.icmp_gt hX 39 dX7_isPlace_21 (by decide) ⟨by omega, by omega⟩ ⟨by omega, by omega⟩ ?_ ?_
        · intro c4
          refine Z.iconst hX dX7_isPlace_39 ?_
          exact hR _ _ _ _ dX7_isPlace_40 rfl ⟨0, rfl, rfl, (by omega)⟩
        · intro c4
          refine Z.iload_n hX dX7_isPlace_24 rfl rfl ?_
          refine Z.iconst hX dX7_isPlace_25 ?_
          refine Z.icmp_lt hX 39 dX7_isPlace_26 (by decide) ⟨by omega, by omega⟩ ⟨by omega, by omega⟩ ?_ ?_
          · intro c5
            refine Z.iconst hX dX7_isPlace_39 ?_
            exact hR _ _ _ _ dX7_isPlace_40 rfl ⟨0, rfl, rfl, (by omega)⟩
          · intro c5
            refine Z.iload_n hX dX7_isPlace_29 rfl rfl ?_
            refine Z.bipush hX dX7_isPlace_30 (by decide) ?_
            refine Z.icmp_gt hX 39 dX7_isPlace_32 (by decide) ⟨by omega, by omega⟩ ⟨by omega, by omega⟩ ?_ ?_
            · intro c6
              refine Z.iconst hX dX7_isPlace_39 ?_
              exact hR _ _ _ _ dX7_isPlace_40 rfl ⟨0, rfl, rfl, (by omega)⟩
            · intro c6
              refine Z.iconst hX dX7_isPlace_35 ?_
              refine Z.goto hX 40 dX7_isPlace_36 (by decide) ?_
              exact hR _ _ _ _ dX7_isPlace_40 rfl ⟨1, rfl, rfl, (by omega)⟩

theorem dX7_raised_0 : decode cX7_raised 0 = .ok (.lconst 1, 1) := by decide +kernel
theorem dX7_raised_1 : decode cX7_raised 1 = .ok (.lstore_n 3, 1) := by decide +kernel
theorem dX7_raised_2 : decode cX7_raised 2 = .ok (.iconst 0, 1) := by decide +kernel
theorem dX7_raised_3 : decode cX7_raised 3 = .ok (.istore 5, 2) := by decide +kernel
theorem dX7_raised_5 : decode cX7_raised 5 = .ok (.iload 5, 2) := by decide +kernel
theorem dX7_raised_7 : decode cX7_raised 7 = .ok (.iload_n 2, 1) := by decide +kernel
theorem dX7_raised_8 : decode cX7_raised 8 = .ok (.if_icmp .ge 13, 3) := by decide +kernel
theorem dX7_raised_11 : decode cX7_raised 11 = .ok (.lload_n 3, 1) := by decide +kernel
theorem dX7_raised_12 : decode cX7_raised 12 = .ok (.lload_n 0, 1) := by decide +kernel
theorem dX7_raised_13 : decode cX7_raised 13 = .ok (.lmul, 1) := by decide +kernel
theorem dX7_raised_14 : decode cX7_raised 14 = .ok (.lstore_n 3, 1) := by decide +kernel
theorem dX7_raised_15 : decode cX7_raised 15 = .ok (.iinc 5 1, 3) := by decide +kernel
theorem dX7_raised_18 : decode cX7_raised 18 = .ok (.goto (-13), 3) := by decide +kernel
theorem dX7_raised_21 : decode cX7_raised 21 = .ok (.lload_n 3, 1) := by decide +kernel
theorem dX7_raised_22 : decode cX7_raised 22 = .ok (.lreturn, 1) := by decide +kernel
set_option maxHeartbeats 4000000 in
set_option maxRecDepth 100000 in
theorem ct_X7_raised (l : Launch) (D : va_G) (ce : Nat → ClassId) (b : Int64) (n : Int) (hn : -2147483648 ≤ n ∧ n < 2147483648) : Ct l yX7_raised cX7_raised 6 (some .long) { frames := 0, cells := 0, slots := 0, locals := 0 } 0 0 D (TY ce) [.long b, .int (zI n)] ([]) (QL D (TY ce) (fun r w1 => ∃ r0 : Int64, r = r0 ∧ w1 = [] ∧ (r0 = lpow b n.toNat))) := by
  refine Ct.ofL (by decide) (Nat.le_of_ble_eq_true rfl) ?_
  intro p e s m args below meth c A Q hX hnm hR
  refine Z.pick (lv' := [(0, .long b), (2, .int (zI n))]) [0, 1] rfl ?_
  refine Z.lconst (v := 1) hX dX7_raised_0 rfl ?_
  refine Z.lstore_n (lv' := [(3, .long 1), (0, .long b), (2, .int (zI n))]) hX dX7_raised_1 rfl (by decide) rfl ?_
  refine Z.iconst hX dX7_raised_2 ?_
  refine Z.istore (lv' := [(5, .int (zI 0)), (3, .long 1), (0, .long b), (2, .int (zI n))]) hX dX7_raised_3 (by decide) rfl ?_
  have key_5 : ∀ (N : Nat), ∀ (k : Int) (r : Int64), (n - k).toNat < N → (hk : 0 ≤ k ∧ (k ≤ n ∨ k = 0)) → (hr : r = lpow b k.toNat) → Z p l e { frames := 0, cells := 0, slots := 0, locals := 0 } s m args below meth c D A 6 0 0 Q 5 [(5, .int (zI k)), (3, .long r), (0, .long b), (2, .int (zI n))] [] ([]) := by
    intro N
    induction N with
    | zero => intro k r hm; exact absurd hm (Nat.not_lt_zero _)
    | succ N ih_5 =>
      intro k r hm hk hr
      refine Z.iload hX dX7_raised_5 rfl ?_
      refine Z.iload_n hX dX7_raised_7 rfl rfl ?_
      refine Z.icmp_ge hX 21 dX7_raised_8 (by decide) ⟨by omega, by omega⟩ ⟨by omega, by omega⟩ ?_ ?_
      · intro c1
        refine Z.lload_n hX dX7_raised_21 rfl rfl ?_
        exact hR _ _ _ _ dX7_raised_22 ⟨r, rfl, rfl, by rw [hr]; congr 1; omega⟩
      · intro c1
        refine Z.lload_n hX dX7_raised_11 rfl rfl ?_
        refine Z.lload_n hX dX7_raised_12 rfl rfl ?_
        refine Z.lmul hX dX7_raised_13 ?_
        refine Z.lstore_n (lv' := [(3, .long (r * b)), (5, .int (zI k)), (0, .long b), (2, .int (zI n))]) hX dX7_raised_14 rfl (by decide) rfl ?_
        refine Z.iinc (lv' := [(5, .int (zI (k + 1))), (3, .long (r * b)), (0, .long b), (2, .int (zI n))]) hX dX7_raised_15 rfl (by decide) rfl ?_
        refine Z.goto hX 5 dX7_raised_18 (by decide) ?_
        refine Z.pick [0, 1, 2, 3] rfl ?_
        exact ih_5 _ _ (by omega) (by omega) (by rw [hr]; exact lpow_s hk.1)
  refine Z.pick [0, 1, 2, 3] rfl ?_
  exact key_5 _ _ _ (Nat.lt_succ_self _) (by omega) rfl

theorem dX7_rest_0 : decode cX7_rest 0 = .ok (.lload_n 0, 1) := by decide +kernel
theorem dX7_rest_1 : decode cX7_rest 1 = .ok (.lload_n 2, 1) := by decide +kernel
theorem dX7_rest_2 : decode cX7_rest 2 = .ok (.lrem, 1) := by decide +kernel
theorem dX7_rest_3 : decode cX7_rest 3 = .ok (.lload_n 2, 1) := by decide +kernel
theorem dX7_rest_4 : decode cX7_rest 4 = .ok (.ladd, 1) := by decide +kernel
theorem dX7_rest_5 : decode cX7_rest 5 = .ok (.lload_n 2, 1) := by decide +kernel
theorem dX7_rest_6 : decode cX7_rest 6 = .ok (.lrem, 1) := by decide +kernel
theorem dX7_rest_7 : decode cX7_rest 7 = .ok (.lreturn, 1) := by decide +kernel
set_option maxHeartbeats 4000000 in
set_option maxRecDepth 100000 in
theorem ct_X7_rest (l : Launch) (D : va_G) (ce : Nat → ClassId) (v q : Int64) (hq : ¬ q = 0) : Ct l yX7_rest cX7_rest 4 (some .long) { frames := 0, cells := 0, slots := 0, locals := 0 } 0 0 D (TY ce) [.long v, .long q] ([]) (QL D (TY ce) (fun r w1 => ∃ r0 : Int64, r = r0 ∧ w1 = [])) := by
  refine Ct.ofL (by decide) (Nat.le_of_ble_eq_true rfl) ?_
  intro p e s m args below meth c A Q hX hnm hR
  refine Z.pick (lv' := [(0, .long v), (2, .long q)]) [0, 1] rfl ?_
  refine Z.lload_n hX dX7_rest_0 rfl rfl ?_
  refine Z.lload_n hX dX7_rest_1 rfl rfl ?_
  refine Z.lrem hX dX7_rest_2 (by assumption) ?_
  refine Z.lload_n hX dX7_rest_3 rfl rfl ?_
  refine Z.ladd hX dX7_rest_4 ?_
  refine Z.lload_n hX dX7_rest_5 rfl rfl ?_
  refine Z.lrem hX dX7_rest_6 (by assumption) ?_
  exact hR _ _ _ _ dX7_rest_7 ⟨(((v - v / q * q) + q) - ((v - v / q * q) + q) / q * q), rfl, rfl⟩

theorem dX7_countOf_0 : decode cX7_countOf 0 = .ok (.iconst 0, 1) := by decide +kernel
theorem dX7_countOf_1 : decode cX7_countOf 1 = .ok (.istore_n 1, 1) := by decide +kernel
theorem dX7_countOf_2 : decode cX7_countOf 2 = .ok (.iload_n 0, 1) := by decide +kernel
theorem dX7_countOf_3 : decode cX7_countOf 3 = .ok (.istore_n 2, 1) := by decide +kernel
theorem dX7_countOf_4 : decode cX7_countOf 4 = .ok (.iload_n 2, 1) := by decide +kernel
theorem dX7_countOf_5 : decode cX7_countOf 5 = .ok (.ifCond .eq 15, 3) := by decide +kernel
theorem dX7_countOf_8 : decode cX7_countOf 8 = .ok (.iinc 1 1, 3) := by decide +kernel
theorem dX7_countOf_11 : decode cX7_countOf 11 = .ok (.iload_n 2, 1) := by decide +kernel
theorem dX7_countOf_12 : decode cX7_countOf 12 = .ok (.iload_n 2, 1) := by decide +kernel
theorem dX7_countOf_13 : decode cX7_countOf 13 = .ok (.iconst 1, 1) := by decide +kernel
theorem dX7_countOf_14 : decode cX7_countOf 14 = .ok (.isub, 1) := by decide +kernel
theorem dX7_countOf_15 : decode cX7_countOf 15 = .ok (.iand, 1) := by decide +kernel
theorem dX7_countOf_16 : decode cX7_countOf 16 = .ok (.istore_n 2, 1) := by decide +kernel
theorem dX7_countOf_17 : decode cX7_countOf 17 = .ok (.goto (-13), 3) := by decide +kernel
theorem dX7_countOf_20 : decode cX7_countOf 20 = .ok (.iload_n 1, 1) := by decide +kernel
theorem dX7_countOf_21 : decode cX7_countOf 21 = .ok (.ireturn, 1) := by decide +kernel
set_option maxHeartbeats 4000000 in
set_option maxRecDepth 100000 in
theorem ct_X7_countOf (l : Launch) (D : va_G) (ce : Nat → ClassId) (a : Int) (ha : 0 ≤ a ∧ a < 256) : Ct l yX7_countOf cX7_countOf 3 (some .int) { frames := 0, cells := 0, slots := 0, locals := 0 } 0 0 D (TY ce) [.int (zI a)] ([]) (QI D (TY ce) (fun r w1 => ∃ z : Int, r = zI z ∧ w1 = [] ∧ (z = pc8 a.toNat))) := by
  refine Ct.ofI (by decide) (Nat.le_of_ble_eq_true rfl) ?_
  intro p e s m args below meth c A Q hX hnm hR
  refine Z.pick (lv' := [(0, .int (zI a))]) [0] rfl ?_
  refine Z.iconst hX dX7_countOf_0 ?_
  refine Z.istore_n (lv' := [(1, .int (zI 0)), (0, .int (zI a))]) hX dX7_countOf_1 rfl (by decide) rfl ?_
  refine Z.iload_n hX dX7_countOf_2 rfl rfl ?_
  refine Z.istore_n (lv' := [(2, .int (zI a)), (1, .int (zI 0)), (0, .int (zI a))]) hX dX7_countOf_3 rfl (by decide) rfl ?_
  have key_4 : ∀ (N : Nat), ∀ (t n : Int), t.toNat < N → (ht : 0 ≤ t ∧ t < 256) → (hn : n + pc8 t.toNat = pc8 a.toNat) → Z p l e { frames := 0, cells := 0, slots := 0, locals := 0 } s m args below meth c D A 3 0 0 Q 4 [(2, .int (zI t)), (1, .int (zI n))] [] ([]) := by
    intro N
    induction N with
    | zero => intro t n hm; exact absurd hm (Nat.not_lt_zero _)
    | succ N ih_4 =>
      intro t n hm ht hn
      refine Z.iload_n hX dX7_countOf_4 rfl rfl ?_
      refine Z.if_eq hX 20 dX7_countOf_5 (by decide) ⟨by omega, by omega⟩ ?_ ?_
      · intro c1
        refine Z.iload_n hX dX7_countOf_20 rfl rfl ?_
        exact hR _ _ _ _ dX7_countOf_21 ⟨n, rfl, rfl, pc8_e (by assumption) hn⟩
      · intro c1
        refine Z.iinc (lv' := [(1, .int (zI (n + 1))), (2, .int (zI t))]) hX dX7_countOf_8 rfl (by decide) rfl ?_
        refine Z.iload_n hX dX7_countOf_11 rfl rfl ?_
        refine Z.iload_n hX dX7_countOf_12 rfl rfl ?_
        refine Z.iconst hX dX7_countOf_13 ?_
        refine Z.isub hX dX7_countOf_14 ?_
        obtain ⟨t2, et2, ht1, ht2, ht3⟩ := pc8_s ht.1 ht.2 (by assumption)
        refine Z.iand hX dX7_countOf_15 ?_
        refine Z.vali (y := zI t2) et2 ?_
        refine Z.istore_n (lv' := [(2, .int (zI t2)), (1, .int (zI (n + 1)))]) hX dX7_countOf_16 rfl (by decide) rfl ?_
        refine Z.goto hX 4 dX7_countOf_17 (by decide) ?_
        refine Z.pick [0, 1] rfl ?_
        exact ih_4 _ _ (by omega) (by omega) (by omega)
  refine Z.pick [0, 1] rfl ?_
  exact key_4 _ _ _ (Nat.lt_succ_self _) (by omega) (by omega)

theorem dX7_isAbove_0 : decode cX7_isAbove 0 = .ok (.lconst 1, 1) := by decide +kernel
theorem dX7_isAbove_1 : decode cX7_isAbove 1 = .ok (.lstore 5, 2) := by decide +kernel
theorem dX7_isAbove_3 : decode cX7_isAbove 3 = .ok (.iconst 0, 1) := by decide +kernel
theorem dX7_isAbove_4 : decode cX7_isAbove 4 = .ok (.istore 7, 2) := by decide +kernel
theorem dX7_isAbove_6 : decode cX7_isAbove 6 = .ok (.iload 7, 2) := by decide +kernel
theorem dX7_isAbove_8 : decode cX7_isAbove 8 = .ok (.iload_n 2, 1) := by decide +kernel
theorem dX7_isAbove_9 : decode cX7_isAbove 9 = .ok (.if_icmp .ge 26, 3) := by decide +kernel
theorem dX7_isAbove_12 : decode cX7_isAbove 12 = .ok (.lload 5, 2) := by decide +kernel
theorem dX7_isAbove_14 : decode cX7_isAbove 14 = .ok (.lload_n 3, 1) := by decide +kernel
theorem dX7_isAbove_15 : decode cX7_isAbove 15 = .ok (.lload_n 0, 1) := by decide +kernel
theorem dX7_isAbove_16 : decode cX7_isAbove 16 = .ok (.ldiv, 1) := by decide +kernel
theorem dX7_isAbove_17 : decode cX7_isAbove 17 = .ok (.lcmp, 1) := by decide +kernel
theorem dX7_isAbove_18 : decode cX7_isAbove 18 = .ok (.ifCond .le 5, 3) := by decide +kernel
theorem dX7_isAbove_21 : decode cX7_isAbove 21 = .ok (.iconst 1, 1) := by decide +kernel
theorem dX7_isAbove_22 : decode cX7_isAbove 22 = .ok (.ireturn, 1) := by decide +kernel
theorem dX7_isAbove_23 : decode cX7_isAbove 23 = .ok (.lload 5, 2) := by decide +kernel
theorem dX7_isAbove_25 : decode cX7_isAbove 25 = .ok (.lload_n 0, 1) := by decide +kernel
theorem dX7_isAbove_26 : decode cX7_isAbove 26 = .ok (.lmul, 1) := by decide +kernel
theorem dX7_isAbove_27 : decode cX7_isAbove 27 = .ok (.lstore 5, 2) := by decide +kernel
theorem dX7_isAbove_29 : decode cX7_isAbove 29 = .ok (.iinc 7 1, 3) := by decide +kernel
theorem dX7_isAbove_32 : decode cX7_isAbove 32 = .ok (.goto (-26), 3) := by decide +kernel
theorem dX7_isAbove_35 : decode cX7_isAbove 35 = .ok (.lload 5, 2) := by decide +kernel
theorem dX7_isAbove_37 : decode cX7_isAbove 37 = .ok (.lload_n 3, 1) := by decide +kernel
theorem dX7_isAbove_38 : decode cX7_isAbove 38 = .ok (.lcmp, 1) := by decide +kernel
theorem dX7_isAbove_39 : decode cX7_isAbove 39 = .ok (.ifCond .le 7, 3) := by decide +kernel
theorem dX7_isAbove_42 : decode cX7_isAbove 42 = .ok (.iconst 1, 1) := by decide +kernel
theorem dX7_isAbove_43 : decode cX7_isAbove 43 = .ok (.goto 4, 3) := by decide +kernel
theorem dX7_isAbove_46 : decode cX7_isAbove 46 = .ok (.iconst 0, 1) := by decide +kernel
theorem dX7_isAbove_47 : decode cX7_isAbove 47 = .ok (.ireturn, 1) := by decide +kernel
set_option maxHeartbeats 4000000 in
set_option maxRecDepth 100000 in
theorem ct_X7_isAbove (l : Launch) (D : va_G) (ce : Nat → ClassId) (b : Int64) (k : Int) (v : Int64) (hb : 1 ≤ b.toInt) (hk : -2147483648 ≤ k ∧ k < 2147483648) : Ct l yX7_isAbove cX7_isAbove 8 (some .boolean) { frames := 0, cells := 0, slots := 0, locals := 0 } 0 0 D (TY ce) [.long b, .int (zI k), .long v] ([]) (QI D (TY ce) (fun r w1 => ∃ z : Int, r = zI z ∧ w1 = [] ∧ (z = 0 ∨ z = 1) ∧ (z = 0 → 0 ≤ k → b.toInt ^ k.toNat ≤ v.toInt))) := by
  refine Ct.ofB (by decide) (Nat.le_of_ble_eq_true rfl) ?_
  intro p e s m args below meth c A Q hX hnm hR
  refine Z.pick (lv' := [(0, .long b), (2, .int (zI k)), (3, .long v)]) [0, 1, 2] rfl ?_
  have hb0 : ¬ b = 0 := fun q => by rw [q] at hb; exact absurd hb (by decide)
  refine Z.lconst (v := 1) hX dX7_isAbove_0 rfl ?_
  refine Z.lstore (lv' := [(5, .long 1), (0, .long b), (2, .int (zI k)), (3, .long v)]) hX dX7_isAbove_1 (by decide) rfl ?_
  refine Z.iconst hX dX7_isAbove_3 ?_
  refine Z.istore (lv' := [(7, .int (zI 0)), (5, .long 1), (0, .long b), (2, .int (zI k)), (3, .long v)]) hX dX7_isAbove_4 (by decide) rfl ?_
  have key_6 : ∀ (N : Nat), ∀ (i : Int) (p0 : Int64), (k - i).toNat < N → (hi : 0 ≤ i ∧ (i ≤ k ∨ i = 0)) → (hp : abI b v p0 i) → Z p l e { frames := 0, cells := 0, slots := 0, locals := 0 } s m args below meth c D A 8 0 0 Q 6 [(7, .int (zI i)), (5, .long p0), (0, .long b), (2, .int (zI k)), (3, .long v)] [] ([]) := by
    intro N
    induction N with
    | zero => intro i p0 hm; exact absurd hm (Nat.not_lt_zero _)
    | succ N ih_6 =>
      intro i p0 hm hi hp
      refine Z.iload hX dX7_isAbove_6 rfl ?_
      refine Z.iload_n hX dX7_isAbove_8 rfl rfl ?_
      refine Z.icmp_ge hX 35 dX7_isAbove_9 (by decide) ⟨by omega, by omega⟩ ⟨by omega, by omega⟩ ?_ ?_
      · intro c1
        refine Z.lload hX dX7_isAbove_35 rfl ?_
        refine Z.lload_n hX dX7_isAbove_37 rfl rfl ?_
        refine Z.lcmp_le hX 46 dX7_isAbove_38 dX7_isAbove_39 (by decide) ?_ ?_
        · intro c2
          refine Z.iconst hX dX7_isAbove_46 ?_
          exact hR _ _ _ _ dX7_isAbove_47 rfl ⟨0, rfl, rfl, (by omega), (fun _ hk0 => abI_e hp (by omega) (by assumption))⟩
        · intro c2
          refine Z.iconst hX dX7_isAbove_42 ?_
          refine Z.goto hX 47 dX7_isAbove_43 (by decide) ?_
          exact hR _ _ _ _ dX7_isAbove_47 rfl ⟨1, rfl, rfl, (by omega), (fun h => absurd h (by omega))⟩
      · intro c1
        refine Z.lload hX dX7_isAbove_12 rfl ?_
        refine Z.lload_n hX dX7_isAbove_14 rfl rfl ?_
        refine Z.lload_n hX dX7_isAbove_15 rfl rfl ?_
        refine Z.ldiv hX dX7_isAbove_16 (by assumption) ?_
        refine Z.lcmp_le hX 23 dX7_isAbove_17 dX7_isAbove_18 (by decide) ?_ ?_
        · intro c3
          refine Z.lload hX dX7_isAbove_23 rfl ?_
          refine Z.lload_n hX dX7_isAbove_25 rfl rfl ?_
          refine Z.lmul hX dX7_isAbove_26 ?_
          refine Z.lstore (lv' := [(5, .long (p0 * b)), (7, .int (zI i)), (0, .long b), (2, .int (zI k)), (3, .long v)]) hX dX7_isAbove_27 (by decide) rfl ?_
          refine Z.iinc (lv' := [(7, .int (zI (i + 1))), (5, .long (p0 * b)), (0, .long b), (2, .int (zI k)), (3, .long v)]) hX dX7_isAbove_29 rfl (by decide) rfl ?_
          refine Z.goto hX 6 dX7_isAbove_32 (by decide) ?_
          refine Z.pick [0, 1, 2, 3, 4] rfl ?_
          exact ih_6 _ _ (by omega) (by omega) (abI_s hb hi.1 hp (by assumption))
        · intro c3
          refine Z.iconst hX dX7_isAbove_21 ?_
          exact hR _ _ _ _ dX7_isAbove_22 rfl ⟨1, rfl, rfl, (by omega), (fun h => absurd h (by omega))⟩
  refine Z.pick [0, 1, 2, 3, 4] rfl ?_
  exact key_6 _ _ _ (Nat.lt_succ_self _) (by omega) (abI_0 b v)

theorem dX7_rootOf_0 : decode cX7_rootOf 0 = .ok (.lconst 1, 1) := by decide +kernel
theorem dX7_rootOf_1 : decode cX7_rootOf 1 = .ok (.lstore_n 3, 1) := by decide +kernel
theorem dX7_rootOf_2 : decode cX7_rootOf 2 = .ok (.ldc2_w 115, 3) := by decide +kernel
theorem dX7_rootOf_5 : decode cX7_rootOf 5 = .ok (.lstore 5, 2) := by decide +kernel
theorem dX7_rootOf_7 : decode cX7_rootOf 7 = .ok (.lload_n 3, 1) := by decide +kernel
theorem dX7_rootOf_8 : decode cX7_rootOf 8 = .ok (.lload 5, 2) := by decide +kernel
theorem dX7_rootOf_10 : decode cX7_rootOf 10 = .ok (.lcmp, 1) := by decide +kernel
theorem dX7_rootOf_11 : decode cX7_rootOf 11 = .ok (.ifCond .ge 40, 3) := by decide +kernel
theorem dX7_rootOf_14 : decode cX7_rootOf 14 = .ok (.lload_n 3, 1) := by decide +kernel
theorem dX7_rootOf_15 : decode cX7_rootOf 15 = .ok (.lload 5, 2) := by decide +kernel
theorem dX7_rootOf_17 : decode cX7_rootOf 17 = .ok (.ladd, 1) := by decide +kernel
theorem dX7_rootOf_18 : decode cX7_rootOf 18 = .ok (.lconst 1, 1) := by decide +kernel
theorem dX7_rootOf_19 : decode cX7_rootOf 19 = .ok (.ladd, 1) := by decide +kernel
theorem dX7_rootOf_20 : decode cX7_rootOf 20 = .ok (.ldc2_w 117, 3) := by decide +kernel
theorem dX7_rootOf_23 : decode cX7_rootOf 23 = .ok (.ldiv, 1) := by decide +kernel
theorem dX7_rootOf_24 : decode cX7_rootOf 24 = .ok (.lstore 7, 2) := by decide +kernel
theorem dX7_rootOf_26 : decode cX7_rootOf 26 = .ok (.lload 7, 2) := by decide +kernel
theorem dX7_rootOf_28 : decode cX7_rootOf 28 = .ok (.iload_n 2, 1) := by decide +kernel
theorem dX7_rootOf_29 : decode cX7_rootOf 29 = .ok (.lload_n 0, 1) := by decide +kernel
theorem dX7_rootOf_30 : decode cX7_rootOf 30 = .ok (.invokestatic 119, 3) := by decide +kernel
theorem dX7_rootOf_33 : decode cX7_rootOf 33 = .ok (.ifCond .eq 12, 3) := by decide +kernel
theorem dX7_rootOf_36 : decode cX7_rootOf 36 = .ok (.lload 7, 2) := by decide +kernel
theorem dX7_rootOf_38 : decode cX7_rootOf 38 = .ok (.lconst 1, 1) := by decide +kernel
theorem dX7_rootOf_39 : decode cX7_rootOf 39 = .ok (.lsub, 1) := by decide +kernel
theorem dX7_rootOf_40 : decode cX7_rootOf 40 = .ok (.lstore 5, 2) := by decide +kernel
theorem dX7_rootOf_42 : decode cX7_rootOf 42 = .ok (.goto 6, 3) := by decide +kernel
theorem dX7_rootOf_45 : decode cX7_rootOf 45 = .ok (.lload 7, 2) := by decide +kernel
theorem dX7_rootOf_47 : decode cX7_rootOf 47 = .ok (.lstore_n 3, 1) := by decide +kernel
theorem dX7_rootOf_48 : decode cX7_rootOf 48 = .ok (.goto (-41), 3) := by decide +kernel
theorem dX7_rootOf_51 : decode cX7_rootOf 51 = .ok (.lconst 1, 1) := by decide +kernel
theorem dX7_rootOf_52 : decode cX7_rootOf 52 = .ok (.lstore 7, 2) := by decide +kernel
theorem dX7_rootOf_54 : decode cX7_rootOf 54 = .ok (.iconst 0, 1) := by decide +kernel
theorem dX7_rootOf_55 : decode cX7_rootOf 55 = .ok (.istore 9, 2) := by decide +kernel
theorem dX7_rootOf_57 : decode cX7_rootOf 57 = .ok (.iload 9, 2) := by decide +kernel
theorem dX7_rootOf_59 : decode cX7_rootOf 59 = .ok (.iload_n 2, 1) := by decide +kernel
theorem dX7_rootOf_60 : decode cX7_rootOf 60 = .ok (.if_icmp .ge 15, 3) := by decide +kernel
theorem dX7_rootOf_63 : decode cX7_rootOf 63 = .ok (.lload 7, 2) := by decide +kernel
theorem dX7_rootOf_65 : decode cX7_rootOf 65 = .ok (.lload_n 3, 1) := by decide +kernel
theorem dX7_rootOf_66 : decode cX7_rootOf 66 = .ok (.lmul, 1) := by decide +kernel
theorem dX7_rootOf_67 : decode cX7_rootOf 67 = .ok (.lstore 7, 2) := by decide +kernel
theorem dX7_rootOf_69 : decode cX7_rootOf 69 = .ok (.iinc 9 1, 3) := by decide +kernel
theorem dX7_rootOf_72 : decode cX7_rootOf 72 = .ok (.goto (-15), 3) := by decide +kernel
theorem dX7_rootOf_75 : decode cX7_rootOf 75 = .ok (.lload 7, 2) := by decide +kernel
theorem dX7_rootOf_77 : decode cX7_rootOf 77 = .ok (.lload_n 0, 1) := by decide +kernel
theorem dX7_rootOf_78 : decode cX7_rootOf 78 = .ok (.lcmp, 1) := by decide +kernel
theorem dX7_rootOf_79 : decode cX7_rootOf 79 = .ok (.ifCond .ne 7, 3) := by decide +kernel
theorem dX7_rootOf_82 : decode cX7_rootOf 82 = .ok (.lload_n 3, 1) := by decide +kernel
theorem dX7_rootOf_83 : decode cX7_rootOf 83 = .ok (.goto 4, 3) := by decide +kernel
theorem dX7_rootOf_86 : decode cX7_rootOf 86 = .ok (.lconst 0, 1) := by decide +kernel
theorem dX7_rootOf_87 : decode cX7_rootOf 87 = .ok (.lreturn, 1) := by decide +kernel
set_option maxHeartbeats 4000000 in
set_option maxRecDepth 100000 in
theorem ct_X7_rootOf (l : Launch) (D : va_G) (ce : Nat → ClassId) (v : Int64) (k : Int) (hk : -2147483648 ≤ k ∧ k < 2147483648) (hk0 : 0 ≤ k) : Ct l yX7_rootOf cX7_rootOf 10 (some .long) { frames := 1, cells := 0, slots := 0, locals := 27 } 0 0 D (TY ce) [.long v, .int (zI k)] ([]) (QL D (TY ce) (fun r w1 => ∃ r0 : Int64, r = r0 ∧ w1 = [] ∧ (r0 = 0 ∨ (1 ≤ r0.toInt ∧ r0.toInt ≤ 2000000000 ∧ r0.toInt ^ k.toNat ≤ v.toInt)))) := by
  refine Ct.ofL (by decide) (Nat.le_of_ble_eq_true rfl) ?_
  intro p e s m args below meth c A Q hX hnm hR
  refine Z.pick (lv' := [(0, .long v), (2, .int (zI k))]) [0, 1] rfl ?_
  refine Z.lconst (v := 1) hX dX7_rootOf_0 rfl ?_
  refine Z.vall (y := zL 1) rfl ?_
  refine Z.lstore_n (lv' := [(3, .long (zL 1)), (0, .long v), (2, .int (zI k))]) hX dX7_rootOf_1 rfl (by decide) rfl ?_
  refine Z.ldc2 hX dX7_rootOf_2 co_X7_115 ?_
  refine Z.vall (y := zL 2000000000) rfl ?_
  refine Z.lstore (lv' := [(5, .long (zL 2000000000)), (3, .long (zL 1)), (0, .long v), (2, .int (zI k))]) hX dX7_rootOf_5 (by decide) rfl ?_
  have key_7 : ∀ (N : Nat), ∀ (a b : Int), (b - a).toNat < N → (hab : 1 ≤ a ∧ a ≤ b ∧ b ≤ 2000000000) → (hv : a = 1 ∨ a ^ k.toNat ≤ v.toInt) → Z p l e { frames := 1, cells := 0, slots := 0, locals := 27 } s m args below meth c D A 10 0 0 Q 7 [(3, .long (zL a)), (5, .long (zL b)), (0, .long v), (2, .int (zI k))] [] ([]) := by
    intro N
    induction N with
    | zero => intro a b hm; exact absurd hm (Nat.not_lt_zero _)
    | succ N ih_7 =>
      intro a b hm hab hv
      refine Z.lload_n hX dX7_rootOf_7 rfl rfl ?_
      refine Z.lload hX dX7_rootOf_8 rfl ?_
      refine Z.lcmp_ge hX 51 dX7_rootOf_10 dX7_rootOf_11 (by decide) ?_ ?_
      · intro c1
        refine Z.lconst (v := 1) hX dX7_rootOf_51 rfl ?_
        refine Z.lstore (lv' := [(7, .long 1), (3, .long (zL a)), (5, .long (zL b)), (0, .long v), (2, .int (zI k))]) hX dX7_rootOf_52 (by decide) rfl ?_
        refine Z.iconst hX dX7_rootOf_54 ?_
        refine Z.istore (lv' := [(9, .int (zI 0)), (7, .long 1), (3, .long (zL a)), (5, .long (zL b)), (0, .long v), (2, .int (zI k))]) hX dX7_rootOf_55 (by decide) rfl ?_
        have key_57 : ∀ (N : Nat), ∀ (i : Int) (q : Int64), (k - i).toNat < N → (hi : 0 ≤ i ∧ (i ≤ k ∨ i = 0)) → (hq : q = lpow (zL a) i.toNat) → Z p l e { frames := 1, cells := 0, slots := 0, locals := 27 } s m args below meth c D A 10 0 0 Q 57 [(9, .int (zI i)), (7, .long q), (3, .long (zL a)), (0, .long v), (2, .int (zI k))] [] ([]) := by
          intro N
          induction N with
          | zero => intro i q hm; exact absurd hm (Nat.not_lt_zero _)
          | succ N ih_57 =>
            intro i q hm hi hq
            refine Z.iload hX dX7_rootOf_57 rfl ?_
            refine Z.iload_n hX dX7_rootOf_59 rfl rfl ?_
            refine Z.icmp_ge hX 75 dX7_rootOf_60 (by decide) ⟨by omega, by omega⟩ ⟨by omega, by omega⟩ ?_ ?_
            · intro c2
              refine Z.lload hX dX7_rootOf_75 rfl ?_
              refine Z.lload_n hX dX7_rootOf_77 rfl rfl ?_
              refine Z.lcmp_ne hX 86 dX7_rootOf_78 dX7_rootOf_79 (by decide) ?_ ?_
              · intro c3
                refine Z.lconst (v := 0) hX dX7_rootOf_86 rfl ?_
                exact hR _ _ _ _ dX7_rootOf_87 ⟨0, rfl, rfl, Or.inl rfl⟩
              · intro c3
                refine Z.lload_n hX dX7_rootOf_82 rfl rfl ?_
                refine Z.goto hX 87 dX7_rootOf_83 (by decide) ?_
                exact hR _ _ _ _ dX7_rootOf_87 ⟨(zL a), rfl, rfl, rt_end hab hv hq (by assumption)⟩
            · intro c2
              refine Z.lload hX dX7_rootOf_63 rfl ?_
              refine Z.lload_n hX dX7_rootOf_65 rfl rfl ?_
              refine Z.lmul hX dX7_rootOf_66 ?_
              refine Z.lstore (lv' := [(7, .long (q * (zL a))), (9, .int (zI i)), (3, .long (zL a)), (0, .long v), (2, .int (zI k))]) hX dX7_rootOf_67 (by decide) rfl ?_
              refine Z.iinc (lv' := [(9, .int (zI (i + 1))), (7, .long (q * (zL a))), (3, .long (zL a)), (0, .long v), (2, .int (zI k))]) hX dX7_rootOf_69 rfl (by decide) rfl ?_
              refine Z.goto hX 57 dX7_rootOf_72 (by decide) ?_
              refine Z.pick [0, 1, 2, 3, 4] rfl ?_
              exact ih_57 _ _ (by omega) (by omega) (by rw [hq]; exact lpow_s hi.1)
        refine Z.pick [0, 1, 2, 4, 5] rfl ?_
        exact key_57 _ _ _ (Nat.lt_succ_self _) (by omega) rfl
      · intro c1
        have hlt : a < b := zL_nle (by omega) (by omega) (by assumption)
        refine Z.lload_n hX dX7_rootOf_14 rfl rfl ?_
        refine Z.lload hX dX7_rootOf_15 rfl ?_
        refine Z.ladd hX dX7_rootOf_17 ?_
        refine Z.lconst (v := 1) hX dX7_rootOf_18 rfl ?_
        refine Z.ladd hX dX7_rootOf_19 ?_
        refine Z.ldc2 hX dX7_rootOf_20 co_X7_117 ?_
        refine Z.ldiv hX dX7_rootOf_23 (by decide) ?_
        refine Z.vall (y := zL ((a + b + 1) / 2)) (zL_mid hab) ?_
        refine Z.lstore (lv' := [(7, .long (zL ((a + b + 1) / 2))), (3, .long (zL a)), (5, .long (zL b)), (0, .long v), (2, .int (zI k))]) hX dX7_rootOf_24 (by decide) rfl ?_
        refine Z.lload hX dX7_rootOf_26 rfl ?_
        refine Z.iload_n hX dX7_rootOf_28 rfl rfl ?_
        refine Z.lload_n hX dX7_rootOf_29 rfl rfl ?_
        refine Z.callS0i (As := [.long (zL ((a + b + 1) / 2)), .int (zI k), .long v]) (rest := []) hX (ct_X7_isAbove l D ce (zL ((a + b + 1) / 2)) k v (by rw [zL_toInt (by omega) (by omega)]; omega) hk) mc_X7_isAbove ml_X7_119 st_X7_isAbove ini_X7 nd_X7_isAbove ⟨Nat.le_of_ble_eq_true rfl, Nat.le_of_ble_eq_true rfl⟩ ⟨rfl, rfl⟩ ⟨Nat.le_refl _, Nat.le_refl _⟩ rfl (Nat.le_of_ble_eq_true rfl) dX7_rootOf_30 ?_
        rintro r_4 w1 ⟨z5, hr_, hw_, hq6, hq7⟩
        subst hr_
        refine ⟨hw_, ?_⟩
        refine Z.if_eq hX 45 dX7_rootOf_33 (by decide) ⟨by omega, by omega⟩ ?_ ?_
        · intro c8
          refine Z.lload hX dX7_rootOf_45 rfl ?_
          refine Z.lstore_n (lv' := [(3, .long (zL ((a + b + 1) / 2))), (7, .long (zL ((a + b + 1) / 2))), (5, .long (zL b)), (0, .long v), (2, .int (zI k))]) hX dX7_rootOf_47 rfl (by decide) rfl ?_
          refine Z.goto hX 7 dX7_rootOf_48 (by decide) ?_
          refine Z.pick [0, 2, 3, 4] rfl ?_
          exact ih_7 _ _ (by omega) (by omega) (by first | exact hv | exact rt_mid hab (by apply_assumption <;> omega))
        · intro c8
          refine Z.lload hX dX7_rootOf_36 rfl ?_
          refine Z.lconst (v := 1) hX dX7_rootOf_38 rfl ?_
          refine Z.lsub hX dX7_rootOf_39 ?_
          refine Z.vall (y := zL ((a + b + 1) / 2 - 1)) (zL_sub _ 1) ?_
          refine Z.lstore (lv' := [(5, .long (zL ((a + b + 1) / 2 - 1))), (7, .long (zL ((a + b + 1) / 2))), (3, .long (zL a)), (0, .long v), (2, .int (zI k))]) hX dX7_rootOf_40 (by decide) rfl ?_
          refine Z.goto hX 48 dX7_rootOf_42 (by decide) ?_
          refine Z.goto hX 7 dX7_rootOf_48 (by decide) ?_
          refine Z.pick [2, 0, 3, 4] rfl ?_
          exact ih_7 _ _ (by omega) (by omega) (by first | exact hv | exact rt_mid hab (by apply_assumption <;> omega))
  refine Z.pick [1, 0, 2, 3] rfl ?_
  exact key_7 _ _ _ (Nat.lt_succ_self _) (by omega) (Or.inl rfl)
end
section
theorem dX7_reduce_0 : decode cX7_reduce 0 = .ok (.lconst 0, 1) := by decide +kernel
theorem dX7_reduce_1 : decode cX7_reduce 1 = .ok (.lstore_n 1, 1) := by decide +kernel
theorem dX7_reduce_2 : decode cX7_reduce 2 = .ok (.iconst 0, 1) := by decide +kernel
theorem dX7_reduce_3 : decode cX7_reduce 3 = .ok (.istore_n 3, 1) := by decide +kernel
theorem dX7_reduce_4 : decode cX7_reduce 4 = .ok (.iload_n 3, 1) := by decide +kernel
theorem dX7_reduce_5 : decode cX7_reduce 5 = .ok (.iconst 5, 1) := by decide +kernel
theorem dX7_reduce_6 : decode cX7_reduce 6 = .ok (.if_icmp .ge 17, 3) := by decide +kernel
theorem dX7_reduce_9 : decode cX7_reduce 9 = .ok (.lload_n 1, 1) := by decide +kernel
theorem dX7_reduce_10 : decode cX7_reduce 10 = .ok (.aload_n 0, 1) := by decide +kernel
theorem dX7_reduce_11 : decode cX7_reduce 11 = .ok (.iload_n 3, 1) := by decide +kernel
theorem dX7_reduce_12 : decode cX7_reduce 12 = .ok (.laload, 1) := by decide +kernel
theorem dX7_reduce_13 : decode cX7_reduce 13 = .ok (.invokestatic 58, 3) := by decide +kernel
theorem dX7_reduce_16 : decode cX7_reduce 16 = .ok (.lstore_n 1, 1) := by decide +kernel
theorem dX7_reduce_17 : decode cX7_reduce 17 = .ok (.iinc 3 1, 3) := by decide +kernel
theorem dX7_reduce_20 : decode cX7_reduce 20 = .ok (.goto (-16), 3) := by decide +kernel
theorem dX7_reduce_23 : decode cX7_reduce 23 = .ok (.aload_n 0, 1) := by decide +kernel
theorem dX7_reduce_24 : decode cX7_reduce 24 = .ok (.invokestatic 62, 3) := by decide +kernel
theorem dX7_reduce_27 : decode cX7_reduce 27 = .ok (.istore_n 3, 1) := by decide +kernel
theorem dX7_reduce_28 : decode cX7_reduce 28 = .ok (.iload_n 3, 1) := by decide +kernel
theorem dX7_reduce_29 : decode cX7_reduce 29 = .ok (.ifCond .lt 14, 3) := by decide +kernel
theorem dX7_reduce_32 : decode cX7_reduce 32 = .ok (.aload_n 0, 1) := by decide +kernel
theorem dX7_reduce_33 : decode cX7_reduce 33 = .ok (.iload_n 3, 1) := by decide +kernel
theorem dX7_reduce_34 : decode cX7_reduce 34 = .ok (.laload, 1) := by decide +kernel
theorem dX7_reduce_35 : decode cX7_reduce 35 = .ok (.lconst 0, 1) := by decide +kernel
theorem dX7_reduce_36 : decode cX7_reduce 36 = .ok (.lcmp, 1) := by decide +kernel
theorem dX7_reduce_37 : decode cX7_reduce 37 = .ok (.ifCond .ge 6, 3) := by decide +kernel
theorem dX7_reduce_40 : decode cX7_reduce 40 = .ok (.lload_n 1, 1) := by decide +kernel
theorem dX7_reduce_41 : decode cX7_reduce 41 = .ok (.lneg, 1) := by decide +kernel
theorem dX7_reduce_42 : decode cX7_reduce 42 = .ok (.lstore_n 1, 1) := by decide +kernel
theorem dX7_reduce_43 : decode cX7_reduce 43 = .ok (.iconst 0, 1) := by decide +kernel
theorem dX7_reduce_44 : decode cX7_reduce 44 = .ok (.istore 4, 2) := by decide +kernel
theorem dX7_reduce_46 : decode cX7_reduce 46 = .ok (.iload 4, 2) := by decide +kernel
theorem dX7_reduce_48 : decode cX7_reduce 48 = .ok (.iconst 5, 1) := by decide +kernel
theorem dX7_reduce_49 : decode cX7_reduce 49 = .ok (.if_icmp .ge 23, 3) := by decide +kernel
theorem dX7_reduce_52 : decode cX7_reduce 52 = .ok (.lload_n 1, 1) := by decide +kernel
theorem dX7_reduce_53 : decode cX7_reduce 53 = .ok (.lconst 0, 1) := by decide +kernel
theorem dX7_reduce_54 : decode cX7_reduce 54 = .ok (.lcmp, 1) := by decide +kernel
theorem dX7_reduce_55 : decode cX7_reduce 55 = .ok (.ifCond .eq 17, 3) := by decide +kernel
theorem dX7_reduce_58 : decode cX7_reduce 58 = .ok (.aload_n 0, 1) := by decide +kernel
theorem dX7_reduce_59 : decode cX7_reduce 59 = .ok (.iload 4, 2) := by decide +kernel
theorem dX7_reduce_61 : decode cX7_reduce 61 = .ok (.dup2, 1) := by decide +kernel
theorem dX7_reduce_62 : decode cX7_reduce 62 = .ok (.laload, 1) := by decide +kernel
theorem dX7_reduce_63 : decode cX7_reduce 63 = .ok (.lload_n 1, 1) := by decide +kernel
theorem dX7_reduce_64 : decode cX7_reduce 64 = .ok (.ldiv, 1) := by decide +kernel
theorem dX7_reduce_65 : decode cX7_reduce 65 = .ok (.lastore, 1) := by decide +kernel
theorem dX7_reduce_66 : decode cX7_reduce 66 = .ok (.iinc 4 1, 3) := by decide +kernel
theorem dX7_reduce_69 : decode cX7_reduce 69 = .ok (.goto (-23), 3) := by decide +kernel
theorem dX7_reduce_72 : decode cX7_reduce 72 = .ok (.return_, 1) := by decide +kernel
set_option maxHeartbeats 4000000 in
set_option maxRecDepth 100000 in
theorem ct_X7_reduce (l : Launch) (D : va_G) (ce : Nat → ClassId) (ad : Nat) (f : Nat → Int64)  : Ct l yX7_reduce cX7_reduce 5 none { frames := 1, cells := 0, slots := 0, locals := 29 } 0 0 D (TY ce) [.ref ad] ([(ad, .inl (ce 1, 5, .inr (.inl f)))]) (QV D (TY ce) (fun w1 => ∃ f2 : Nat → Int64, w1 = [(ad, .inl (ce 1, 5, .inr (.inl f2)))] ∧ (∀ j : Int, 0 ≤ j → j < 5 → f j.toNat = 0 → f2 j.toNat = 0))) := by
  refine Ct.ofV (by decide) (Nat.le_of_ble_eq_true rfl) ?_
  intro p e s m args below meth c A Q hX hnm hR
  refine Z.pick (lv' := [(0, .ref ad)]) [0] rfl ?_
  refine Z.lconst (v := 0) hX dX7_reduce_0 rfl ?_
  refine Z.lstore_n (lv' := [(1, .long 0), (0, .ref ad)]) hX dX7_reduce_1 rfl (by decide) rfl ?_
  refine Z.iconst hX dX7_reduce_2 ?_
  refine Z.istore_n (lv' := [(3, .int (zI 0)), (1, .long 0), (0, .ref ad)]) hX dX7_reduce_3 rfl (by decide) rfl ?_
  have key_4 : ∀ (N : Nat), ∀ (k : Int) (x : Int64), (5 - k).toNat < N → (hk : 0 ≤ k ∧ k ≤ 5) → Z p l e { frames := 1, cells := 0, slots := 0, locals := 29 } s m args below meth c D A 5 0 0 Q 4 [(3, .int (zI k)), (1, .long x), (0, .ref ad)] [] ([(ad, .inl (ce 1, 5, .inr (.inl f)))]) := by
    intro N
    induction N with
    | zero => intro k x hm; exact absurd hm (Nat.not_lt_zero _)
    | succ N ih_4 =>
      intro k x hm hk
      refine Z.iload_n hX dX7_reduce_4 rfl rfl ?_
      refine Z.iconst hX dX7_reduce_5 ?_
      refine Z.icmp_ge hX 23 dX7_reduce_6 (by decide) ⟨by omega, by omega⟩ ⟨by omega, by omega⟩ ?_ ?_
      · intro c1
        refine Z.aload_n hX dX7_reduce_23 rfl rfl ?_
        refine Z.callS1i (As := [.ref ad]) (rest := []) hX 0 rfl (ct_X7_degreeOf l D ce ad f ) mc_X7_degreeOf ml_X7_62 st_X7_degreeOf ini_X7 nd_X7_degreeOf ⟨Nat.le_of_ble_eq_true rfl, Nat.le_of_ble_eq_true rfl⟩ ⟨rfl, rfl⟩ ⟨Nat.le_refl _, Nat.le_refl _⟩ rfl (Nat.le_of_ble_eq_true rfl) dX7_reduce_24 ?_
        rintro r_2 w1 ⟨z3, hr_, hw_, hq4, hq5, hq6⟩
        subst hr_
        refine ⟨_, hw_, ?_⟩
        refine Z.toW (w' := [(ad, .inl (ce 1, 5, .inr (.inl f)))]) rfl ?_
        refine Z.istore_n (lv' := [(3, .int (zI z3)), (1, .long x), (0, .ref ad)]) hX dX7_reduce_27 rfl (by decide) rfl ?_
        have key_43 : ∀ (x : Int64), Z p l e { frames := 1, cells := 0, slots := 0, locals := 29 } s m args below meth c D A 5 0 0 Q 43 [(1, .long x), (0, .ref ad)] [] ([(ad, .inl (ce 1, 5, .inr (.inl f)))]) := by
          intro x 
          refine Z.iconst hX dX7_reduce_43 ?_
          refine Z.istore (lv' := [(4, .int (zI 0)), (1, .long x), (0, .ref ad)]) hX dX7_reduce_44 (by decide) rfl ?_
          have key_46 : ∀ (N : Nat), ∀ (k : Int) (g : Nat → Int64), (5 - k).toNat < N → (hk2 : 0 ≤ k ∧ k ≤ 5) → (hz : ∀ j : Int, 0 ≤ j → j < 5 → f j.toNat = 0 → g j.toNat = 0) → Z p l e { frames := 1, cells := 0, slots := 0, locals := 29 } s m args below meth c D A 5 0 0 Q 46 [(4, .int (zI k)), (1, .long x), (0, .ref ad)] [] ([(ad, .inl (ce 1, 5, .inr (.inl g)))]) := by
            intro N
            induction N with
            | zero => intro k g hm; exact absurd hm (Nat.not_lt_zero _)
            | succ N ih_46 =>
              intro k g hm hk2 hz
              refine Z.iload hX dX7_reduce_46 rfl ?_
              refine Z.iconst hX dX7_reduce_48 ?_
              refine Z.icmp_ge hX 72 dX7_reduce_49 (by decide) ⟨by omega, by omega⟩ ⟨by omega, by omega⟩ ?_ ?_
              · intro c7
                exact hR _ _ _ dX7_reduce_72 ⟨g, rfl, hz⟩
              · intro c7
                refine Z.lload_n hX dX7_reduce_52 rfl rfl ?_
                refine Z.lconst (v := 0) hX dX7_reduce_53 rfl ?_
                refine Z.lcmp_eq hX 72 dX7_reduce_54 dX7_reduce_55 (by decide) ?_ ?_
                · intro c8
                  exact hR _ _ _ dX7_reduce_72 ⟨g, rfl, hz⟩
                · intro c8
                  refine Z.aload_n hX dX7_reduce_58 rfl rfl ?_
                  refine Z.iload hX dX7_reduce_59 rfl ?_
                  refine Z.dup2 hX dX7_reduce_61 rfl rfl ?_
                  refine Z.laload hX 0 1 dX7_reduce_62 rfl rfl (by omega) (by omega) (by decide) ?_
                  refine Z.lload_n hX dX7_reduce_63 rfl rfl ?_
                  refine Z.ldiv hX dX7_reduce_64 (by assumption) ?_
                  refine Z.lastore hX 0 1 dX7_reduce_65 rfl rfl (by omega) (by omega) (by decide) ?_
                  obtain ⟨f9, ef9⟩ : ∃ J' : Nat → Int64, J' = vp_updL (g) (k : Int).toNat ((g (k : Int).toNat) / x) := ⟨_, rfl⟩
                  refine Z.toW (w' := [(ad, .inl (ce 1, 5, .inr (.inl f9)))]) (by rw [ef9]; rfl) ?_
                  refine Z.iinc (lv' := [(4, .int (zI (k + 1))), (1, .long x), (0, .ref ad)]) hX dX7_reduce_66 rfl (by decide) rfl ?_
                  refine Z.goto hX 46 dX7_reduce_69 (by decide) ?_
                  refine Z.pick [0, 1, 2] rfl ?_
                  exact ih_46 _ _ (by omega) (by omega) (by rw [ef9]; exact red_z hk2.1 hz)
          refine Z.pick [0, 1, 2] rfl ?_
          exact key_46 _ _ _ (Nat.lt_succ_self _) (by omega) (fun _ _ _ h => h)
        refine Z.iload_n hX dX7_reduce_28 rfl rfl ?_
        refine Z.if_lt hX 43 dX7_reduce_29 (by decide) ⟨by omega, by omega⟩ ?_ ?_
        · intro c10
          refine Z.pick [1, 2] rfl ?_
          exact key_43 _
        · intro c10
          refine Z.aload_n hX dX7_reduce_32 rfl rfl ?_
          refine Z.iload_n hX dX7_reduce_33 rfl rfl ?_
          refine Z.laload hX 0 1 dX7_reduce_34 rfl rfl (by omega) (by omega) (by decide) ?_
          refine Z.lconst (v := 0) hX dX7_reduce_35 rfl ?_
          refine Z.lcmp_ge hX 43 dX7_reduce_36 dX7_reduce_37 (by decide) ?_ ?_
          · intro c11
            refine Z.pick [1, 2] rfl ?_
            exact key_43 _
          · intro c11
            refine Z.lload_n hX dX7_reduce_40 rfl rfl ?_
            refine Z.lneg hX dX7_reduce_41 ?_
            refine Z.lstore_n (lv' := [(1, .long (-x)), (3, .int (zI z3)), (0, .ref ad)]) hX dX7_reduce_42 rfl (by decide) rfl ?_
            refine Z.pick [0, 2] rfl ?_
            exact key_43 _
      · intro c1
        refine Z.lload_n hX dX7_reduce_9 rfl rfl ?_
        refine Z.aload_n hX dX7_reduce_10 rfl rfl ?_
        refine Z.iload_n hX dX7_reduce_11 rfl rfl ?_
        refine Z.laload hX 0 1 dX7_reduce_12 rfl rfl (by omega) (by omega) (by decide) ?_
        refine Z.callS0l (As := [.long x, .long (f (k : Int).toNat)]) (rest := []) hX (ct_X7_common l D ce x (f (k : Int).toNat) ) mc_X7_common ml_X7_58 st_X7_common ini_X7 nd_X7_common ⟨Nat.le_of_ble_eq_true rfl, Nat.le_of_ble_eq_true rfl⟩ ⟨rfl, rfl⟩ ⟨Nat.le_refl _, Nat.le_refl _⟩ rfl (Nat.le_of_ble_eq_true rfl) dX7_reduce_13 ?_
        rintro r_12 w1 ⟨r013, hr_, hw_, hq14⟩
        subst hr_
        refine ⟨hw_, ?_⟩
        refine Z.lstore_n (lv' := [(1, .long r_12), (3, .int (zI k)), (0, .ref ad)]) hX dX7_reduce_16 rfl (by decide) rfl ?_
        refine Z.iinc (lv' := [(3, .int (zI (k + 1))), (1, .long r_12), (0, .ref ad)]) hX dX7_reduce_17 rfl (by decide) rfl ?_
        refine Z.goto hX 4 dX7_reduce_20 (by decide) ?_
        refine Z.pick [0, 1, 2] rfl ?_
        exact ih_4 _ _ (by omega) (by omega)
  refine Z.pick [0, 1, 2] rfl ?_
  exact key_4 _ _ _ (Nat.lt_succ_self _) (by omega)

theorem dX7_divisor_0 : decode cX7_divisor 0 = .ok (.aload_n 0, 1) := by decide +kernel
theorem dX7_divisor_1 : decode cX7_divisor 1 = .ok (.getfield 30, 3) := by decide +kernel
theorem dX7_divisor_4 : decode cX7_divisor 4 = .ok (.invokestatic 66, 3) := by decide +kernel
theorem dX7_divisor_7 : decode cX7_divisor 7 = .ok (.aload_n 0, 1) := by decide +kernel
theorem dX7_divisor_8 : decode cX7_divisor 8 = .ok (.getfield 33, 3) := by decide +kernel
theorem dX7_divisor_11 : decode cX7_divisor 11 = .ok (.invokestatic 66, 3) := by decide +kernel
theorem dX7_divisor_14 : decode cX7_divisor 14 = .ok (.aload_n 0, 1) := by decide +kernel
theorem dX7_divisor_15 : decode cX7_divisor 15 = .ok (.getfield 33, 3) := by decide +kernel
theorem dX7_divisor_18 : decode cX7_divisor 18 = .ok (.invokestatic 62, 3) := by decide +kernel
theorem dX7_divisor_21 : decode cX7_divisor 21 = .ok (.ifCond .lt 162, 3) := by decide +kernel
theorem dX7_divisor_24 : decode cX7_divisor 24 = .ok (.aload_n 0, 1) := by decide +kernel
theorem dX7_divisor_25 : decode cX7_divisor 25 = .ok (.getfield 33, 3) := by decide +kernel
theorem dX7_divisor_28 : decode cX7_divisor 28 = .ok (.invokestatic 62, 3) := by decide +kernel
theorem dX7_divisor_31 : decode cX7_divisor 31 = .ok (.istore_n 1, 1) := by decide +kernel
theorem dX7_divisor_32 : decode cX7_divisor 32 = .ok (.aload_n 0, 1) := by decide +kernel
theorem dX7_divisor_33 : decode cX7_divisor 33 = .ok (.getfield 30, 3) := by decide +kernel
theorem dX7_divisor_36 : decode cX7_divisor 36 = .ok (.invokestatic 62, 3) := by decide +kernel
theorem dX7_divisor_39 : decode cX7_divisor 39 = .ok (.iload_n 1, 1) := by decide +kernel
theorem dX7_divisor_40 : decode cX7_divisor 40 = .ok (.if_icmp .lt 101, 3) := by decide +kernel
theorem dX7_divisor_43 : decode cX7_divisor 43 = .ok (.aload_n 0, 1) := by decide +kernel
theorem dX7_divisor_44 : decode cX7_divisor 44 = .ok (.getfield 30, 3) := by decide +kernel
theorem dX7_divisor_47 : decode cX7_divisor 47 = .ok (.invokestatic 62, 3) := by decide +kernel
theorem dX7_divisor_50 : decode cX7_divisor 50 = .ok (.istore_n 2, 1) := by decide +kernel
theorem dX7_divisor_51 : decode cX7_divisor 51 = .ok (.aload_n 0, 1) := by decide +kernel
theorem dX7_divisor_52 : decode cX7_divisor 52 = .ok (.getfield 30, 3) := by decide +kernel
theorem dX7_divisor_55 : decode cX7_divisor 55 = .ok (.iload_n 2, 1) := by decide +kernel
theorem dX7_divisor_56 : decode cX7_divisor 56 = .ok (.laload, 1) := by decide +kernel
theorem dX7_divisor_57 : decode cX7_divisor 57 = .ok (.lstore_n 3, 1) := by decide +kernel
theorem dX7_divisor_58 : decode cX7_divisor 58 = .ok (.aload_n 0, 1) := by decide +kernel
theorem dX7_divisor_59 : decode cX7_divisor 59 = .ok (.getfield 33, 3) := by decide +kernel
theorem dX7_divisor_62 : decode cX7_divisor 62 = .ok (.iload_n 1, 1) := by decide +kernel
theorem dX7_divisor_63 : decode cX7_divisor 63 = .ok (.laload, 1) := by decide +kernel
theorem dX7_divisor_64 : decode cX7_divisor 64 = .ok (.lstore 5, 2) := by decide +kernel
theorem dX7_divisor_66 : decode cX7_divisor 66 = .ok (.iconst 0, 1) := by decide +kernel
theorem dX7_divisor_67 : decode cX7_divisor 67 = .ok (.istore 7, 2) := by decide +kernel
theorem dX7_divisor_69 : decode cX7_divisor 69 = .ok (.iload 7, 2) := by decide +kernel
theorem dX7_divisor_71 : decode cX7_divisor 71 = .ok (.iconst 5, 1) := by decide +kernel
theorem dX7_divisor_72 : decode cX7_divisor 72 = .ok (.if_icmp .ge 21, 3) := by decide +kernel
theorem dX7_divisor_75 : decode cX7_divisor 75 = .ok (.aload_n 0, 1) := by decide +kernel
theorem dX7_divisor_76 : decode cX7_divisor 76 = .ok (.getfield 30, 3) := by decide +kernel
theorem dX7_divisor_79 : decode cX7_divisor 79 = .ok (.iload 7, 2) := by decide +kernel
theorem dX7_divisor_81 : decode cX7_divisor 81 = .ok (.dup2, 1) := by decide +kernel
theorem dX7_divisor_82 : decode cX7_divisor 82 = .ok (.laload, 1) := by decide +kernel
theorem dX7_divisor_83 : decode cX7_divisor 83 = .ok (.lload 5, 2) := by decide +kernel
theorem dX7_divisor_85 : decode cX7_divisor 85 = .ok (.lmul, 1) := by decide +kernel
theorem dX7_divisor_86 : decode cX7_divisor 86 = .ok (.lastore, 1) := by decide +kernel
theorem dX7_divisor_87 : decode cX7_divisor 87 = .ok (.iinc 7 1, 3) := by decide +kernel
theorem dX7_divisor_90 : decode cX7_divisor 90 = .ok (.goto (-21), 3) := by decide +kernel
theorem dX7_divisor_93 : decode cX7_divisor 93 = .ok (.iconst 0, 1) := by decide +kernel
theorem dX7_divisor_94 : decode cX7_divisor 94 = .ok (.istore 7, 2) := by decide +kernel
theorem dX7_divisor_96 : decode cX7_divisor 96 = .ok (.iload 7, 2) := by decide +kernel
theorem dX7_divisor_98 : decode cX7_divisor 98 = .ok (.iload_n 1, 1) := by decide +kernel
theorem dX7_divisor_99 : decode cX7_divisor 99 = .ok (.if_icmp .gt 32, 3) := by decide +kernel
theorem dX7_divisor_102 : decode cX7_divisor 102 = .ok (.aload_n 0, 1) := by decide +kernel
theorem dX7_divisor_103 : decode cX7_divisor 103 = .ok (.getfield 30, 3) := by decide +kernel
theorem dX7_divisor_106 : decode cX7_divisor 106 = .ok (.iload_n 2, 1) := by decide +kernel
theorem dX7_divisor_107 : decode cX7_divisor 107 = .ok (.iload_n 1, 1) := by decide +kernel
theorem dX7_divisor_108 : decode cX7_divisor 108 = .ok (.isub, 1) := by decide +kernel
theorem dX7_divisor_109 : decode cX7_divisor 109 = .ok (.iload 7, 2) := by decide +kernel
theorem dX7_divisor_111 : decode cX7_divisor 111 = .ok (.iadd, 1) := by decide +kernel
theorem dX7_divisor_112 : decode cX7_divisor 112 = .ok (.dup2, 1) := by decide +kernel
theorem dX7_divisor_113 : decode cX7_divisor 113 = .ok (.laload, 1) := by decide +kernel
theorem dX7_divisor_114 : decode cX7_divisor 114 = .ok (.lload_n 3, 1) := by decide +kernel
theorem dX7_divisor_115 : decode cX7_divisor 115 = .ok (.aload_n 0, 1) := by decide +kernel
theorem dX7_divisor_116 : decode cX7_divisor 116 = .ok (.getfield 33, 3) := by decide +kernel
theorem dX7_divisor_119 : decode cX7_divisor 119 = .ok (.iload 7, 2) := by decide +kernel
theorem dX7_divisor_121 : decode cX7_divisor 121 = .ok (.laload, 1) := by decide +kernel
theorem dX7_divisor_122 : decode cX7_divisor 122 = .ok (.lmul, 1) := by decide +kernel
theorem dX7_divisor_123 : decode cX7_divisor 123 = .ok (.lsub, 1) := by decide +kernel
theorem dX7_divisor_124 : decode cX7_divisor 124 = .ok (.lastore, 1) := by decide +kernel
theorem dX7_divisor_125 : decode cX7_divisor 125 = .ok (.iinc 7 1, 3) := by decide +kernel
theorem dX7_divisor_128 : decode cX7_divisor 128 = .ok (.goto (-32), 3) := by decide +kernel
theorem dX7_divisor_131 : decode cX7_divisor 131 = .ok (.aload_n 0, 1) := by decide +kernel
theorem dX7_divisor_132 : decode cX7_divisor 132 = .ok (.getfield 30, 3) := by decide +kernel
theorem dX7_divisor_135 : decode cX7_divisor 135 = .ok (.invokestatic 66, 3) := by decide +kernel
theorem dX7_divisor_138 : decode cX7_divisor 138 = .ok (.goto (-106), 3) := by decide +kernel
theorem dX7_divisor_141 : decode cX7_divisor 141 = .ok (.iconst 0, 1) := by decide +kernel
theorem dX7_divisor_142 : decode cX7_divisor 142 = .ok (.istore_n 2, 1) := by decide +kernel
theorem dX7_divisor_143 : decode cX7_divisor 143 = .ok (.iload_n 2, 1) := by decide +kernel
theorem dX7_divisor_144 : decode cX7_divisor 144 = .ok (.iconst 5, 1) := by decide +kernel
theorem dX7_divisor_145 : decode cX7_divisor 145 = .ok (.if_icmp .ge 35, 3) := by decide +kernel
theorem dX7_divisor_148 : decode cX7_divisor 148 = .ok (.aload_n 0, 1) := by decide +kernel
theorem dX7_divisor_149 : decode cX7_divisor 149 = .ok (.getfield 30, 3) := by decide +kernel
theorem dX7_divisor_152 : decode cX7_divisor 152 = .ok (.iload_n 2, 1) := by decide +kernel
theorem dX7_divisor_153 : decode cX7_divisor 153 = .ok (.laload, 1) := by decide +kernel
theorem dX7_divisor_154 : decode cX7_divisor 154 = .ok (.lstore_n 3, 1) := by decide +kernel
theorem dX7_divisor_155 : decode cX7_divisor 155 = .ok (.aload_n 0, 1) := by decide +kernel
theorem dX7_divisor_156 : decode cX7_divisor 156 = .ok (.getfield 30, 3) := by decide +kernel
theorem dX7_divisor_159 : decode cX7_divisor 159 = .ok (.iload_n 2, 1) := by decide +kernel
theorem dX7_divisor_160 : decode cX7_divisor 160 = .ok (.aload_n 0, 1) := by decide +kernel
theorem dX7_divisor_161 : decode cX7_divisor 161 = .ok (.getfield 33, 3) := by decide +kernel
theorem dX7_divisor_164 : decode cX7_divisor 164 = .ok (.iload_n 2, 1) := by decide +kernel
theorem dX7_divisor_165 : decode cX7_divisor 165 = .ok (.laload, 1) := by decide +kernel
theorem dX7_divisor_166 : decode cX7_divisor 166 = .ok (.lastore, 1) := by decide +kernel
theorem dX7_divisor_167 : decode cX7_divisor 167 = .ok (.aload_n 0, 1) := by decide +kernel
theorem dX7_divisor_168 : decode cX7_divisor 168 = .ok (.getfield 33, 3) := by decide +kernel
theorem dX7_divisor_171 : decode cX7_divisor 171 = .ok (.iload_n 2, 1) := by decide +kernel
theorem dX7_divisor_172 : decode cX7_divisor 172 = .ok (.lload_n 3, 1) := by decide +kernel
theorem dX7_divisor_173 : decode cX7_divisor 173 = .ok (.lastore, 1) := by decide +kernel
theorem dX7_divisor_174 : decode cX7_divisor 174 = .ok (.iinc 2 1, 3) := by decide +kernel
theorem dX7_divisor_177 : decode cX7_divisor 177 = .ok (.goto (-34), 3) := by decide +kernel
theorem dX7_divisor_180 : decode cX7_divisor 180 = .ok (.goto (-166), 3) := by decide +kernel
theorem dX7_divisor_183 : decode cX7_divisor 183 = .ok (.return_, 1) := by decide +kernel
set_option maxHeartbeats 4000000 in
set_option maxRecDepth 100000 in
theorem ct_X7_divisor (l : Launch) (D : va_G) (ce : Nat → ClassId) (h : Nat → Nat) (F : Nat → Int) (I : Nat → Nat → Int32) (J : Nat → Nat → Int64)  : Ct l yX7_divisor cX7_divisor 8 none { frames := 2, cells := 0, slots := 0, locals := 53 } 0 0 D (TY ce) [.ref (h 0)] (rW ce h F I J) (QV D (TY ce) (fun w1 => ∃ J2 : Nat → Nat → Int64, w1 = rW ce h F I J2 ∧ (∀ k, k ≠ 2 → k ≠ 3 → J2 k = J k))) := by
  refine Ct.ofV (by decide) (Nat.le_of_ble_eq_true rfl) ?_
  intro p e s m args below meth c A Q hX hnm hR
  refine Z.pick (lv' := [(0, .ref (h 0))]) [0] rfl ?_
  refine Z.aload_n hX dX7_divisor_0 rfl rfl ?_
  refine Z.getf hX 7 0 9 dX7_divisor_1 rfl rfl inX7 (by decide) fl_X7_30 rfl rfl ?_
  refine Z.callS1v (As := [.ref (h 7)]) (rest := []) hX 7 rfl (ct_X7_reduce l D ce ((h 7)) (J 2) ) mc_X7_reduce ml_X7_66 st_X7_reduce ini_X7 nd_X7_reduce ⟨Nat.le_of_ble_eq_true rfl, Nat.le_of_ble_eq_true rfl⟩ ⟨rfl, rfl⟩ ⟨Nat.le_refl _, Nat.le_refl _⟩ rfl (Nat.le_of_ble_eq_true rfl) dX7_divisor_4 ?_
  rintro w1 ⟨f22, hw_, hq3⟩
  refine ⟨_, hw_, ?_⟩
  obtain ⟨J4, eJ4⟩ : ∃ J' : Nat → Nat → Int64, J' = va_up J 2 (f22) := ⟨_, rfl⟩
  refine Z.toW (w' := rW ce h F I J4) (by rw [eJ4]; rfl) ?_
  have gJ4 : J4 2 = f22 := by rw [eJ4]; exact up_eq
  have fJ4 : ∀ k, k ≠ 2 → J4 k = J k := fun k hk => by rw [eJ4]; exact up_ne hk
  refine Z.aload_n hX dX7_divisor_7 rfl rfl ?_
  refine Z.getf hX 7 0 10 dX7_divisor_8 rfl rfl inX7 (by decide) fl_X7_33 rfl rfl ?_
  refine Z.callS1v (As := [.ref (h 8)]) (rest := []) hX 8 rfl (ct_X7_reduce l D ce ((h 8)) (J4 3) ) mc_X7_reduce ml_X7_66 st_X7_reduce ini_X7 nd_X7_reduce ⟨Nat.le_of_ble_eq_true rfl, Nat.le_of_ble_eq_true rfl⟩ ⟨rfl, rfl⟩ ⟨Nat.le_refl _, Nat.le_refl _⟩ rfl (Nat.le_of_ble_eq_true rfl) dX7_divisor_11 ?_
  rintro w1 ⟨f26, hw_, hq7⟩
  refine ⟨_, hw_, ?_⟩
  obtain ⟨J8, eJ8⟩ : ∃ J' : Nat → Nat → Int64, J' = va_up J4 3 (f26) := ⟨_, rfl⟩
  refine Z.toW (w' := rW ce h F I J8) (by rw [eJ8]; rfl) ?_
  have gJ8 : J8 3 = f26 := by rw [eJ8]; exact up_eq
  have fJ8 : ∀ k, k ≠ 3 → J8 k = J4 k := fun k hk => by rw [eJ8]; exact up_ne hk
  have key_14 : ∀ (N : Nat), ∀ (t : Int) (M : Nat → Nat → Int64), (t + 1).toNat < N → (ht : -1 ≤ t ∧ t ≤ 4) → (hz : ∀ j : Int, t < j → j ≤ 4 → M 3 j.toNat = 0) → (hM : ∀ k, k ≠ 2 → k ≠ 3 → M k = J k) → Z p l e { frames := 2, cells := 0, slots := 0, locals := 53 } s m args below meth c D A 8 0 0 Q 14 [(0, .ref (h 0))] [] (rW ce h F I M) := by
    intro N
    induction N with
    | zero => intro t M hm; exact absurd hm (Nat.not_lt_zero _)
    | succ N ih_14 =>
      intro t M hm ht hz hM
      refine Z.aload_n hX dX7_divisor_14 rfl rfl ?_
      refine Z.getf hX 7 0 10 dX7_divisor_15 rfl rfl inX7 (by decide) fl_X7_33 rfl rfl ?_
      refine Z.callS1i (As := [.ref (h 8)]) (rest := []) hX 8 rfl (ct_X7_degreeOf l D ce ((h 8)) (M 3) ) mc_X7_degreeOf ml_X7_62 st_X7_degreeOf ini_X7 nd_X7_degreeOf ⟨Nat.le_of_ble_eq_true rfl, Nat.le_of_ble_eq_true rfl⟩ ⟨rfl, rfl⟩ ⟨Nat.le_refl _, Nat.le_refl _⟩ rfl (Nat.le_of_ble_eq_true rfl) dX7_divisor_18 ?_
      rintro r_9 w1 ⟨z1, hr_, hw_, p1, p2, p3⟩
      subst hr_
      refine ⟨_, hw_, ?_⟩
      refine Z.toW (w' := rW ce h F I M) rfl ?_
      refine Z.if_lt hX 183 dX7_divisor_21 (by decide) ⟨by omega, by omega⟩ ?_ ?_
      · intro c10
        exact hR _ _ _ dX7_divisor_183 ⟨M, rfl, (fun k h2 h3 => (hM k h2 h3))⟩
      · intro c10
        refine Z.aload_n hX dX7_divisor_24 rfl rfl ?_
        refine Z.getf hX 7 0 10 dX7_divisor_25 rfl rfl inX7 (by decide) fl_X7_33 rfl rfl ?_
        refine Z.callS1i (As := [.ref (h 8)]) (rest := []) hX 8 rfl (ct_X7_degreeOf l D ce ((h 8)) (M 3) ) mc_X7_degreeOf ml_X7_62 st_X7_degreeOf ini_X7 nd_X7_degreeOf ⟨Nat.le_of_ble_eq_true rfl, Nat.le_of_ble_eq_true rfl⟩ ⟨rfl, rfl⟩ ⟨Nat.le_refl _, Nat.le_refl _⟩ rfl (Nat.le_of_ble_eq_true rfl) dX7_divisor_28 ?_
        rintro r_11 w1 ⟨d, hr_, hw_, d1, d2, d3⟩
        subst hr_
        refine ⟨_, hw_, ?_⟩
        refine Z.toW (w' := rW ce h F I M) rfl ?_
        have ed : z1 = d := dg_uq p1 p2 p3 d1 d2 d3
        refine Z.istore_n (lv' := [(1, .int (zI d)), (0, .ref (h 0))]) hX dX7_divisor_31 rfl (by decide) rfl ?_
        have key_32 : ∀ (N : Nat), ∀ (u : Int) (M1 : Nat → Nat → Int64), (u + 1).toNat < N → (hu0 : -1 ≤ u ∧ u ≤ 4) → (hu1 : ∀ j : Int, u < j → j ≤ 4 → M1 2 j.toNat = 0) → (h3 : M1 3 = M 3) → (hM1 : ∀ k, k ≠ 2 → k ≠ 3 → M1 k = J k) → Z p l e { frames := 2, cells := 0, slots := 0, locals := 53 } s m args below meth c D A 8 0 0 Q 32 [(1, .int (zI d)), (0, .ref (h 0))] [] (rW ce h F I M1) := by
          intro N
          induction N with
          | zero => intro u M1 hm; exact absurd hm (Nat.not_lt_zero _)
          | succ N ih_32 =>
            intro u M1 hm hu0 hu1 h3 hM1
            refine Z.aload_n hX dX7_divisor_32 rfl rfl ?_
            refine Z.getf hX 7 0 9 dX7_divisor_33 rfl rfl inX7 (by decide) fl_X7_30 rfl rfl ?_
            refine Z.callS1i (As := [.ref (h 7)]) (rest := []) hX 7 rfl (ct_X7_degreeOf l D ce ((h 7)) (M1 2) ) mc_X7_degreeOf ml_X7_62 st_X7_degreeOf ini_X7 nd_X7_degreeOf ⟨Nat.le_of_ble_eq_true rfl, Nat.le_of_ble_eq_true rfl⟩ ⟨rfl, rfl⟩ ⟨Nat.le_refl _, Nat.le_refl _⟩ rfl (Nat.le_of_ble_eq_true rfl) dX7_divisor_36 ?_
            rintro r_12 w1 ⟨ea, hr_, hw_, a1, a2, a3⟩
            subst hr_
            refine ⟨_, hw_, ?_⟩
            refine Z.toW (w' := rW ce h F I M1) rfl ?_
            refine Z.iload_n hX dX7_divisor_39 rfl rfl ?_
            refine Z.icmp_lt hX 141 dX7_divisor_40 (by decide) ⟨by omega, by omega⟩ ⟨by omega, by omega⟩ ?_ ?_
            · intro c13
              refine Z.iconst hX dX7_divisor_141 ?_
              refine Z.istore_n (lv' := [(2, .int (zI 0)), (1, .int (zI d)), (0, .ref (h 0))]) hX dX7_divisor_142 rfl (by decide) rfl ?_
              have key_143 : ∀ (N : Nat), ∀ (k : Int) (M4 : Nat → Nat → Int64), (5 - k).toNat < N → (hk4 : 0 ≤ k ∧ k ≤ 5) → (hs0 : ∀ j : Int, k ≤ j → j ≤ 4 → M4 2 j.toNat = M1 2 j.toNat ∧ M4 3 j.toNat = M1 3 j.toNat) → (hs : ∀ j : Int, 0 ≤ j → j < k → M4 2 j.toNat = M1 3 j.toNat ∧ M4 3 j.toNat = M1 2 j.toNat) → (hM4 : ∀ k, k ≠ 2 → k ≠ 3 → M4 k = J k) → Z p l e { frames := 2, cells := 0, slots := 0, locals := 53 } s m args below meth c D A 8 0 0 Q 143 [(2, .int (zI k)), (0, .ref (h 0))] [] (rW ce h F I M4) := by
                intro N
                induction N with
                | zero => intro k M4 hm; exact absurd hm (Nat.not_lt_zero _)
                | succ N ih_143 =>
                  intro k M4 hm hk4 hs0 hs hM4
                  refine Z.iload_n hX dX7_divisor_143 rfl rfl ?_
                  refine Z.iconst hX dX7_divisor_144 ?_
                  refine Z.icmp_ge hX 180 dX7_divisor_145 (by decide) ⟨by omega, by omega⟩ ⟨by omega, by omega⟩ ?_ ?_
                  · intro c14
                    refine Z.goto hX 14 dX7_divisor_180 (by decide) ?_
                    refine Z.pick [1] rfl ?_
                    exact ih_14 (d - 1) _ (by have hdt : d ≤ t := dg_le d1 d3 hz (by omega); omega) (by omega) (fun j h1 h2 => by rw [(hs j (by omega) (by omega)).2]; exact a2 j (by omega) h2) (fun k h2 h3 => (hM4 k h2 h3))
                  · intro c14
                    refine Z.aload_n hX dX7_divisor_148 rfl rfl ?_
                    refine Z.getf hX 7 0 9 dX7_divisor_149 rfl rfl inX7 (by decide) fl_X7_30 rfl rfl ?_
                    refine Z.iload_n hX dX7_divisor_152 rfl rfl ?_
                    refine Z.laload hX 7 1 dX7_divisor_153 rfl rfl (by omega) (by omega) (by decide) ?_
                    refine Z.lstore_n (lv' := [(3, .long (M4 2 (k : Int).toNat)), (2, .int (zI k)), (0, .ref (h 0))]) hX dX7_divisor_154 rfl (by decide) rfl ?_
                    refine Z.aload_n hX dX7_divisor_155 rfl rfl ?_
                    refine Z.getf hX 7 0 9 dX7_divisor_156 rfl rfl inX7 (by decide) fl_X7_30 rfl rfl ?_
                    refine Z.iload_n hX dX7_divisor_159 rfl rfl ?_
                    refine Z.aload_n hX dX7_divisor_160 rfl rfl ?_
                    refine Z.getf hX 7 0 10 dX7_divisor_161 rfl rfl inX7 (by decide) fl_X7_33 rfl rfl ?_
                    refine Z.iload_n hX dX7_divisor_164 rfl rfl ?_
                    refine Z.laload hX 8 1 dX7_divisor_165 rfl rfl (by omega) (by omega) (by decide) ?_
                    refine Z.lastore hX 7 1 dX7_divisor_166 rfl rfl (by omega) (by omega) (by decide) ?_
                    obtain ⟨J15, eJ15⟩ : ∃ J' : Nat → Nat → Int64, J' = va_up M4 2 (vp_updL (M4 2) (k : Int).toNat (M4 3 (k : Int).toNat)) := ⟨_, rfl⟩
                    refine Z.toW (w' := rW ce h F I J15) (by rw [eJ15]; rfl) ?_
                    have gJ15 : J15 2 = vp_updL (M4 2) (k : Int).toNat (M4 3 (k : Int).toNat) := by rw [eJ15]; exact up_eq
                    have fJ15 : ∀ k, k ≠ 2 → J15 k = M4 k := fun k hk => by rw [eJ15]; exact up_ne hk
                    refine Z.aload_n hX dX7_divisor_167 rfl rfl ?_
                    refine Z.getf hX 7 0 10 dX7_divisor_168 rfl rfl inX7 (by decide) fl_X7_33 rfl rfl ?_
                    refine Z.iload_n hX dX7_divisor_171 rfl rfl ?_
                    refine Z.lload_n hX dX7_divisor_172 rfl rfl ?_
                    refine Z.lastore hX 8 1 dX7_divisor_173 rfl rfl (by omega) (by omega) (by decide) ?_
                    obtain ⟨J16, eJ16⟩ : ∃ J' : Nat → Nat → Int64, J' = va_up J15 3 (vp_updL (J15 3) (k : Int).toNat (M4 2 (k : Int).toNat)) := ⟨_, rfl⟩
                    refine Z.toW (w' := rW ce h F I J16) (by rw [eJ16]; rfl) ?_
                    have gJ16 : J16 3 = vp_updL (J15 3) (k : Int).toNat (M4 2 (k : Int).toNat) := by rw [eJ16]; exact up_eq
                    have fJ16 : ∀ k, k ≠ 3 → J16 k = J15 k := fun k hk => by rw [eJ16]; exact up_ne hk
                    refine Z.iinc (lv' := [(2, .int (zI (k + 1))), (3, .long (M4 2 (k : Int).toNat)), (0, .ref (h 0))]) hX dX7_divisor_174 rfl (by decide) rfl ?_
                    refine Z.goto hX 143 dX7_divisor_177 (by decide) ?_
                    refine Z.pick [0, 2] rfl ?_
                    exact ih_143 _ _ (by omega) (by omega) (dv_sw hk4.1 ((fJ16 2 (by decide)).trans gJ15) (by rw [gJ16, fJ15 3 (by decide)]) (by omega) hs0 hs).1 (dv_sw hk4.1 ((fJ16 2 (by decide)).trans gJ15) (by rw [gJ16, fJ15 3 (by decide)]) (by omega) hs0 hs).2 (fun k h2 h3 => ((fJ16 k h3).trans ((fJ15 k h2).trans (hM4 k h2 h3))))
              refine Z.pick [0, 2] rfl ?_
              exact key_143 _ _ _ (Nat.lt_succ_self _) (by omega) (fun j _ _ => ⟨rfl, rfl⟩) (fun j h1 h2 => by omega) (fun k h2 h3 => (hM1 k h2 h3))
            · intro c13
              refine Z.aload_n hX dX7_divisor_43 rfl rfl ?_
              refine Z.getf hX 7 0 9 dX7_divisor_44 rfl rfl inX7 (by decide) fl_X7_30 rfl rfl ?_
              refine Z.callS1i (As := [.ref (h 7)]) (rest := []) hX 7 rfl (ct_X7_degreeOf l D ce ((h 7)) (M1 2) ) mc_X7_degreeOf ml_X7_62 st_X7_degreeOf ini_X7 nd_X7_degreeOf ⟨Nat.le_of_ble_eq_true rfl, Nat.le_of_ble_eq_true rfl⟩ ⟨rfl, rfl⟩ ⟨Nat.le_refl _, Nat.le_refl _⟩ rfl (Nat.le_of_ble_eq_true rfl) dX7_divisor_47 ?_
              rintro r_17 w1 ⟨e0, hr_, hw_, e1, e2, e3⟩
              subst hr_
              refine ⟨_, hw_, ?_⟩
              refine Z.toW (w' := rW ce h F I M1) rfl ?_
              have ee : ea = e0 := dg_uq a1 a2 a3 e1 e2 e3
              refine Z.istore_n (lv' := [(2, .int (zI e0)), (1, .int (zI d)), (0, .ref (h 0))]) hX dX7_divisor_50 rfl (by decide) rfl ?_
              refine Z.aload_n hX dX7_divisor_51 rfl rfl ?_
              refine Z.getf hX 7 0 9 dX7_divisor_52 rfl rfl inX7 (by decide) fl_X7_30 rfl rfl ?_
              refine Z.iload_n hX dX7_divisor_55 rfl rfl ?_
              refine Z.laload hX 7 1 dX7_divisor_56 rfl rfl (by omega) (by omega) (by decide) ?_
              refine Z.lstore_n (lv' := [(3, .long (M1 2 (e0 : Int).toNat)), (2, .int (zI e0)), (1, .int (zI d)), (0, .ref (h 0))]) hX dX7_divisor_57 rfl (by decide) rfl ?_
              refine Z.aload_n hX dX7_divisor_58 rfl rfl ?_
              refine Z.getf hX 7 0 10 dX7_divisor_59 rfl rfl inX7 (by decide) fl_X7_33 rfl rfl ?_
              refine Z.iload_n hX dX7_divisor_62 rfl rfl ?_
              refine Z.laload hX 8 1 dX7_divisor_63 rfl rfl (by omega) (by omega) (by decide) ?_
              refine Z.lstore (lv' := [(5, .long (M1 3 (d : Int).toNat)), (3, .long (M1 2 (e0 : Int).toNat)), (2, .int (zI e0)), (1, .int (zI d)), (0, .ref (h 0))]) hX dX7_divisor_64 (by decide) rfl ?_
              refine Z.iconst hX dX7_divisor_66 ?_
              refine Z.istore (lv' := [(7, .int (zI 0)), (5, .long (M1 3 (d : Int).toNat)), (3, .long (M1 2 (e0 : Int).toNat)), (2, .int (zI e0)), (1, .int (zI d)), (0, .ref (h 0))]) hX dX7_divisor_67 (by decide) rfl ?_
              have key_69 : ∀ (N : Nat), ∀ (k : Int) (M2 : Nat → Nat → Int64), (5 - k).toNat < N → (hk : 0 ≤ k ∧ k ≤ 5) → (hp : ∀ j : Int, 0 ≤ j → j ≤ 4 → M2 2 j.toNat = if j < k then M1 2 j.toNat * (M1 3 (d).toNat) else M1 2 j.toNat) → (h32 : M2 3 = M1 3) → (hM2 : ∀ k, k ≠ 2 → k ≠ 3 → M2 k = J k) → Z p l e { frames := 2, cells := 0, slots := 0, locals := 53 } s m args below meth c D A 8 0 0 Q 69 [(7, .int (zI k)), (5, .long (M1 3 (d).toNat)), (3, .long (M1 2 (e0).toNat)), (2, .int (zI e0)), (1, .int (zI d)), (0, .ref (h 0))] [] (rW ce h F I M2) := by
                intro N
                induction N with
                | zero => intro k M2 hm; exact absurd hm (Nat.not_lt_zero _)
                | succ N ih_69 =>
                  intro k M2 hm hk hp h32 hM2
                  refine Z.iload hX dX7_divisor_69 rfl ?_
                  refine Z.iconst hX dX7_divisor_71 ?_
                  refine Z.icmp_ge hX 93 dX7_divisor_72 (by decide) ⟨by omega, by omega⟩ ⟨by omega, by omega⟩ ?_ ?_
                  · intro c18
                    refine Z.iconst hX dX7_divisor_93 ?_
                    refine Z.istore (lv' := [(7, .int (zI 0)), (5, .long (M1 3 (d).toNat)), (3, .long (M1 2 (e0).toNat)), (2, .int (zI e0)), (1, .int (zI d)), (0, .ref (h 0))]) hX dX7_divisor_94 (by decide) rfl ?_
                    have key_96 : ∀ (N : Nat), ∀ (k : Int) (M3 : Nat → Nat → Int64), (d + 1 - k).toNat < N → (hk3 : 0 ≤ k ∧ k ≤ d + 1) → (hk9 : (k ≤ d → M3 2 e0.toNat = M1 2 (e0).toNat * M1 3 (d).toNat) ∧ (d < k → M3 2 e0.toNat = 0)) → (hz3 : ∀ j : Int, e0 < j → j ≤ 4 → M3 2 j.toNat = 0) → (h33 : M3 3 = M1 3) → (hM3 : ∀ k, k ≠ 2 → k ≠ 3 → M3 k = J k) → Z p l e { frames := 2, cells := 0, slots := 0, locals := 53 } s m args below meth c D A 8 0 0 Q 96 [(7, .int (zI k)), (3, .long (M1 2 (e0).toNat)), (2, .int (zI e0)), (1, .int (zI d)), (0, .ref (h 0))] [] (rW ce h F I M3) := by
                      intro N
                      induction N with
                      | zero => intro k M3 hm; exact absurd hm (Nat.not_lt_zero _)
                      | succ N ih_96 =>
                        intro k M3 hm hk3 hk9 hz3 h33 hM3
                        refine Z.iload hX dX7_divisor_96 rfl ?_
                        refine Z.iload_n hX dX7_divisor_98 rfl rfl ?_
                        refine Z.icmp_gt hX 131 dX7_divisor_99 (by decide) ⟨by omega, by omega⟩ ⟨by omega, by omega⟩ ?_ ?_
                        · intro c19
                          refine Z.aload_n hX dX7_divisor_131 rfl rfl ?_
                          refine Z.getf hX 7 0 9 dX7_divisor_132 rfl rfl inX7 (by decide) fl_X7_30 rfl rfl ?_
                          refine Z.callS1v (As := [.ref (h 7)]) (rest := []) hX 7 rfl (ct_X7_reduce l D ce ((h 7)) (M3 2) ) mc_X7_reduce ml_X7_66 st_X7_reduce ini_X7 nd_X7_reduce ⟨Nat.le_of_ble_eq_true rfl, Nat.le_of_ble_eq_true rfl⟩ ⟨rfl, rfl⟩ ⟨Nat.le_refl _, Nat.le_refl _⟩ rfl (Nat.le_of_ble_eq_true rfl) dX7_divisor_135 ?_
                          rintro w1 ⟨fr, hw_, hfr⟩
                          refine ⟨_, hw_, ?_⟩
                          obtain ⟨J21, eJ21⟩ : ∃ J' : Nat → Nat → Int64, J' = va_up M3 2 (fr) := ⟨_, rfl⟩
                          refine Z.toW (w' := rW ce h F I J21) (by rw [eJ21]; rfl) ?_
                          have gJ21 : J21 2 = fr := by rw [eJ21]; exact up_eq
                          have fJ21 : ∀ k, k ≠ 2 → J21 k = M3 k := fun k hk => by rw [eJ21]; exact up_ne hk
                          refine Z.goto hX 32 dX7_divisor_138 (by decide) ?_
                          refine Z.pick [3, 4] rfl ?_
                          exact ih_32 (e0 - 1) _ (by have hdu : e0 ≤ u := dg_le e1 e3 hu1 (by omega); omega) (by omega) (fun j h1 h2 => by rw [gJ21]; exact hfr j (by omega) (by omega) (dv_top (hk9.2 (by omega)) hz3 (by omega) h2)) ((fJ21 3 (by decide)).trans (h33.trans h3)) (fun k h2 h3 => ((fJ21 k h2).trans (hM3 k h2 h3)))
                        · intro c19
                          refine Z.aload_n hX dX7_divisor_102 rfl rfl ?_
                          refine Z.getf hX 7 0 9 dX7_divisor_103 rfl rfl inX7 (by decide) fl_X7_30 rfl rfl ?_
                          refine Z.iload_n hX dX7_divisor_106 rfl rfl ?_
                          refine Z.iload_n hX dX7_divisor_107 rfl rfl ?_
                          refine Z.isub hX dX7_divisor_108 ?_
                          refine Z.iload hX dX7_divisor_109 rfl ?_
                          refine Z.iadd hX dX7_divisor_111 ?_
                          refine Z.dup2 hX dX7_divisor_112 rfl rfl ?_
                          refine Z.laload hX 7 1 dX7_divisor_113 rfl rfl (by omega) (by omega) (by decide) ?_
                          refine Z.lload_n hX dX7_divisor_114 rfl rfl ?_
                          refine Z.aload_n hX dX7_divisor_115 rfl rfl ?_
                          refine Z.getf hX 7 0 10 dX7_divisor_116 rfl rfl inX7 (by decide) fl_X7_33 rfl rfl ?_
                          refine Z.iload hX dX7_divisor_119 rfl ?_
                          refine Z.laload hX 8 1 dX7_divisor_121 rfl rfl (by omega) (by omega) (by decide) ?_
                          refine Z.lmul hX dX7_divisor_122 ?_
                          refine Z.lsub hX dX7_divisor_123 ?_
                          refine Z.lastore hX 7 1 dX7_divisor_124 rfl rfl (by omega) (by omega) (by decide) ?_
                          obtain ⟨J22, eJ22⟩ : ∃ J' : Nat → Nat → Int64, J' = va_up M3 2 (vp_updL (M3 2) ((e0 - d) + k : Int).toNat ((M3 2 ((e0 - d) + k : Int).toNat) - ((M1 2 (e0).toNat) * (M3 3 (k : Int).toNat)))) := ⟨_, rfl⟩
                          refine Z.toW (w' := rW ce h F I J22) (by rw [eJ22]; rfl) ?_
                          have gJ22 : J22 2 = vp_updL (M3 2) ((e0 - d) + k : Int).toNat ((M3 2 ((e0 - d) + k : Int).toNat) - ((M1 2 (e0).toNat) * (M3 3 (k : Int).toNat))) := by rw [eJ22]; exact up_eq
                          have fJ22 : ∀ k, k ≠ 2 → J22 k = M3 k := fun k hk => by rw [eJ22]; exact up_ne hk
                          refine Z.iinc (lv' := [(7, .int (zI (k + 1))), (3, .long (M1 2 (e0).toNat)), (2, .int (zI e0)), (1, .int (zI d)), (0, .ref (h 0))]) hX dX7_divisor_125 rfl (by decide) rfl ?_
                          refine Z.goto hX 96 dX7_divisor_128 (by decide) ?_
                          refine Z.pick [0, 1, 2, 3, 4] rfl ?_
                          exact ih_96 _ _ (by omega) (by omega) (dv_sub (T := M1 3) (by omega) (by omega) (by omega) (by rw [gJ22, h33]) hk9) (fun j h1 h2 => by rw [gJ22, up_at (by omega) (by omega), if_neg (by omega)]; exact hz3 j h1 h2) ((fJ22 3 (by decide)).trans h33) (fun k h2 h3 => ((fJ22 k h2).trans (hM3 k h2 h3)))
                    refine Z.pick [0, 2, 3, 4, 5] rfl ?_
                    exact key_96 _ _ _ (Nat.lt_succ_self _) (by omega) ⟨fun _ => by rw [hp e0 (by omega) (by omega), if_pos (by omega)], fun h => by omega⟩ (fun j h1 h2 => by rw [hp j (by omega) h2, if_pos (by omega), e2 j (by omega) h2]; exact Int64.zero_mul) h32 (fun k h2 h3 => (hM2 k h2 h3))
                  · intro c18
                    refine Z.aload_n hX dX7_divisor_75 rfl rfl ?_
                    refine Z.getf hX 7 0 9 dX7_divisor_76 rfl rfl inX7 (by decide) fl_X7_30 rfl rfl ?_
                    refine Z.iload hX dX7_divisor_79 rfl ?_
                    refine Z.dup2 hX dX7_divisor_81 rfl rfl ?_
                    refine Z.laload hX 7 1 dX7_divisor_82 rfl rfl (by omega) (by omega) (by decide) ?_
                    refine Z.lload hX dX7_divisor_83 rfl ?_
                    refine Z.lmul hX dX7_divisor_85 ?_
                    refine Z.lastore hX 7 1 dX7_divisor_86 rfl rfl (by omega) (by omega) (by decide) ?_
                    obtain ⟨J23, eJ23⟩ : ∃ J' : Nat → Nat → Int64, J' = va_up M2 2 (vp_updL (M2 2) (k : Int).toNat ((M2 2 (k : Int).toNat) * (M1 3 (d).toNat))) := ⟨_, rfl⟩
                    refine Z.toW (w' := rW ce h F I J23) (by rw [eJ23]; rfl) ?_
                    have gJ23 : J23 2 = vp_updL (M2 2) (k : Int).toNat ((M2 2 (k : Int).toNat) * (M1 3 (d).toNat)) := by rw [eJ23]; exact up_eq
                    have fJ23 : ∀ k, k ≠ 2 → J23 k = M2 k := fun k hk => by rw [eJ23]; exact up_ne hk
                    refine Z.iinc (lv' := [(7, .int (zI (k + 1))), (5, .long (M1 3 (d).toNat)), (3, .long (M1 2 (e0).toNat)), (2, .int (zI e0)), (1, .int (zI d)), (0, .ref (h 0))]) hX dX7_divisor_87 rfl (by decide) rfl ?_
                    refine Z.goto hX 69 dX7_divisor_90 (by decide) ?_
                    refine Z.pick [0, 1, 2, 3, 4, 5] rfl ?_
                    exact ih_69 _ _ (by omega) (by omega) (dv_mul hk.1 gJ23 hp) ((fJ23 3 (by decide)).trans h32) (fun k h2 h3 => ((fJ23 k h2).trans (hM2 k h2 h3)))
              refine Z.pick [0, 1, 2, 3, 4, 5] rfl ?_
              exact key_69 _ _ _ (Nat.lt_succ_self _) (by omega) (fun j h1 h2 => (if_neg (by omega)).symm) rfl (fun k h2 h3 => (hM1 k h2 h3))
        refine Z.pick [0, 1] rfl ?_
        exact key_32 _ 4 _ (Nat.lt_succ_self _) (by omega) (fun j h1 h2 => by omega) rfl (fun k h2 h3 => (hM k h2 h3))
  refine Z.pick [0] rfl ?_
  exact key_14 _ 4 _ (Nat.lt_succ_self _) (by omega) (fun j h1 h2 => by omega) (fun k h2 h3 => ((fJ8 k h3).trans ((fJ4 k h2).trans rfl)))
end
section
/-! zero patterns of the reference's matrix and minors -/
def EZ (E : Nat → Int64) (X Y : Int) : Prop := ∀ r c : Int, 0 ≤ r → r < 8 → 0 ≤ c → c < 8 → (X ≤ r → E (3 * (8 * r + c) + 1).toNat = 0) ∧ (r < Y → E (3 * (8 * r + c) + 2).toNat = 0)
def bX (X p : Int) : Int := if p ≤ X then p else X
def bY (Y p : Int) : Int := if p ≤ Y then 0 else p - Y
def MZ (m : Nat → Int64) (X Y : Int) : Prop := ∀ s i j : Int, 0 ≤ s → s < 256 → 0 ≤ i → i < 7 → 0 ≤ j → j < 7 → m (49 * s + 7 * i + j).toNat ≠ 0 → i ≤ bX X (pc8 s.toNat) ∧ j ≤ bY Y (pc8 s.toNat)
theorem EZ_0 {E : Nat → Int64} (h : ∀ q : Int, 0 ≤ q → q < 192 → E q.toNat = 0) (X Y : Int) : EZ E X Y := fun r c h1 h2 h3 h4 => ⟨fun _ => h _ (by omega) (by omega), fun _ => h _ (by omega) (by omega)⟩
theorem EZ_s {E E' : Nat → Int64} {X Y r c : Int} {x0 x1 x2 : Int64} (hr : 0 ≤ r ∧ r < 8) (hc : 0 ≤ c ∧ c < 8) (h1 : X ≤ r → x1 = 0) (h2 : r < Y → x2 = 0) (h : EZ E X Y) (e : ∀ q : Int, 0 ≤ q → E' q.toNat = if q = 3 * (8 * r + c) + 2 then x2 else if q = 3 * (8 * r + c) + 1 then x1 else if q = 3 * (8 * r + c) then x0 else E q.toNat) : EZ E' X Y := by
  intro r' c' g1 g2 g3 g4
  constructor
  · intro hX
    rw [e _ (by omega), if_neg (by omega)]
    by_cases q : 3 * (8 * r' + c') + 1 = 3 * (8 * r + c) + 1
    · rw [if_pos q]; exact h1 (by omega)
    · rw [if_neg q, if_neg (by omega)]
      exact (h r' c' g1 g2 g3 g4).1 hX
  · intro hY
    rw [e _ (by omega)]
    by_cases q : 3 * (8 * r' + c') + 2 = 3 * (8 * r + c) + 2
    · rw [if_pos q]; exact h2 (by omega)
    · rw [if_neg q, if_neg (by omega), if_neg (by omega)]
      exact (h r' c' g1 g2 g3 g4).2 hY
theorem MZ_0 {m : Nat → Int64} {X Y : Int} (hX : 0 ≤ X) (h : ∀ q : Int, 0 ≤ q → q < 12544 → m q.toNat = 0) {m' : Nat → Int64} (e : m' = vp_updL m (0 : Int).toNat 1) : MZ m' X Y := by
  intro s i j h1 h2 h3 h4 h5 h6 hne
  rw [e, up_at (by omega) (by omega)] at hne
  by_cases q : 49 * s + 7 * i + j = 0
  · have e1 : s = 0 := by omega
    have e2 : i = 0 := by omega
    have e3 : j = 0 := by omega
    subst e1; subst e2; subst e3
    have : (pc8 (0 : Int).toNat : Int) = 0 := rfl
    rw [this]
    unfold bX bY
    refine ⟨?_, ?_⟩
    · rw [if_pos hX]; omega
    · split <;> omega
  · rw [if_neg q] at hne
    exact absurd (h _ (by omega) (by omega)) hne
theorem MZ_s {m m' : Nat → Int64} {X Y s0 i0 j0 q : Int} {x : Int64} (hs : 0 ≤ s0 ∧ s0 < 256) (hi : 0 ≤ i0 ∧ i0 < 7) (hj : 0 ≤ j0 ∧ j0 < 7) (bi : i0 ≤ bX X (pc8 s0.toNat)) (bj : j0 ≤ bY Y (pc8 s0.toNat)) (h : MZ m X Y) (hq : q = 49 * s0 + 7 * i0 + j0) (e : m' = vp_updL m q.toNat x) : MZ m' X Y := by
  intro s i j h1 h2 h3 h4 h5 h6 hne
  rw [e, up_at (by omega) (by omega)] at hne
  by_cases r : 49 * s + 7 * i + j = q
  · have e1 : s = s0 := by omega
    have e2 : i = i0 := by omega
    have e3 : j = j0 := by omega
    subst e1; subst e2; subst e3
    exact ⟨bi, bj⟩
  · rw [if_neg r] at hne
    exact h s i j h1 h2 h3 h4 h5 h6 hne
theorem sh1_t : ∀ n : Fin 9, zI 1 <<< (zI (n.val : Int) &&& 31) = zI ((2 ^ n.val : Nat) : Int) ∧ ∀ s : Fin 256, s.val < 2 ^ n.val → pc8 s.val ≤ n.val := by decide +kernel
theorem sh1 {n : Int} (h0 : 0 ≤ n) (h1 : n ≤ 8) : ∃ T : Int, zI 1 <<< (zI n &&& 31) = zI T ∧ 1 ≤ T ∧ T ≤ 256 ∧ ∀ s : Int, 0 ≤ s → s < T → (pc8 s.toNat : Int) ≤ n := by
  obtain ⟨k, rfl⟩ := Int.eq_ofNat_of_zero_le h0
  obtain ⟨e1, e2⟩ := sh1_t ⟨k, by omega⟩
  have hle : 2 ^ k ≤ 2 ^ 8 := Nat.pow_le_pow_right (by decide) (by omega)
  have hpos : 0 < 2 ^ k := Nat.two_pow_pos k
  refine ⟨((2 ^ k : Nat) : Int), e1, by omega, by omega, fun s g1 g2 => ?_⟩
  have := e2 ⟨s.toNat, by omega⟩ (by simp only; omega)
  simp only at this
  omega
theorem bit_t : ∀ s : Fin 256, ∀ c : Fin 8, ((zI (s.val : Int) >>> (zI (c.val : Int) &&& 31)) &&& zI 1 = zI ((s.val / 2 ^ c.val % 2 : Nat) : Int)) ∧ (s.val / 2 ^ c.val % 2 = 1 → zI (s.val : Int) ^^^ (zI 1 <<< (zI (c.val : Int) &&& 31)) = zI ((s.val - 2 ^ c.val : Nat) : Int) ∧ 2 ^ c.val ≤ s.val ∧ pc8 (s.val - 2 ^ c.val) + 1 = pc8 s.val) := by decide +kernel
theorem bitc {s c : Int} (h0 : 0 ≤ s) (h1 : s < 256) (g0 : 0 ≤ c) (g1 : c < 8) : ∃ b t : Int, (zI s >>> (zI c &&& 31)) &&& zI 1 = zI b ∧ (b = 0 ∨ b = 1) ∧ 0 ≤ t ∧ t < 256 ∧ (b = 1 → zI s ^^^ (zI 1 <<< (zI c &&& 31)) = zI t ∧ (pc8 t.toNat : Int) + 1 = pc8 s.toNat) := by
  obtain ⟨n, rfl⟩ := Int.eq_ofNat_of_zero_le h0
  obtain ⟨k, rfl⟩ := Int.eq_ofNat_of_zero_le g0
  obtain ⟨e1, e2⟩ := bit_t ⟨n, by omega⟩ ⟨k, by omega⟩
  simp only at e1 e2
  refine ⟨((n / 2 ^ k % 2 : Nat) : Int), ((n - 2 ^ k : Nat) : Int), e1, by omega, by omega, by have := Nat.sub_le n (2 ^ k); omega, fun hb => ?_⟩
  obtain ⟨e3, e4, e5⟩ := e2 (by omega)
  refine ⟨e3, ?_⟩
  show ((pc8 (n - 2 ^ k) : Nat) : Int) + 1 = (pc8 n : Nat)
  omega
/-- where a minor's term may stand when a row with a term in x (or in y) is added -/
theorem bX_m {X p i : Int} (h : i ≤ bX X p) : i ≤ bX X (p + 1) := by unfold bX at *; split at h <;> split <;> omega
theorem bX_s {X p i : Int} (hp : p < X) (h : i ≤ bX X p) : i + 1 ≤ bX X (p + 1) ∧ i ≤ p := by unfold bX at *; rw [if_pos (by omega)] at h; rw [if_pos (by omega)]; omega
theorem bY_m {Y p j : Int} (h : j ≤ bY Y p) : j ≤ bY Y (p + 1) := by unfold bY at *; split at h <;> split <;> omega
theorem bY_s {Y p j : Int} (hp : Y ≤ p) (h : j ≤ bY Y p) : j + 1 ≤ bY Y (p + 1) ∧ j ≤ p - Y := by unfold bY at *; rw [if_neg (by omega)]; split at h <;> omega
theorem z_fill {f f' : Nat → Int64} {k : Int} (hk : 0 ≤ k) (e : f' = vp_updL f k.toNat 0) (hz : ∀ q : Int, 0 ≤ q → q < k → f q.toNat = 0) : ∀ q : Int, 0 ≤ q → q < k + 1 → f' q.toNat = 0 := by
  intro q h1 h2
  rw [e, up_at hk h1]
  by_cases r : q = k
  · rw [if_pos r]
  · rw [if_neg r]; exact hz q h1 (by omega)
theorem EZ_x {E : Nat → Int64} {X Y r c : Int} (h : EZ E X Y) (hne : ¬ E (3 * (8 * r + c) + 1).toNat = 0) (hr : 0 ≤ r ∧ r < 8) (hc : 0 ≤ c ∧ c < 8) : r < X := by
  rcases Int.lt_or_le r X with q | q
  · exact q
  · exact absurd ((h r c hr.1 hr.2 hc.1 hc.2).1 q) hne
theorem EZ_y {E : Nat → Int64} {X Y r c : Int} (h : EZ E X Y) (hne : ¬ E (3 * (8 * r + c) + 2).toNat = 0) (hr : 0 ≤ r ∧ r < 8) (hc : 0 ≤ c ∧ c < 8) : Y ≤ r := by
  rcases Int.lt_or_le r Y with q | q
  · exact absurd ((h r c hr.1 hr.2 hc.1 hc.2).2 q) hne
  · exact q
end
section
theorem dX7_emptied_0 : decode cX7_emptied 0 = .ok (.iconst 0, 1) := by decide +kernel
theorem dX7_emptied_1 : decode cX7_emptied 1 = .ok (.istore_n 1, 1) := by decide +kernel
theorem dX7_emptied_2 : decode cX7_emptied 2 = .ok (.iload_n 1, 1) := by decide +kernel
theorem dX7_emptied_3 : decode cX7_emptied 3 = .ok (.sipush 192, 3) := by decide +kernel
theorem dX7_emptied_6 : decode cX7_emptied 6 = .ok (.if_icmp .ge 16, 3) := by decide +kernel
theorem dX7_emptied_9 : decode cX7_emptied 9 = .ok (.aload_n 0, 1) := by decide +kernel
theorem dX7_emptied_10 : decode cX7_emptied 10 = .ok (.getfield 36, 3) := by decide +kernel
theorem dX7_emptied_13 : decode cX7_emptied 13 = .ok (.iload_n 1, 1) := by decide +kernel
theorem dX7_emptied_14 : decode cX7_emptied 14 = .ok (.lconst 0, 1) := by decide +kernel
theorem dX7_emptied_15 : decode cX7_emptied 15 = .ok (.lastore, 1) := by decide +kernel
theorem dX7_emptied_16 : decode cX7_emptied 16 = .ok (.iinc 1 1, 3) := by decide +kernel
theorem dX7_emptied_19 : decode cX7_emptied 19 = .ok (.goto (-17), 3) := by decide +kernel
theorem dX7_emptied_22 : decode cX7_emptied 22 = .ok (.return_, 1) := by decide +kernel
set_option maxHeartbeats 4000000 in
set_option maxRecDepth 100000 in
theorem ct_X7_emptied (l : Launch) (D : va_G) (ce : Nat → ClassId) (h : Nat → Nat) (F : Nat → Int) (I : Nat → Nat → Int32) (J : Nat → Nat → Int64)  : Ct l yX7_emptied cX7_emptied 2 none { frames := 0, cells := 0, slots := 0, locals := 0 } 0 0 D (TY ce) [.ref (h 0)] (rW ce h F I J) (QV D (TY ce) (fun w1 => ∃ J2 : Nat → Nat → Int64, w1 = rW ce h F I J2 ∧ (∀ k, k ≠ 4 → J2 k = J k) ∧ (∀ q : Int, 0 ≤ q → q < 192 → J2 4 q.toNat = 0))) := by
  refine Ct.ofV (by decide) (Nat.le_of_ble_eq_true rfl) ?_
  intro p e s m args below meth c A Q hX hnm hR
  refine Z.pick (lv' := [(0, .ref (h 0))]) [0] rfl ?_
  refine Z.iconst hX dX7_emptied_0 ?_
  refine Z.istore_n (lv' := [(1, .int (zI 0)), (0, .ref (h 0))]) hX dX7_emptied_1 rfl (by decide) rfl ?_
  have key_2 : ∀ (N : Nat), ∀ (k : Int) (M : Nat → Nat → Int64), (192 - k).toNat < N → (hk : 0 ≤ k ∧ k ≤ 192) → (hM : ∀ k, k ≠ 4 → M k = J k) → (hz : ∀ q : Int, 0 ≤ q → q < k → M 4 q.toNat = 0) → Z p l e { frames := 0, cells := 0, slots := 0, locals := 0 } s m args below meth c D A 2 0 0 Q 2 [(1, .int (zI k)), (0, .ref (h 0))] [] (rW ce h F I M) := by
    intro N
    induction N with
    | zero => intro k M hm; exact absurd hm (Nat.not_lt_zero _)
    | succ N ih_2 =>
      intro k M hm hk hM hz
      refine Z.iload_n hX dX7_emptied_2 rfl rfl ?_
      refine Z.sipush hX dX7_emptied_3 (by decide) ?_
      refine Z.icmp_ge hX 22 dX7_emptied_6 (by decide) ⟨by omega, by omega⟩ ⟨by omega, by omega⟩ ?_ ?_
      · intro c1
        exact hR _ _ _ dX7_emptied_22 ⟨M, rfl, (fun k h4 => (hM k h4)), (fun q h1 h2 => hz q h1 (by omega))⟩
      · intro c1
        refine Z.aload_n hX dX7_emptied_9 rfl rfl ?_
        refine Z.getf hX 7 0 11 dX7_emptied_10 rfl rfl inX7 (by decide) fl_X7_36 rfl rfl ?_
        refine Z.iload_n hX dX7_emptied_13 rfl rfl ?_
        refine Z.lconst (v := 0) hX dX7_emptied_14 rfl ?_
        refine Z.lastore hX 9 1 dX7_emptied_15 rfl rfl (by omega) (by omega) (by decide) ?_
        obtain ⟨J2, eJ2⟩ : ∃ J' : Nat → Nat → Int64, J' = va_up M 4 (vp_updL (M 4) (k : Int).toNat (0)) := ⟨_, rfl⟩
        refine Z.toW (w' := rW ce h F I J2) (by rw [eJ2]; rfl) ?_
        have gJ2 : J2 4 = vp_updL (M 4) (k : Int).toNat (0) := by rw [eJ2]; exact up_eq
        have fJ2 : ∀ k, k ≠ 4 → J2 k = M k := fun k hk => by rw [eJ2]; exact up_ne hk
        refine Z.iinc (lv' := [(1, .int (zI (k + 1))), (0, .ref (h 0))]) hX dX7_emptied_16 rfl (by decide) rfl ?_
        refine Z.goto hX 2 dX7_emptied_19 (by decide) ?_
        refine Z.pick [0, 1] rfl ?_
        exact ih_2 _ _ (by omega) (by omega) (fun k h4 => ((fJ2 k h4).trans (hM k h4))) (z_fill hk.1 gJ2 hz)
  refine Z.pick [0, 1] rfl ?_
  exact key_2 _ _ _ (Nat.lt_succ_self _) (by omega) (fun k h4 => rfl) (fun q h1 h2 => by omega)

theorem dX7_entry_0 : decode cX7_entry 0 = .ok (.aload_n 0, 1) := by decide +kernel
theorem dX7_entry_1 : decode cX7_entry 1 = .ok (.getfield 36, 3) := by decide +kernel
theorem dX7_entry_4 : decode cX7_entry 4 = .ok (.iconst 3, 1) := by decide +kernel
theorem dX7_entry_5 : decode cX7_entry 5 = .ok (.bipush 8, 2) := by decide +kernel
theorem dX7_entry_7 : decode cX7_entry 7 = .ok (.iload_n 1, 1) := by decide +kernel
theorem dX7_entry_8 : decode cX7_entry 8 = .ok (.imul, 1) := by decide +kernel
theorem dX7_entry_9 : decode cX7_entry 9 = .ok (.iload_n 2, 1) := by decide +kernel
theorem dX7_entry_10 : decode cX7_entry 10 = .ok (.iadd, 1) := by decide +kernel
theorem dX7_entry_11 : decode cX7_entry 11 = .ok (.imul, 1) := by decide +kernel
theorem dX7_entry_12 : decode cX7_entry 12 = .ok (.lload_n 3, 1) := by decide +kernel
theorem dX7_entry_13 : decode cX7_entry 13 = .ok (.lastore, 1) := by decide +kernel
theorem dX7_entry_14 : decode cX7_entry 14 = .ok (.aload_n 0, 1) := by decide +kernel
theorem dX7_entry_15 : decode cX7_entry 15 = .ok (.getfield 36, 3) := by decide +kernel
theorem dX7_entry_18 : decode cX7_entry 18 = .ok (.iconst 3, 1) := by decide +kernel
theorem dX7_entry_19 : decode cX7_entry 19 = .ok (.bipush 8, 2) := by decide +kernel
theorem dX7_entry_21 : decode cX7_entry 21 = .ok (.iload_n 1, 1) := by decide +kernel
theorem dX7_entry_22 : decode cX7_entry 22 = .ok (.imul, 1) := by decide +kernel
theorem dX7_entry_23 : decode cX7_entry 23 = .ok (.iload_n 2, 1) := by decide +kernel
theorem dX7_entry_24 : decode cX7_entry 24 = .ok (.iadd, 1) := by decide +kernel
theorem dX7_entry_25 : decode cX7_entry 25 = .ok (.imul, 1) := by decide +kernel
theorem dX7_entry_26 : decode cX7_entry 26 = .ok (.iconst 1, 1) := by decide +kernel
theorem dX7_entry_27 : decode cX7_entry 27 = .ok (.iadd, 1) := by decide +kernel
theorem dX7_entry_28 : decode cX7_entry 28 = .ok (.lload 5, 2) := by decide +kernel
theorem dX7_entry_30 : decode cX7_entry 30 = .ok (.lastore, 1) := by decide +kernel
theorem dX7_entry_31 : decode cX7_entry 31 = .ok (.aload_n 0, 1) := by decide +kernel
theorem dX7_entry_32 : decode cX7_entry 32 = .ok (.getfield 36, 3) := by decide +kernel
theorem dX7_entry_35 : decode cX7_entry 35 = .ok (.iconst 3, 1) := by decide +kernel
theorem dX7_entry_36 : decode cX7_entry 36 = .ok (.bipush 8, 2) := by decide +kernel
theorem dX7_entry_38 : decode cX7_entry 38 = .ok (.iload_n 1, 1) := by decide +kernel
theorem dX7_entry_39 : decode cX7_entry 39 = .ok (.imul, 1) := by decide +kernel
theorem dX7_entry_40 : decode cX7_entry 40 = .ok (.iload_n 2, 1) := by decide +kernel
theorem dX7_entry_41 : decode cX7_entry 41 = .ok (.iadd, 1) := by decide +kernel
theorem dX7_entry_42 : decode cX7_entry 42 = .ok (.imul, 1) := by decide +kernel
theorem dX7_entry_43 : decode cX7_entry 43 = .ok (.iconst 2, 1) := by decide +kernel
theorem dX7_entry_44 : decode cX7_entry 44 = .ok (.iadd, 1) := by decide +kernel
theorem dX7_entry_45 : decode cX7_entry 45 = .ok (.lload 7, 2) := by decide +kernel
theorem dX7_entry_47 : decode cX7_entry 47 = .ok (.lastore, 1) := by decide +kernel
theorem dX7_entry_48 : decode cX7_entry 48 = .ok (.return_, 1) := by decide +kernel
set_option maxHeartbeats 4000000 in
set_option maxRecDepth 100000 in
theorem ct_X7_entry (l : Launch) (D : va_G) (ce : Nat → ClassId) (h : Nat → Nat) (F : Nat → Int) (I : Nat → Nat → Int32) (J : Nat → Nat → Int64) (r cn : Int) (x0 x1 x2 : Int64) (hr : 0 ≤ r ∧ r < 8) (hc : 0 ≤ cn ∧ cn < 8) : Ct l yX7_entry cX7_entry 9 none { frames := 0, cells := 0, slots := 0, locals := 0 } 0 0 D (TY ce) [.ref (h 0), .int (zI r), .int (zI cn), .long x0, .long x1, .long x2] (rW ce h F I J) (QV D (TY ce) (fun w1 => ∃ J2 : Nat → Nat → Int64, w1 = rW ce h F I J2 ∧ (∀ k, k ≠ 4 → J2 k = J k) ∧ (∀ q : Int, 0 ≤ q → J2 4 q.toNat = if q = 3 * (8 * r + cn) + 2 then x2 else if q = 3 * (8 * r + cn) + 1 then x1 else if q = 3 * (8 * r + cn) then x0 else J 4 q.toNat))) := by
  refine Ct.ofV (by decide) (Nat.le_of_ble_eq_true rfl) ?_
  intro p e s m args below meth c A Q hX hnm hR
  refine Z.pick (lv' := [(0, .ref (h 0)), (1, .int (zI r)), (2, .int (zI cn)), (3, .long x0), (5, .long x1), (7, .long x2)]) [0, 1, 2, 3, 4, 5] rfl ?_
  refine Z.aload_n hX dX7_entry_0 rfl rfl ?_
  refine Z.getf hX 7 0 11 dX7_entry_1 rfl rfl inX7 (by decide) fl_X7_36 rfl rfl ?_
  refine Z.iconst hX dX7_entry_4 ?_
  refine Z.bipush hX dX7_entry_5 (by decide) ?_
  refine Z.iload_n hX dX7_entry_7 rfl rfl ?_
  refine Z.imul hX dX7_entry_8 ?_
  refine Z.iload_n hX dX7_entry_9 rfl rfl ?_
  refine Z.iadd hX dX7_entry_10 ?_
  refine Z.imul hX dX7_entry_11 ?_
  refine Z.lload_n hX dX7_entry_12 rfl rfl ?_
  refine Z.lastore hX 9 1 dX7_entry_13 rfl rfl (by omega) (by omega) (by decide) ?_
  obtain ⟨J1, eJ1⟩ : ∃ J' : Nat → Nat → Int64, J' = va_up J 4 (vp_updL (J 4) (3 * ((8 * r) + cn) : Int).toNat (x0)) := ⟨_, rfl⟩
  refine Z.toW (w' := rW ce h F I J1) (by rw [eJ1]; rfl) ?_
  have gJ1 : J1 4 = vp_updL (J 4) (3 * ((8 * r) + cn) : Int).toNat (x0) := by rw [eJ1]; exact up_eq
  have fJ1 : ∀ k, k ≠ 4 → J1 k = J k := fun k hk => by rw [eJ1]; exact up_ne hk
  refine Z.aload_n hX dX7_entry_14 rfl rfl ?_
  refine Z.getf hX 7 0 11 dX7_entry_15 rfl rfl inX7 (by decide) fl_X7_36 rfl rfl ?_
  refine Z.iconst hX dX7_entry_18 ?_
  refine Z.bipush hX dX7_entry_19 (by decide) ?_
  refine Z.iload_n hX dX7_entry_21 rfl rfl ?_
  refine Z.imul hX dX7_entry_22 ?_
  refine Z.iload_n hX dX7_entry_23 rfl rfl ?_
  refine Z.iadd hX dX7_entry_24 ?_
  refine Z.imul hX dX7_entry_25 ?_
  refine Z.iconst hX dX7_entry_26 ?_
  refine Z.iadd hX dX7_entry_27 ?_
  refine Z.lload hX dX7_entry_28 rfl ?_
  refine Z.lastore hX 9 1 dX7_entry_30 rfl rfl (by omega) (by omega) (by decide) ?_
  obtain ⟨J2, eJ2⟩ : ∃ J' : Nat → Nat → Int64, J' = va_up J1 4 (vp_updL (J1 4) ((3 * ((8 * r) + cn)) + 1 : Int).toNat (x1)) := ⟨_, rfl⟩
  refine Z.toW (w' := rW ce h F I J2) (by rw [eJ2]; rfl) ?_
  have gJ2 : J2 4 = vp_updL (J1 4) ((3 * ((8 * r) + cn)) + 1 : Int).toNat (x1) := by rw [eJ2]; exact up_eq
  have fJ2 : ∀ k, k ≠ 4 → J2 k = J1 k := fun k hk => by rw [eJ2]; exact up_ne hk
  refine Z.aload_n hX dX7_entry_31 rfl rfl ?_
  refine Z.getf hX 7 0 11 dX7_entry_32 rfl rfl inX7 (by decide) fl_X7_36 rfl rfl ?_
  refine Z.iconst hX dX7_entry_35 ?_
  refine Z.bipush hX dX7_entry_36 (by decide) ?_
  refine Z.iload_n hX dX7_entry_38 rfl rfl ?_
  refine Z.imul hX dX7_entry_39 ?_
  refine Z.iload_n hX dX7_entry_40 rfl rfl ?_
  refine Z.iadd hX dX7_entry_41 ?_
  refine Z.imul hX dX7_entry_42 ?_
  refine Z.iconst hX dX7_entry_43 ?_
  refine Z.iadd hX dX7_entry_44 ?_
  refine Z.lload hX dX7_entry_45 rfl ?_
  refine Z.lastore hX 9 1 dX7_entry_47 rfl rfl (by omega) (by omega) (by decide) ?_
  obtain ⟨J3, eJ3⟩ : ∃ J' : Nat → Nat → Int64, J' = va_up J2 4 (vp_updL (J2 4) ((3 * ((8 * r) + cn)) + 2 : Int).toNat (x2)) := ⟨_, rfl⟩
  refine Z.toW (w' := rW ce h F I J3) (by rw [eJ3]; rfl) ?_
  have gJ3 : J3 4 = vp_updL (J2 4) ((3 * ((8 * r) + cn)) + 2 : Int).toNat (x2) := by rw [eJ3]; exact up_eq
  have fJ3 : ∀ k, k ≠ 4 → J3 k = J2 k := fun k hk => by rw [eJ3]; exact up_ne hk
  exact hR _ _ _ dX7_entry_48 ⟨J3, rfl, (fun k h4 => ((fJ3 k h4).trans ((fJ2 k h4).trans ((fJ1 k h4).trans rfl)))), (fun q hq => by rw [gJ3, up_at (by omega) hq, gJ2, up_at (by omega) hq, gJ1, up_at (by omega) hq])⟩

theorem dX7_minorsOf_0 : decode cX7_minorsOf 0 = .ok (.iconst 0, 1) := by decide +kernel
theorem dX7_minorsOf_1 : decode cX7_minorsOf 1 = .ok (.istore_n 2, 1) := by decide +kernel
theorem dX7_minorsOf_2 : decode cX7_minorsOf 2 = .ok (.iload_n 2, 1) := by decide +kernel
theorem dX7_minorsOf_3 : decode cX7_minorsOf 3 = .ok (.sipush 12544, 3) := by decide +kernel
theorem dX7_minorsOf_6 : decode cX7_minorsOf 6 = .ok (.if_icmp .ge 16, 3) := by decide +kernel
theorem dX7_minorsOf_9 : decode cX7_minorsOf 9 = .ok (.aload_n 0, 1) := by decide +kernel
theorem dX7_minorsOf_10 : decode cX7_minorsOf 10 = .ok (.getfield 39, 3) := by decide +kernel
theorem dX7_minorsOf_13 : decode cX7_minorsOf 13 = .ok (.iload_n 2, 1) := by decide +kernel
theorem dX7_minorsOf_14 : decode cX7_minorsOf 14 = .ok (.lconst 0, 1) := by decide +kernel
theorem dX7_minorsOf_15 : decode cX7_minorsOf 15 = .ok (.lastore, 1) := by decide +kernel
theorem dX7_minorsOf_16 : decode cX7_minorsOf 16 = .ok (.iinc 2 1, 3) := by decide +kernel
theorem dX7_minorsOf_19 : decode cX7_minorsOf 19 = .ok (.goto (-17), 3) := by decide +kernel
theorem dX7_minorsOf_22 : decode cX7_minorsOf 22 = .ok (.aload_n 0, 1) := by decide +kernel
theorem dX7_minorsOf_23 : decode cX7_minorsOf 23 = .ok (.getfield 39, 3) := by decide +kernel
theorem dX7_minorsOf_26 : decode cX7_minorsOf 26 = .ok (.iconst 0, 1) := by decide +kernel
theorem dX7_minorsOf_27 : decode cX7_minorsOf 27 = .ok (.lconst 1, 1) := by decide +kernel
theorem dX7_minorsOf_28 : decode cX7_minorsOf 28 = .ok (.lastore, 1) := by decide +kernel
theorem dX7_minorsOf_29 : decode cX7_minorsOf 29 = .ok (.iconst 1, 1) := by decide +kernel
theorem dX7_minorsOf_30 : decode cX7_minorsOf 30 = .ok (.istore_n 2, 1) := by decide +kernel
theorem dX7_minorsOf_31 : decode cX7_minorsOf 31 = .ok (.iload_n 2, 1) := by decide +kernel
theorem dX7_minorsOf_32 : decode cX7_minorsOf 32 = .ok (.iconst 1, 1) := by decide +kernel
theorem dX7_minorsOf_33 : decode cX7_minorsOf 33 = .ok (.iload_n 1, 1) := by decide +kernel
theorem dX7_minorsOf_34 : decode cX7_minorsOf 34 = .ok (.ishl, 1) := by decide +kernel
theorem dX7_minorsOf_35 : decode cX7_minorsOf 35 = .ok (.if_icmp .ge 270, 3) := by decide +kernel
theorem dX7_minorsOf_38 : decode cX7_minorsOf 38 = .ok (.iload_n 2, 1) := by decide +kernel
theorem dX7_minorsOf_39 : decode cX7_minorsOf 39 = .ok (.invokestatic 86, 3) := by decide +kernel
theorem dX7_minorsOf_42 : decode cX7_minorsOf 42 = .ok (.iconst 1, 1) := by decide +kernel
theorem dX7_minorsOf_43 : decode cX7_minorsOf 43 = .ok (.isub, 1) := by decide +kernel
theorem dX7_minorsOf_44 : decode cX7_minorsOf 44 = .ok (.istore_n 3, 1) := by decide +kernel
theorem dX7_minorsOf_45 : decode cX7_minorsOf 45 = .ok (.iconst 1, 1) := by decide +kernel
theorem dX7_minorsOf_46 : decode cX7_minorsOf 46 = .ok (.istore 4, 2) := by decide +kernel
theorem dX7_minorsOf_48 : decode cX7_minorsOf 48 = .ok (.iload_n 1, 1) := by decide +kernel
theorem dX7_minorsOf_49 : decode cX7_minorsOf 49 = .ok (.iconst 1, 1) := by decide +kernel
theorem dX7_minorsOf_50 : decode cX7_minorsOf 50 = .ok (.isub, 1) := by decide +kernel
theorem dX7_minorsOf_51 : decode cX7_minorsOf 51 = .ok (.istore 5, 2) := by decide +kernel
theorem dX7_minorsOf_53 : decode cX7_minorsOf 53 = .ok (.iload 5, 2) := by decide +kernel
theorem dX7_minorsOf_55 : decode cX7_minorsOf 55 = .ok (.ifCond .lt 244, 3) := by decide +kernel
theorem dX7_minorsOf_58 : decode cX7_minorsOf 58 = .ok (.iload_n 2, 1) := by decide +kernel
theorem dX7_minorsOf_59 : decode cX7_minorsOf 59 = .ok (.iload 5, 2) := by decide +kernel
theorem dX7_minorsOf_61 : decode cX7_minorsOf 61 = .ok (.ishr, 1) := by decide +kernel
theorem dX7_minorsOf_62 : decode cX7_minorsOf 62 = .ok (.iconst 1, 1) := by decide +kernel
theorem dX7_minorsOf_63 : decode cX7_minorsOf 63 = .ok (.iand, 1) := by decide +kernel
theorem dX7_minorsOf_64 : decode cX7_minorsOf 64 = .ok (.iconst 1, 1) := by decide +kernel
theorem dX7_minorsOf_65 : decode cX7_minorsOf 65 = .ok (.if_icmp .ne 228, 3) := by decide +kernel
theorem dX7_minorsOf_68 : decode cX7_minorsOf 68 = .ok (.bipush 49, 2) := by decide +kernel
theorem dX7_minorsOf_70 : decode cX7_minorsOf 70 = .ok (.iload_n 2, 1) := by decide +kernel
theorem dX7_minorsOf_71 : decode cX7_minorsOf 71 = .ok (.iconst 1, 1) := by decide +kernel
theorem dX7_minorsOf_72 : decode cX7_minorsOf 72 = .ok (.iload 5, 2) := by decide +kernel
theorem dX7_minorsOf_74 : decode cX7_minorsOf 74 = .ok (.ishl, 1) := by decide +kernel
theorem dX7_minorsOf_75 : decode cX7_minorsOf 75 = .ok (.ixor, 1) := by decide +kernel
theorem dX7_minorsOf_76 : decode cX7_minorsOf 76 = .ok (.imul, 1) := by decide +kernel
theorem dX7_minorsOf_77 : decode cX7_minorsOf 77 = .ok (.istore 6, 2) := by decide +kernel
theorem dX7_minorsOf_79 : decode cX7_minorsOf 79 = .ok (.iconst 3, 1) := by decide +kernel
theorem dX7_minorsOf_80 : decode cX7_minorsOf 80 = .ok (.bipush 8, 2) := by decide +kernel
theorem dX7_minorsOf_82 : decode cX7_minorsOf 82 = .ok (.iload_n 3, 1) := by decide +kernel
theorem dX7_minorsOf_83 : decode cX7_minorsOf 83 = .ok (.imul, 1) := by decide +kernel
theorem dX7_minorsOf_84 : decode cX7_minorsOf 84 = .ok (.iload 5, 2) := by decide +kernel
theorem dX7_minorsOf_86 : decode cX7_minorsOf 86 = .ok (.iadd, 1) := by decide +kernel
theorem dX7_minorsOf_87 : decode cX7_minorsOf 87 = .ok (.imul, 1) := by decide +kernel
theorem dX7_minorsOf_88 : decode cX7_minorsOf 88 = .ok (.istore 7, 2) := by decide +kernel
theorem dX7_minorsOf_90 : decode cX7_minorsOf 90 = .ok (.iconst 0, 1) := by decide +kernel
theorem dX7_minorsOf_91 : decode cX7_minorsOf 91 = .ok (.istore 8, 2) := by decide +kernel
theorem dX7_minorsOf_93 : decode cX7_minorsOf 93 = .ok (.iload 8, 2) := by decide +kernel
theorem dX7_minorsOf_95 : decode cX7_minorsOf 95 = .ok (.bipush 7, 2) := by decide +kernel
theorem dX7_minorsOf_97 : decode cX7_minorsOf 97 = .ok (.if_icmp .ge 191, 3) := by decide +kernel
theorem dX7_minorsOf_100 : decode cX7_minorsOf 100 = .ok (.iconst 0, 1) := by decide +kernel
theorem dX7_minorsOf_101 : decode cX7_minorsOf 101 = .ok (.istore 9, 2) := by decide +kernel
theorem dX7_minorsOf_103 : decode cX7_minorsOf 103 = .ok (.iload 9, 2) := by decide +kernel
theorem dX7_minorsOf_105 : decode cX7_minorsOf 105 = .ok (.bipush 7, 2) := by decide +kernel
theorem dX7_minorsOf_107 : decode cX7_minorsOf 107 = .ok (.if_icmp .ge 175, 3) := by decide +kernel
theorem dX7_minorsOf_110 : decode cX7_minorsOf 110 = .ok (.aload_n 0, 1) := by decide +kernel
theorem dX7_minorsOf_111 : decode cX7_minorsOf 111 = .ok (.getfield 39, 3) := by decide +kernel
theorem dX7_minorsOf_114 : decode cX7_minorsOf 114 = .ok (.iload 6, 2) := by decide +kernel
theorem dX7_minorsOf_116 : decode cX7_minorsOf 116 = .ok (.bipush 7, 2) := by decide +kernel
theorem dX7_minorsOf_118 : decode cX7_minorsOf 118 = .ok (.iload 8, 2) := by decide +kernel
theorem dX7_minorsOf_120 : decode cX7_minorsOf 120 = .ok (.imul, 1) := by decide +kernel
theorem dX7_minorsOf_121 : decode cX7_minorsOf 121 = .ok (.iadd, 1) := by decide +kernel
theorem dX7_minorsOf_122 : decode cX7_minorsOf 122 = .ok (.iload 9, 2) := by decide +kernel
theorem dX7_minorsOf_124 : decode cX7_minorsOf 124 = .ok (.iadd, 1) := by decide +kernel
theorem dX7_minorsOf_125 : decode cX7_minorsOf 125 = .ok (.laload, 1) := by decide +kernel
theorem dX7_minorsOf_126 : decode cX7_minorsOf 126 = .ok (.lstore 10, 2) := by decide +kernel
theorem dX7_minorsOf_128 : decode cX7_minorsOf 128 = .ok (.lload 10, 2) := by decide +kernel
theorem dX7_minorsOf_130 : decode cX7_minorsOf 130 = .ok (.lconst 0, 1) := by decide +kernel
theorem dX7_minorsOf_131 : decode cX7_minorsOf 131 = .ok (.lcmp, 1) := by decide +kernel
theorem dX7_minorsOf_132 : decode cX7_minorsOf 132 = .ok (.ifCond .eq 144, 3) := by decide +kernel
theorem dX7_minorsOf_135 : decode cX7_minorsOf 135 = .ok (.aload_n 0, 1) := by decide +kernel
theorem dX7_minorsOf_136 : decode cX7_minorsOf 136 = .ok (.getfield 39, 3) := by decide +kernel
theorem dX7_minorsOf_139 : decode cX7_minorsOf 139 = .ok (.bipush 49, 2) := by decide +kernel
theorem dX7_minorsOf_141 : decode cX7_minorsOf 141 = .ok (.iload_n 2, 1) := by decide +kernel
theorem dX7_minorsOf_142 : decode cX7_minorsOf 142 = .ok (.imul, 1) := by decide +kernel
theorem dX7_minorsOf_143 : decode cX7_minorsOf 143 = .ok (.bipush 7, 2) := by decide +kernel
theorem dX7_minorsOf_145 : decode cX7_minorsOf 145 = .ok (.iload 8, 2) := by decide +kernel
theorem dX7_minorsOf_147 : decode cX7_minorsOf 147 = .ok (.imul, 1) := by decide +kernel
theorem dX7_minorsOf_148 : decode cX7_minorsOf 148 = .ok (.iadd, 1) := by decide +kernel
theorem dX7_minorsOf_149 : decode cX7_minorsOf 149 = .ok (.iload 9, 2) := by decide +kernel
theorem dX7_minorsOf_151 : decode cX7_minorsOf 151 = .ok (.iadd, 1) := by decide +kernel
theorem dX7_minorsOf_152 : decode cX7_minorsOf 152 = .ok (.dup2, 1) := by decide +kernel
theorem dX7_minorsOf_153 : decode cX7_minorsOf 153 = .ok (.laload, 1) := by decide +kernel
theorem dX7_minorsOf_154 : decode cX7_minorsOf 154 = .ok (.iload 4, 2) := by decide +kernel
theorem dX7_minorsOf_156 : decode cX7_minorsOf 156 = .ok (.i2l, 1) := by decide +kernel
theorem dX7_minorsOf_157 : decode cX7_minorsOf 157 = .ok (.lload 10, 2) := by decide +kernel
theorem dX7_minorsOf_159 : decode cX7_minorsOf 159 = .ok (.lmul, 1) := by decide +kernel
theorem dX7_minorsOf_160 : decode cX7_minorsOf 160 = .ok (.aload_n 0, 1) := by decide +kernel
theorem dX7_minorsOf_161 : decode cX7_minorsOf 161 = .ok (.getfield 36, 3) := by decide +kernel
theorem dX7_minorsOf_164 : decode cX7_minorsOf 164 = .ok (.iload 7, 2) := by decide +kernel
theorem dX7_minorsOf_166 : decode cX7_minorsOf 166 = .ok (.laload, 1) := by decide +kernel
theorem dX7_minorsOf_167 : decode cX7_minorsOf 167 = .ok (.lmul, 1) := by decide +kernel
theorem dX7_minorsOf_168 : decode cX7_minorsOf 168 = .ok (.ladd, 1) := by decide +kernel
theorem dX7_minorsOf_169 : decode cX7_minorsOf 169 = .ok (.lastore, 1) := by decide +kernel
theorem dX7_minorsOf_170 : decode cX7_minorsOf 170 = .ok (.aload_n 0, 1) := by decide +kernel
theorem dX7_minorsOf_171 : decode cX7_minorsOf 171 = .ok (.getfield 36, 3) := by decide +kernel
theorem dX7_minorsOf_174 : decode cX7_minorsOf 174 = .ok (.iload 7, 2) := by decide +kernel
theorem dX7_minorsOf_176 : decode cX7_minorsOf 176 = .ok (.iconst 1, 1) := by decide +kernel
theorem dX7_minorsOf_177 : decode cX7_minorsOf 177 = .ok (.iadd, 1) := by decide +kernel
theorem dX7_minorsOf_178 : decode cX7_minorsOf 178 = .ok (.laload, 1) := by decide +kernel
theorem dX7_minorsOf_179 : decode cX7_minorsOf 179 = .ok (.lconst 0, 1) := by decide +kernel
theorem dX7_minorsOf_180 : decode cX7_minorsOf 180 = .ok (.lcmp, 1) := by decide +kernel
theorem dX7_minorsOf_181 : decode cX7_minorsOf 181 = .ok (.ifCond .eq 42, 3) := by decide +kernel
theorem dX7_minorsOf_184 : decode cX7_minorsOf 184 = .ok (.aload_n 0, 1) := by decide +kernel
theorem dX7_minorsOf_185 : decode cX7_minorsOf 185 = .ok (.getfield 39, 3) := by decide +kernel
theorem dX7_minorsOf_188 : decode cX7_minorsOf 188 = .ok (.bipush 49, 2) := by decide +kernel
theorem dX7_minorsOf_190 : decode cX7_minorsOf 190 = .ok (.iload_n 2, 1) := by decide +kernel
theorem dX7_minorsOf_191 : decode cX7_minorsOf 191 = .ok (.imul, 1) := by decide +kernel
theorem dX7_minorsOf_192 : decode cX7_minorsOf 192 = .ok (.bipush 7, 2) := by decide +kernel
theorem dX7_minorsOf_194 : decode cX7_minorsOf 194 = .ok (.iload 8, 2) := by decide +kernel
theorem dX7_minorsOf_196 : decode cX7_minorsOf 196 = .ok (.iconst 1, 1) := by decide +kernel
theorem dX7_minorsOf_197 : decode cX7_minorsOf 197 = .ok (.iadd, 1) := by decide +kernel
theorem dX7_minorsOf_198 : decode cX7_minorsOf 198 = .ok (.imul, 1) := by decide +kernel
theorem dX7_minorsOf_199 : decode cX7_minorsOf 199 = .ok (.iadd, 1) := by decide +kernel
theorem dX7_minorsOf_200 : decode cX7_minorsOf 200 = .ok (.iload 9, 2) := by decide +kernel
theorem dX7_minorsOf_202 : decode cX7_minorsOf 202 = .ok (.iadd, 1) := by decide +kernel
theorem dX7_minorsOf_203 : decode cX7_minorsOf 203 = .ok (.dup2, 1) := by decide +kernel
theorem dX7_minorsOf_204 : decode cX7_minorsOf 204 = .ok (.laload, 1) := by decide +kernel
theorem dX7_minorsOf_205 : decode cX7_minorsOf 205 = .ok (.iload 4, 2) := by decide +kernel
theorem dX7_minorsOf_207 : decode cX7_minorsOf 207 = .ok (.i2l, 1) := by decide +kernel
theorem dX7_minorsOf_208 : decode cX7_minorsOf 208 = .ok (.lload 10, 2) := by decide +kernel
theorem dX7_minorsOf_210 : decode cX7_minorsOf 210 = .ok (.lmul, 1) := by decide +kernel
theorem dX7_minorsOf_211 : decode cX7_minorsOf 211 = .ok (.aload_n 0, 1) := by decide +kernel
theorem dX7_minorsOf_212 : decode cX7_minorsOf 212 = .ok (.getfield 36, 3) := by decide +kernel
theorem dX7_minorsOf_215 : decode cX7_minorsOf 215 = .ok (.iload 7, 2) := by decide +kernel
theorem dX7_minorsOf_217 : decode cX7_minorsOf 217 = .ok (.iconst 1, 1) := by decide +kernel
theorem dX7_minorsOf_218 : decode cX7_minorsOf 218 = .ok (.iadd, 1) := by decide +kernel
theorem dX7_minorsOf_219 : decode cX7_minorsOf 219 = .ok (.laload, 1) := by decide +kernel
theorem dX7_minorsOf_220 : decode cX7_minorsOf 220 = .ok (.lmul, 1) := by decide +kernel
theorem dX7_minorsOf_221 : decode cX7_minorsOf 221 = .ok (.ladd, 1) := by decide +kernel
theorem dX7_minorsOf_222 : decode cX7_minorsOf 222 = .ok (.lastore, 1) := by decide +kernel
theorem dX7_minorsOf_223 : decode cX7_minorsOf 223 = .ok (.aload_n 0, 1) := by decide +kernel
theorem dX7_minorsOf_224 : decode cX7_minorsOf 224 = .ok (.getfield 36, 3) := by decide +kernel
theorem dX7_minorsOf_227 : decode cX7_minorsOf 227 = .ok (.iload 7, 2) := by decide +kernel
theorem dX7_minorsOf_229 : decode cX7_minorsOf 229 = .ok (.iconst 2, 1) := by decide +kernel
theorem dX7_minorsOf_230 : decode cX7_minorsOf 230 = .ok (.iadd, 1) := by decide +kernel
theorem dX7_minorsOf_231 : decode cX7_minorsOf 231 = .ok (.laload, 1) := by decide +kernel
theorem dX7_minorsOf_232 : decode cX7_minorsOf 232 = .ok (.lconst 0, 1) := by decide +kernel
theorem dX7_minorsOf_233 : decode cX7_minorsOf 233 = .ok (.lcmp, 1) := by decide +kernel
theorem dX7_minorsOf_234 : decode cX7_minorsOf 234 = .ok (.ifCond .eq 42, 3) := by decide +kernel
theorem dX7_minorsOf_237 : decode cX7_minorsOf 237 = .ok (.aload_n 0, 1) := by decide +kernel
theorem dX7_minorsOf_238 : decode cX7_minorsOf 238 = .ok (.getfield 39, 3) := by decide +kernel
theorem dX7_minorsOf_241 : decode cX7_minorsOf 241 = .ok (.bipush 49, 2) := by decide +kernel
theorem dX7_minorsOf_243 : decode cX7_minorsOf 243 = .ok (.iload_n 2, 1) := by decide +kernel
theorem dX7_minorsOf_244 : decode cX7_minorsOf 244 = .ok (.imul, 1) := by decide +kernel
theorem dX7_minorsOf_245 : decode cX7_minorsOf 245 = .ok (.bipush 7, 2) := by decide +kernel
theorem dX7_minorsOf_247 : decode cX7_minorsOf 247 = .ok (.iload 8, 2) := by decide +kernel
theorem dX7_minorsOf_249 : decode cX7_minorsOf 249 = .ok (.imul, 1) := by decide +kernel
theorem dX7_minorsOf_250 : decode cX7_minorsOf 250 = .ok (.iadd, 1) := by decide +kernel
theorem dX7_minorsOf_251 : decode cX7_minorsOf 251 = .ok (.iload 9, 2) := by decide +kernel
theorem dX7_minorsOf_253 : decode cX7_minorsOf 253 = .ok (.iadd, 1) := by decide +kernel
theorem dX7_minorsOf_254 : decode cX7_minorsOf 254 = .ok (.iconst 1, 1) := by decide +kernel
theorem dX7_minorsOf_255 : decode cX7_minorsOf 255 = .ok (.iadd, 1) := by decide +kernel
theorem dX7_minorsOf_256 : decode cX7_minorsOf 256 = .ok (.dup2, 1) := by decide +kernel
theorem dX7_minorsOf_257 : decode cX7_minorsOf 257 = .ok (.laload, 1) := by decide +kernel
theorem dX7_minorsOf_258 : decode cX7_minorsOf 258 = .ok (.iload 4, 2) := by decide +kernel
theorem dX7_minorsOf_260 : decode cX7_minorsOf 260 = .ok (.i2l, 1) := by decide +kernel
theorem dX7_minorsOf_261 : decode cX7_minorsOf 261 = .ok (.lload 10, 2) := by decide +kernel
theorem dX7_minorsOf_263 : decode cX7_minorsOf 263 = .ok (.lmul, 1) := by decide +kernel
theorem dX7_minorsOf_264 : decode cX7_minorsOf 264 = .ok (.aload_n 0, 1) := by decide +kernel
theorem dX7_minorsOf_265 : decode cX7_minorsOf 265 = .ok (.getfield 36, 3) := by decide +kernel
theorem dX7_minorsOf_268 : decode cX7_minorsOf 268 = .ok (.iload 7, 2) := by decide +kernel
theorem dX7_minorsOf_270 : decode cX7_minorsOf 270 = .ok (.iconst 2, 1) := by decide +kernel
theorem dX7_minorsOf_271 : decode cX7_minorsOf 271 = .ok (.iadd, 1) := by decide +kernel
theorem dX7_minorsOf_272 : decode cX7_minorsOf 272 = .ok (.laload, 1) := by decide +kernel
theorem dX7_minorsOf_273 : decode cX7_minorsOf 273 = .ok (.lmul, 1) := by decide +kernel
theorem dX7_minorsOf_274 : decode cX7_minorsOf 274 = .ok (.ladd, 1) := by decide +kernel
theorem dX7_minorsOf_275 : decode cX7_minorsOf 275 = .ok (.lastore, 1) := by decide +kernel
theorem dX7_minorsOf_276 : decode cX7_minorsOf 276 = .ok (.iinc 9 1, 3) := by decide +kernel
theorem dX7_minorsOf_279 : decode cX7_minorsOf 279 = .ok (.goto (-176), 3) := by decide +kernel
theorem dX7_minorsOf_282 : decode cX7_minorsOf 282 = .ok (.iinc 8 1, 3) := by decide +kernel
theorem dX7_minorsOf_285 : decode cX7_minorsOf 285 = .ok (.goto (-192), 3) := by decide +kernel
theorem dX7_minorsOf_288 : decode cX7_minorsOf 288 = .ok (.iload 4, 2) := by decide +kernel
theorem dX7_minorsOf_290 : decode cX7_minorsOf 290 = .ok (.ineg, 1) := by decide +kernel
theorem dX7_minorsOf_291 : decode cX7_minorsOf 291 = .ok (.istore 4, 2) := by decide +kernel
theorem dX7_minorsOf_293 : decode cX7_minorsOf 293 = .ok (.iinc 5 (-1), 3) := by decide +kernel
theorem dX7_minorsOf_296 : decode cX7_minorsOf 296 = .ok (.goto (-243), 3) := by decide +kernel
theorem dX7_minorsOf_299 : decode cX7_minorsOf 299 = .ok (.iinc 2 1, 3) := by decide +kernel
theorem dX7_minorsOf_302 : decode cX7_minorsOf 302 = .ok (.goto (-271), 3) := by decide +kernel
theorem dX7_minorsOf_305 : decode cX7_minorsOf 305 = .ok (.return_, 1) := by decide +kernel
set_option maxHeartbeats 4000000 in
set_option maxRecDepth 100000 in
theorem ct_X7_minorsOf (l : Launch) (D : va_G) (ce : Nat → ClassId) (h : Nat → Nat) (F : Nat → Int) (I : Nat → Nat → Int32) (J : Nat → Nat → Int64) (n X Y : Int) (hn : 2 ≤ n ∧ n ≤ 8) (hXY : 0 ≤ X ∧ 0 ≤ Y ∧ (X ≤ 5 ∨ n ≤ 6) ∧ n - Y ≤ 6) (hE : EZ (J 4) X Y) : Ct l yX7_minorsOf cX7_minorsOf 12 none { frames := 1, cells := 0, slots := 0, locals := 22 } 0 0 D (TY ce) [.ref (h 0), .int (zI n)] (rW ce h F I J) (QV D (TY ce) (fun w1 => ∃ J2 : Nat → Nat → Int64, w1 = rW ce h F I J2 ∧ (∀ k, k ≠ 5 → J2 k = J k))) := by
  refine Ct.ofV (by decide) (Nat.le_of_ble_eq_true rfl) ?_
  intro p e s m args below meth c A Q hX hnm hR
  refine Z.pick (lv' := [(0, .ref (h 0)), (1, .int (zI n))]) [0, 1] rfl ?_
  obtain ⟨T, hT, hT1, hT2, hT3⟩ := sh1 (n := n) (by omega) hn.2
  refine Z.iconst hX dX7_minorsOf_0 ?_
  refine Z.istore_n (lv' := [(2, .int (zI 0)), (0, .ref (h 0)), (1, .int (zI n))]) hX dX7_minorsOf_1 rfl (by decide) rfl ?_
  have key_2 : ∀ (N : Nat), ∀ (k : Int) (M : Nat → Nat → Int64), (12544 - k).toNat < N → (hk : 0 ≤ k ∧ k ≤ 12544) → (hM : ∀ k, k ≠ 5 → M k = J k) → (hz : ∀ q : Int, 0 ≤ q → q < k → M 5 q.toNat = 0) → Z p l e { frames := 1, cells := 0, slots := 0, locals := 22 } s m args below meth c D A 12 0 0 Q 2 [(2, .int (zI k)), (1, .int (zI n)), (0, .ref (h 0))] [] (rW ce h F I M) := by
    intro N
    induction N with
    | zero => intro k M hm; exact absurd hm (Nat.not_lt_zero _)
    | succ N ih_2 =>
      intro k M hm hk hM hz
      refine Z.iload_n hX dX7_minorsOf_2 rfl rfl ?_
      refine Z.sipush hX dX7_minorsOf_3 (by decide) ?_
      refine Z.icmp_ge hX 22 dX7_minorsOf_6 (by decide) ⟨by omega, by omega⟩ ⟨by omega, by omega⟩ ?_ ?_
      · intro c1
        refine Z.aload_n hX dX7_minorsOf_22 rfl rfl ?_
        refine Z.getf hX 7 0 12 dX7_minorsOf_23 rfl rfl inX7 (by decide) fl_X7_39 rfl rfl ?_
        refine Z.iconst hX dX7_minorsOf_26 ?_
        refine Z.lconst (v := 1) hX dX7_minorsOf_27 rfl ?_
        refine Z.lastore hX 10 1 dX7_minorsOf_28 rfl rfl (by omega) (by omega) (by decide) ?_
        obtain ⟨J2, eJ2⟩ : ∃ J' : Nat → Nat → Int64, J' = va_up M 5 (vp_updL (M 5) (0 : Int).toNat (1)) := ⟨_, rfl⟩
        refine Z.toW (w' := rW ce h F I J2) (by rw [eJ2]; rfl) ?_
        have gJ2 : J2 5 = vp_updL (M 5) (0 : Int).toNat (1) := by rw [eJ2]; exact up_eq
        have fJ2 : ∀ k, k ≠ 5 → J2 k = M k := fun k hk => by rw [eJ2]; exact up_ne hk
        refine Z.iconst hX dX7_minorsOf_29 ?_
        refine Z.istore_n (lv' := [(2, .int (zI 1)), (1, .int (zI n)), (0, .ref (h 0))]) hX dX7_minorsOf_30 rfl (by decide) rfl ?_
        have key_31 : ∀ (N : Nat), ∀ (set : Int) (M : Nat → Nat → Int64), (256 - set).toNat < N → (hset : 1 ≤ set ∧ set ≤ 256) → (hM : ∀ k, k ≠ 5 → M k = J k) → (hmz : MZ (M 5) X Y) → Z p l e { frames := 1, cells := 0, slots := 0, locals := 22 } s m args below meth c D A 12 0 0 Q 31 [(2, .int (zI set)), (1, .int (zI n)), (0, .ref (h 0))] [] (rW ce h F I M) := by
          intro N
          induction N with
          | zero => intro set M hm; exact absurd hm (Nat.not_lt_zero _)
          | succ N ih_31 =>
            intro set M hm hset hM hmz
            refine Z.iload_n hX dX7_minorsOf_31 rfl rfl ?_
            refine Z.iconst hX dX7_minorsOf_32 ?_
            refine Z.iload_n hX dX7_minorsOf_33 rfl rfl ?_
            refine Z.ishl hX dX7_minorsOf_34 ?_
            refine Z.vali (y := zI T) hT ?_
            refine Z.icmp_ge hX 305 dX7_minorsOf_35 (by decide) ⟨by omega, by omega⟩ ⟨by omega, by omega⟩ ?_ ?_
            · intro c3
              exact hR _ _ _ dX7_minorsOf_305 ⟨M, rfl, (fun k h5 => (hM k h5))⟩
            · intro c3
              refine Z.iload_n hX dX7_minorsOf_38 rfl rfl ?_
              refine Z.callS0i (As := [.int (zI set)]) (rest := []) hX (ct_X7_countOf l D ce set (by omega)) mc_X7_countOf ml_X7_86 st_X7_countOf ini_X7 nd_X7_countOf ⟨Nat.le_of_ble_eq_true rfl, Nat.le_of_ble_eq_true rfl⟩ ⟨rfl, rfl⟩ ⟨Nat.le_refl _, Nat.le_refl _⟩ rfl (Nat.le_of_ble_eq_true rfl) dX7_minorsOf_39 ?_
              rintro r_4 w1 ⟨pcs, hr_, hw_, epcs⟩
              subst hr_
              refine ⟨hw_, ?_⟩
              refine Z.iconst hX dX7_minorsOf_42 ?_
              refine Z.isub hX dX7_minorsOf_43 ?_
              refine Z.istore_n (lv' := [(3, .int (zI (pcs - 1))), (2, .int (zI set)), (1, .int (zI n)), (0, .ref (h 0))]) hX dX7_minorsOf_44 rfl (by decide) rfl ?_
              refine Z.iconst hX dX7_minorsOf_45 ?_
              refine Z.istore (lv' := [(4, .int (zI 1)), (3, .int (zI (pcs - 1))), (2, .int (zI set)), (1, .int (zI n)), (0, .ref (h 0))]) hX dX7_minorsOf_46 (by decide) rfl ?_
              refine Z.iload_n hX dX7_minorsOf_48 rfl rfl ?_
              refine Z.iconst hX dX7_minorsOf_49 ?_
              refine Z.isub hX dX7_minorsOf_50 ?_
              refine Z.istore (lv' := [(5, .int (zI (n - 1))), (4, .int (zI 1)), (3, .int (zI (pcs - 1))), (2, .int (zI set)), (1, .int (zI n)), (0, .ref (h 0))]) hX dX7_minorsOf_51 (by decide) rfl ?_
              have key_53 : ∀ (N : Nat), ∀ (cn sg : Int) (M : Nat → Nat → Int64), (cn + 1).toNat < N → (hc : -1 ≤ cn ∧ cn ≤ n - 1) → (hsg : -1 ≤ sg ∧ sg ≤ 1) → (hM : ∀ k, k ≠ 5 → M k = J k) → (hmz : MZ (M 5) X Y) → Z p l e { frames := 1, cells := 0, slots := 0, locals := 22 } s m args below meth c D A 12 0 0 Q 53 [(5, .int (zI cn)), (4, .int (zI sg)), (3, .int (zI (pcs - 1))), (2, .int (zI set)), (1, .int (zI n)), (0, .ref (h 0))] [] (rW ce h F I M) := by
                intro N
                induction N with
                | zero => intro cn sg M hm; exact absurd hm (Nat.not_lt_zero _)
                | succ N ih_53 =>
                  intro cn sg M hm hc hsg hM hmz
                  have hpn := hT3 set (by omega) (by omega)
                  refine Z.iload hX dX7_minorsOf_53 rfl ?_
                  refine Z.if_lt hX 299 dX7_minorsOf_55 (by decide) ⟨by omega, by omega⟩ ?_ ?_
                  · intro c5
                    refine Z.iinc (lv' := [(2, .int (zI (set + 1))), (5, .int (zI cn)), (4, .int (zI sg)), (3, .int (zI (pcs - 1))), (1, .int (zI n)), (0, .ref (h 0))]) hX dX7_minorsOf_299 rfl (by decide) rfl ?_
                    refine Z.goto hX 31 dX7_minorsOf_302 (by decide) ?_
                    refine Z.pick [0, 4, 5] rfl ?_
                    exact ih_31 _ _ (by omega) (by omega) (fun k h5 => (hM k h5)) hmz
                  · intro c5
                    obtain ⟨b, t, eb, eb1, eb3, eb4, eb2⟩ := bitc (s := set) (c := cn) (by omega) (by omega) (by omega) (by omega)
                    have key_293 : ∀ (sg : Int) (M : Nat → Nat → Int64), (hsg : -1 ≤ sg ∧ sg ≤ 1) → (hM : ∀ k, k ≠ 5 → M k = J k) → (hmz : MZ (M 5) X Y) → Z p l e { frames := 1, cells := 0, slots := 0, locals := 22 } s m args below meth c D A 12 0 0 Q 293 [(5, .int (zI cn)), (4, .int (zI sg)), (3, .int (zI (pcs - 1))), (2, .int (zI set)), (1, .int (zI n)), (0, .ref (h 0))] [] (rW ce h F I M) := by
                      intro sg M hsg hM hmz
                      refine Z.iinc (lv' := [(5, .int (zI (cn + -1))), (4, .int (zI sg)), (3, .int (zI (pcs - 1))), (2, .int (zI set)), (1, .int (zI n)), (0, .ref (h 0))]) hX dX7_minorsOf_293 rfl (by decide) rfl ?_
                      refine Z.goto hX 53 dX7_minorsOf_296 (by decide) ?_
                      refine Z.pick [0, 1, 2, 3, 4, 5] rfl ?_
                      exact ih_53 _ _ _ (by omega) (by omega) (by omega) (fun k h5 => (hM k h5)) hmz
                    refine Z.iload_n hX dX7_minorsOf_58 rfl rfl ?_
                    refine Z.iload hX dX7_minorsOf_59 rfl ?_
                    refine Z.ishr hX dX7_minorsOf_61 ?_
                    refine Z.iconst hX dX7_minorsOf_62 ?_
                    refine Z.iand hX dX7_minorsOf_63 ?_
                    refine Z.vali (y := zI b) eb ?_
                    refine Z.iconst hX dX7_minorsOf_64 ?_
                    refine Z.icmp_ne hX 293 dX7_minorsOf_65 (by decide) ⟨by omega, by omega⟩ ⟨by omega, by omega⟩ ?_ ?_
                    · intro c6
                      refine Z.pick [0, 1, 2, 3, 4, 5] rfl ?_
                      exact key_293 _ _ (by omega) (fun k h5 => (hM k h5)) hmz
                    · intro c6
                      have pt1 := (eb2 (by omega)).2
                      refine Z.bipush hX dX7_minorsOf_68 (by decide) ?_
                      refine Z.iload_n hX dX7_minorsOf_70 rfl rfl ?_
                      refine Z.iconst hX dX7_minorsOf_71 ?_
                      refine Z.iload hX dX7_minorsOf_72 rfl ?_
                      refine Z.ishl hX dX7_minorsOf_74 ?_
                      refine Z.ixor hX dX7_minorsOf_75 ?_
                      refine Z.vali (y := zI t) (eb2 (by omega)).1 ?_
                      refine Z.imul hX dX7_minorsOf_76 ?_
                      refine Z.istore (lv' := [(6, .int (zI (49 * t))), (5, .int (zI cn)), (4, .int (zI sg)), (3, .int (zI (pcs - 1))), (2, .int (zI set)), (1, .int (zI n)), (0, .ref (h 0))]) hX dX7_minorsOf_77 (by decide) rfl ?_
                      refine Z.iconst hX dX7_minorsOf_79 ?_
                      refine Z.bipush hX dX7_minorsOf_80 (by decide) ?_
                      refine Z.iload_n hX dX7_minorsOf_82 rfl rfl ?_
                      refine Z.imul hX dX7_minorsOf_83 ?_
                      refine Z.iload hX dX7_minorsOf_84 rfl ?_
                      refine Z.iadd hX dX7_minorsOf_86 ?_
                      refine Z.imul hX dX7_minorsOf_87 ?_
                      refine Z.istore (lv' := [(7, .int (zI (3 * ((8 * (pcs - 1)) + cn)))), (6, .int (zI (49 * t))), (5, .int (zI cn)), (4, .int (zI sg)), (3, .int (zI (pcs - 1))), (2, .int (zI set)), (1, .int (zI n)), (0, .ref (h 0))]) hX dX7_minorsOf_88 (by decide) rfl ?_
                      refine Z.iconst hX dX7_minorsOf_90 ?_
                      refine Z.istore (lv' := [(8, .int (zI 0)), (7, .int (zI (3 * ((8 * (pcs - 1)) + cn)))), (6, .int (zI (49 * t))), (5, .int (zI cn)), (4, .int (zI sg)), (3, .int (zI (pcs - 1))), (2, .int (zI set)), (1, .int (zI n)), (0, .ref (h 0))]) hX dX7_minorsOf_91 (by decide) rfl ?_
                      have key_93 : ∀ (N : Nat), ∀ (i : Int) (M : Nat → Nat → Int64), (7 - i).toNat < N → (hi : 0 ≤ i ∧ i ≤ 7) → (hM : ∀ k, k ≠ 5 → M k = J k) → (hmz : MZ (M 5) X Y) → Z p l e { frames := 1, cells := 0, slots := 0, locals := 22 } s m args below meth c D A 12 0 0 Q 93 [(8, .int (zI i)), (7, .int (zI (3 * (8 * (pcs - 1) + cn)))), (6, .int (zI (49 * t))), (5, .int (zI cn)), (4, .int (zI sg)), (3, .int (zI (pcs - 1))), (2, .int (zI set)), (1, .int (zI n)), (0, .ref (h 0))] [] (rW ce h F I M) := by
                        intro N
                        induction N with
                        | zero => intro i M hm; exact absurd hm (Nat.not_lt_zero _)
                        | succ N ih_93 =>
                          intro i M hm hi hM hmz
                          refine Z.iload hX dX7_minorsOf_93 rfl ?_
                          refine Z.bipush hX dX7_minorsOf_95 (by decide) ?_
                          refine Z.icmp_ge hX 288 dX7_minorsOf_97 (by decide) ⟨by omega, by omega⟩ ⟨by omega, by omega⟩ ?_ ?_
                          · intro c7
                            refine Z.iload hX dX7_minorsOf_288 rfl ?_
                            refine Z.ineg hX dX7_minorsOf_290 ?_
                            refine Z.istore (lv' := [(4, .int (zI (-sg))), (8, .int (zI i)), (7, .int (zI (3 * (8 * (pcs - 1) + cn)))), (6, .int (zI (49 * t))), (5, .int (zI cn)), (3, .int (zI (pcs - 1))), (2, .int (zI set)), (1, .int (zI n)), (0, .ref (h 0))]) hX dX7_minorsOf_291 (by decide) rfl ?_
                            refine Z.pick [4, 0, 5, 6, 7, 8] rfl ?_
                            exact key_293 _ _ (by omega) (fun k h5 => (hM k h5)) hmz
                          · intro c7
                            refine Z.iconst hX dX7_minorsOf_100 ?_
                            refine Z.istore (lv' := [(9, .int (zI 0)), (8, .int (zI i)), (7, .int (zI (3 * (8 * (pcs - 1) + cn)))), (6, .int (zI (49 * t))), (5, .int (zI cn)), (4, .int (zI sg)), (3, .int (zI (pcs - 1))), (2, .int (zI set)), (1, .int (zI n)), (0, .ref (h 0))]) hX dX7_minorsOf_101 (by decide) rfl ?_
                            have key_103 : ∀ (N : Nat), ∀ (j : Int) (M : Nat → Nat → Int64), (7 - j).toNat < N → (hj : 0 ≤ j ∧ j ≤ 7) → (hM : ∀ k, k ≠ 5 → M k = J k) → (hmz : MZ (M 5) X Y) → Z p l e { frames := 1, cells := 0, slots := 0, locals := 22 } s m args below meth c D A 12 0 0 Q 103 [(9, .int (zI j)), (8, .int (zI i)), (7, .int (zI (3 * (8 * (pcs - 1) + cn)))), (6, .int (zI (49 * t))), (5, .int (zI cn)), (4, .int (zI sg)), (3, .int (zI (pcs - 1))), (2, .int (zI set)), (1, .int (zI n)), (0, .ref (h 0))] [] (rW ce h F I M) := by
                              intro N
                              induction N with
                              | zero => intro j M hm; exact absurd hm (Nat.not_lt_zero _)
                              | succ N ih_103 =>
                                intro j M hm hj hM hmz
                                refine Z.iload hX dX7_minorsOf_103 rfl ?_
                                refine Z.bipush hX dX7_minorsOf_105 (by decide) ?_
                                refine Z.icmp_ge hX 282 dX7_minorsOf_107 (by decide) ⟨by omega, by omega⟩ ⟨by omega, by omega⟩ ?_ ?_
                                · intro c8
                                  refine Z.iinc (lv' := [(8, .int (zI (i + 1))), (9, .int (zI j)), (7, .int (zI (3 * (8 * (pcs - 1) + cn)))), (6, .int (zI (49 * t))), (5, .int (zI cn)), (4, .int (zI sg)), (3, .int (zI (pcs - 1))), (2, .int (zI set)), (1, .int (zI n)), (0, .ref (h 0))]) hX dX7_minorsOf_282 rfl (by decide) rfl ?_
                                  refine Z.goto hX 93 dX7_minorsOf_285 (by decide) ?_
                                  refine Z.pick [0, 2, 3, 4, 5, 6, 7, 8, 9] rfl ?_
                                  exact ih_93 _ _ (by omega) (by omega) (fun k h5 => (hM k h5)) hmz
                                · intro c8
                                  have key_276 : ∀ (M : Nat → Nat → Int64), (hM : ∀ k, k ≠ 5 → M k = J k) → (hmz : MZ (M 5) X Y) → Z p l e { frames := 1, cells := 0, slots := 0, locals := 22 } s m args below meth c D A 12 0 0 Q 276 [(9, .int (zI j)), (8, .int (zI i)), (7, .int (zI (3 * (8 * (pcs - 1) + cn)))), (6, .int (zI (49 * t))), (5, .int (zI cn)), (4, .int (zI sg)), (3, .int (zI (pcs - 1))), (2, .int (zI set)), (1, .int (zI n)), (0, .ref (h 0))] [] (rW ce h F I M) := by
                                    intro M hM hmz
                                    refine Z.iinc (lv' := [(9, .int (zI (j + 1))), (8, .int (zI i)), (7, .int (zI (3 * (8 * (pcs - 1) + cn)))), (6, .int (zI (49 * t))), (5, .int (zI cn)), (4, .int (zI sg)), (3, .int (zI (pcs - 1))), (2, .int (zI set)), (1, .int (zI n)), (0, .ref (h 0))]) hX dX7_minorsOf_276 rfl (by decide) rfl ?_
                                    refine Z.goto hX 103 dX7_minorsOf_279 (by decide) ?_
                                    refine Z.pick [0, 1, 2, 3, 4, 5, 6, 7, 8, 9] rfl ?_
                                    exact ih_103 _ _ (by omega) (by omega) (fun k h5 => (hM k h5)) hmz
                                  refine Z.aload_n hX dX7_minorsOf_110 rfl rfl ?_
                                  refine Z.getf hX 7 0 12 dX7_minorsOf_111 rfl rfl inX7 (by decide) fl_X7_39 rfl rfl ?_
                                  refine Z.iload hX dX7_minorsOf_114 rfl ?_
                                  refine Z.bipush hX dX7_minorsOf_116 (by decide) ?_
                                  refine Z.iload hX dX7_minorsOf_118 rfl ?_
                                  refine Z.imul hX dX7_minorsOf_120 ?_
                                  refine Z.iadd hX dX7_minorsOf_121 ?_
                                  refine Z.iload hX dX7_minorsOf_122 rfl ?_
                                  refine Z.iadd hX dX7_minorsOf_124 ?_
                                  refine Z.laload hX 10 1 dX7_minorsOf_125 rfl rfl (by omega) (by omega) (by decide) ?_
                                  refine Z.lstore (lv' := [(10, .long (M 5 (((49 * t) + (7 * i)) + j : Int).toNat)), (9, .int (zI j)), (8, .int (zI i)), (7, .int (zI (3 * (8 * (pcs - 1) + cn)))), (6, .int (zI (49 * t))), (5, .int (zI cn)), (4, .int (zI sg)), (3, .int (zI (pcs - 1))), (2, .int (zI set)), (1, .int (zI n)), (0, .ref (h 0))]) hX dX7_minorsOf_126 (by decide) rfl ?_
                                  obtain ⟨mm, emm⟩ : ∃ x : Int64, x = M 5 (((49 * t) + (7 * i)) + j : Int).toNat := ⟨_, rfl⟩
                                  rw [← emm]
                                  refine Z.lload hX dX7_minorsOf_128 rfl ?_
                                  refine Z.lconst (v := 0) hX dX7_minorsOf_130 rfl ?_
                                  refine Z.lcmp_eq hX 276 dX7_minorsOf_131 dX7_minorsOf_132 (by decide) ?_ ?_
                                  · intro c9
                                    refine Z.pick [1, 2, 3, 4, 5, 6, 7, 8, 9, 10] rfl ?_
                                    exact key_276 _ (by omega) (by omega)
                                  · intro c9
                                    obtain ⟨hb1, hb2⟩ := hmz t i j (by omega) (by omega) (by omega) (by omega) (by omega) (by omega) (by rw [← emm]; assumption)
                                    have key_223 : ∀ (M : Nat → Nat → Int64), (hM : ∀ k, k ≠ 5 → M k = J k) → (hmz : MZ (M 5) X Y) → Z p l e { frames := 1, cells := 0, slots := 0, locals := 22 } s m args below meth c D A 12 0 0 Q 223 [(9, .int (zI j)), (8, .int (zI i)), (7, .int (zI (3 * (8 * (pcs - 1) + cn)))), (6, .int (zI (49 * t))), (5, .int (zI cn)), (4, .int (zI sg)), (3, .int (zI (pcs - 1))), (2, .int (zI set)), (1, .int (zI n)), (0, .ref (h 0)), (10, .long mm)] [] (rW ce h F I M) := by
                                      intro M hM hmz
                                      refine Z.aload_n hX dX7_minorsOf_223 rfl rfl ?_
                                      refine Z.getf hX 7 0 11 dX7_minorsOf_224 rfl rfl inX7 (by decide) fl_X7_36 rfl rfl ?_
                                      refine Z.iload hX dX7_minorsOf_227 rfl ?_
                                      refine Z.iconst hX dX7_minorsOf_229 ?_
                                      refine Z.iadd hX dX7_minorsOf_230 ?_
                                      refine Z.laload hX 9 1 dX7_minorsOf_231 rfl rfl (by omega) (by omega) (by decide) ?_
                                      refine Z.lconst (v := 0) hX dX7_minorsOf_232 rfl ?_
                                      refine Z.lcmp_eq hX 276 dX7_minorsOf_233 dX7_minorsOf_234 (by decide) ?_ ?_
                                      · intro c10
                                        refine Z.pick [0, 1, 2, 3, 4, 5, 6, 7, 8, 9] rfl ?_
                                        exact key_276 _ (by omega) (by omega)
                                      · intro c10
                                        have hyr : Y ≤ (pc8 t.toNat : Int) := by have := EZ_y (r := pcs - 1) (c := cn) hE (by rw [← hM 4 (by decide)]; assumption) (by omega) (by omega); omega
                                        have hbj := (bY_s hyr hb2).2
                                        refine Z.aload_n hX dX7_minorsOf_237 rfl rfl ?_
                                        refine Z.getf hX 7 0 12 dX7_minorsOf_238 rfl rfl inX7 (by decide) fl_X7_39 rfl rfl ?_
                                        refine Z.bipush hX dX7_minorsOf_241 (by decide) ?_
                                        refine Z.iload_n hX dX7_minorsOf_243 rfl rfl ?_
                                        refine Z.imul hX dX7_minorsOf_244 ?_
                                        refine Z.bipush hX dX7_minorsOf_245 (by decide) ?_
                                        refine Z.iload hX dX7_minorsOf_247 rfl ?_
                                        refine Z.imul hX dX7_minorsOf_249 ?_
                                        refine Z.iadd hX dX7_minorsOf_250 ?_
                                        refine Z.iload hX dX7_minorsOf_251 rfl ?_
                                        refine Z.iadd hX dX7_minorsOf_253 ?_
                                        refine Z.iconst hX dX7_minorsOf_254 ?_
                                        refine Z.iadd hX dX7_minorsOf_255 ?_
                                        refine Z.dup2 hX dX7_minorsOf_256 rfl rfl ?_
                                        refine Z.laload hX 10 1 dX7_minorsOf_257 rfl rfl (by omega) (by omega) (by decide) ?_
                                        refine Z.iload hX dX7_minorsOf_258 rfl ?_
                                        refine Z.i2l hX dX7_minorsOf_260 ⟨by omega, by omega⟩ ?_
                                        refine Z.lload hX dX7_minorsOf_261 rfl ?_
                                        refine Z.lmul hX dX7_minorsOf_263 ?_
                                        refine Z.aload_n hX dX7_minorsOf_264 rfl rfl ?_
                                        refine Z.getf hX 7 0 11 dX7_minorsOf_265 rfl rfl inX7 (by decide) fl_X7_36 rfl rfl ?_
                                        refine Z.iload hX dX7_minorsOf_268 rfl ?_
                                        refine Z.iconst hX dX7_minorsOf_270 ?_
                                        refine Z.iadd hX dX7_minorsOf_271 ?_
                                        refine Z.laload hX 9 1 dX7_minorsOf_272 rfl rfl (by omega) (by omega) (by decide) ?_
                                        refine Z.lmul hX dX7_minorsOf_273 ?_
                                        refine Z.ladd hX dX7_minorsOf_274 ?_
                                        refine Z.lastore hX 10 1 dX7_minorsOf_275 rfl rfl (by omega) (by omega) (by decide) ?_
                                        obtain ⟨J11, eJ11⟩ : ∃ J' : Nat → Nat → Int64, J' = va_up M 5 (vp_updL (M 5) ((((49 * set) + (7 * i)) + j) + 1 : Int).toNat ((M 5 ((((49 * set) + (7 * i)) + j) + 1 : Int).toNat) + (((zL sg) * mm) * (M 4 ((3 * (8 * (pcs - 1) + cn)) + 2 : Int).toNat)))) := ⟨_, rfl⟩
                                        refine Z.toW (w' := rW ce h F I J11) (by rw [eJ11]; rfl) ?_
                                        have gJ11 : J11 5 = vp_updL (M 5) ((((49 * set) + (7 * i)) + j) + 1 : Int).toNat ((M 5 ((((49 * set) + (7 * i)) + j) + 1 : Int).toNat) + (((zL sg) * mm) * (M 4 ((3 * (8 * (pcs - 1) + cn)) + 2 : Int).toNat))) := by rw [eJ11]; exact up_eq
                                        have fJ11 : ∀ k, k ≠ 5 → J11 k = M k := fun k hk => by rw [eJ11]; exact up_ne hk
                                        refine Z.pick [0, 1, 2, 3, 4, 5, 6, 7, 8, 9] rfl ?_
                                        exact key_276 _ (fun k h5 => ((fJ11 k h5).trans (hM k h5))) (MZ_s (s0 := set) (i0 := i) (j0 := j + 1) (by omega) (by omega) (by omega) (by have := bX_m hb1; rw [pt1] at this; exact this) (by have := (bY_s hyr hb2).1; rw [pt1] at this; exact this) hmz (by omega) gJ11)
                                    refine Z.aload_n hX dX7_minorsOf_135 rfl rfl ?_
                                    refine Z.getf hX 7 0 12 dX7_minorsOf_136 rfl rfl inX7 (by decide) fl_X7_39 rfl rfl ?_
                                    refine Z.bipush hX dX7_minorsOf_139 (by decide) ?_
                                    refine Z.iload_n hX dX7_minorsOf_141 rfl rfl ?_
                                    refine Z.imul hX dX7_minorsOf_142 ?_
                                    refine Z.bipush hX dX7_minorsOf_143 (by decide) ?_
                                    refine Z.iload hX dX7_minorsOf_145 rfl ?_
                                    refine Z.imul hX dX7_minorsOf_147 ?_
                                    refine Z.iadd hX dX7_minorsOf_148 ?_
                                    refine Z.iload hX dX7_minorsOf_149 rfl ?_
                                    refine Z.iadd hX dX7_minorsOf_151 ?_
                                    refine Z.dup2 hX dX7_minorsOf_152 rfl rfl ?_
                                    refine Z.laload hX 10 1 dX7_minorsOf_153 rfl rfl (by omega) (by omega) (by decide) ?_
                                    refine Z.iload hX dX7_minorsOf_154 rfl ?_
                                    refine Z.i2l hX dX7_minorsOf_156 ⟨by omega, by omega⟩ ?_
                                    refine Z.lload hX dX7_minorsOf_157 rfl ?_
                                    refine Z.lmul hX dX7_minorsOf_159 ?_
                                    refine Z.aload_n hX dX7_minorsOf_160 rfl rfl ?_
                                    refine Z.getf hX 7 0 11 dX7_minorsOf_161 rfl rfl inX7 (by decide) fl_X7_36 rfl rfl ?_
                                    refine Z.iload hX dX7_minorsOf_164 rfl ?_
                                    refine Z.laload hX 9 1 dX7_minorsOf_166 rfl rfl (by omega) (by omega) (by decide) ?_
                                    refine Z.lmul hX dX7_minorsOf_167 ?_
                                    refine Z.ladd hX dX7_minorsOf_168 ?_
                                    refine Z.lastore hX 10 1 dX7_minorsOf_169 rfl rfl (by omega) (by omega) (by decide) ?_
                                    obtain ⟨J12, eJ12⟩ : ∃ J' : Nat → Nat → Int64, J' = va_up M 5 (vp_updL (M 5) (((49 * set) + (7 * i)) + j : Int).toNat ((M 5 (((49 * set) + (7 * i)) + j : Int).toNat) + (((zL sg) * mm) * (M 4 (3 * (8 * (pcs - 1) + cn) : Int).toNat)))) := ⟨_, rfl⟩
                                    refine Z.toW (w' := rW ce h F I J12) (by rw [eJ12]; rfl) ?_
                                    have gJ12 : J12 5 = vp_updL (M 5) (((49 * set) + (7 * i)) + j : Int).toNat ((M 5 (((49 * set) + (7 * i)) + j : Int).toNat) + (((zL sg) * mm) * (M 4 (3 * (8 * (pcs - 1) + cn) : Int).toNat))) := by rw [eJ12]; exact up_eq
                                    have fJ12 : ∀ k, k ≠ 5 → J12 k = M k := fun k hk => by rw [eJ12]; exact up_ne hk
                                    have hMA : ∀ k, k ≠ 5 → J12 k = J k := (fun k h5 => ((fJ12 k h5).trans (hM k h5)))
                                    have hmzA : MZ (J12 5) X Y := (MZ_s (s0 := set) (i0 := i) (j0 := j) (by omega) (by omega) (by omega) (by have := bX_m hb1; rw [pt1] at this; exact this) (by have := bY_m hb2; rw [pt1] at this; exact this) hmz (by omega) gJ12)
                                    refine Z.aload_n hX dX7_minorsOf_170 rfl rfl ?_
                                    refine Z.getf hX 7 0 11 dX7_minorsOf_171 rfl rfl inX7 (by decide) fl_X7_36 rfl rfl ?_
                                    refine Z.iload hX dX7_minorsOf_174 rfl ?_
                                    refine Z.iconst hX dX7_minorsOf_176 ?_
                                    refine Z.iadd hX dX7_minorsOf_177 ?_
                                    refine Z.laload hX 9 1 dX7_minorsOf_178 rfl rfl (by omega) (by omega) (by decide) ?_
                                    refine Z.lconst (v := 0) hX dX7_minorsOf_179 rfl ?_
                                    refine Z.lcmp_eq hX 223 dX7_minorsOf_180 dX7_minorsOf_181 (by decide) ?_ ?_
                                    · intro c13
                                      refine Z.pick [1, 2, 3, 4, 5, 6, 7, 8, 9, 10, 0] rfl ?_
                                      exact key_223 _ (by omega) (by omega)
                                    · intro c13
                                      have hxr : (pc8 t.toNat : Int) < X := by have := EZ_x (r := pcs - 1) (c := cn) hE (by rw [← hMA 4 (by decide)]; assumption) (by omega) (by omega); omega
                                      have hbi := (bX_s hxr hb1).2
                                      refine Z.aload_n hX dX7_minorsOf_184 rfl rfl ?_
                                      refine Z.getf hX 7 0 12 dX7_minorsOf_185 rfl rfl inX7 (by decide) fl_X7_39 rfl rfl ?_
                                      refine Z.bipush hX dX7_minorsOf_188 (by decide) ?_
                                      refine Z.iload_n hX dX7_minorsOf_190 rfl rfl ?_
                                      refine Z.imul hX dX7_minorsOf_191 ?_
                                      refine Z.bipush hX dX7_minorsOf_192 (by decide) ?_
                                      refine Z.iload hX dX7_minorsOf_194 rfl ?_
                                      refine Z.iconst hX dX7_minorsOf_196 ?_
                                      refine Z.iadd hX dX7_minorsOf_197 ?_
                                      refine Z.imul hX dX7_minorsOf_198 ?_
                                      refine Z.iadd hX dX7_minorsOf_199 ?_
                                      refine Z.iload hX dX7_minorsOf_200 rfl ?_
                                      refine Z.iadd hX dX7_minorsOf_202 ?_
                                      refine Z.dup2 hX dX7_minorsOf_203 rfl rfl ?_
                                      refine Z.laload hX 10 1 dX7_minorsOf_204 rfl rfl (by omega) (by omega) (by decide) ?_
                                      refine Z.iload hX dX7_minorsOf_205 rfl ?_
                                      refine Z.i2l hX dX7_minorsOf_207 ⟨by omega, by omega⟩ ?_
                                      refine Z.lload hX dX7_minorsOf_208 rfl ?_
                                      refine Z.lmul hX dX7_minorsOf_210 ?_
                                      refine Z.aload_n hX dX7_minorsOf_211 rfl rfl ?_
                                      refine Z.getf hX 7 0 11 dX7_minorsOf_212 rfl rfl inX7 (by decide) fl_X7_36 rfl rfl ?_
                                      refine Z.iload hX dX7_minorsOf_215 rfl ?_
                                      refine Z.iconst hX dX7_minorsOf_217 ?_
                                      refine Z.iadd hX dX7_minorsOf_218 ?_
                                      refine Z.laload hX 9 1 dX7_minorsOf_219 rfl rfl (by omega) (by omega) (by decide) ?_
                                      refine Z.lmul hX dX7_minorsOf_220 ?_
                                      refine Z.ladd hX dX7_minorsOf_221 ?_
                                      refine Z.lastore hX 10 1 dX7_minorsOf_222 rfl rfl (by omega) (by omega) (by decide) ?_
                                      obtain ⟨J14, eJ14⟩ : ∃ J' : Nat → Nat → Int64, J' = va_up J12 5 (vp_updL (J12 5) (((49 * set) + (7 * (i + 1))) + j : Int).toNat ((J12 5 (((49 * set) + (7 * (i + 1))) + j : Int).toNat) + (((zL sg) * mm) * (J12 4 ((3 * (8 * (pcs - 1) + cn)) + 1 : Int).toNat)))) := ⟨_, rfl⟩
                                      refine Z.toW (w' := rW ce h F I J14) (by rw [eJ14]; rfl) ?_
                                      have gJ14 : J14 5 = vp_updL (J12 5) (((49 * set) + (7 * (i + 1))) + j : Int).toNat ((J12 5 (((49 * set) + (7 * (i + 1))) + j : Int).toNat) + (((zL sg) * mm) * (J12 4 ((3 * (8 * (pcs - 1) + cn)) + 1 : Int).toNat))) := by rw [eJ14]; exact up_eq
                                      have fJ14 : ∀ k, k ≠ 5 → J14 k = J12 k := fun k hk => by rw [eJ14]; exact up_ne hk
                                      refine Z.pick [1, 2, 3, 4, 5, 6, 7, 8, 9, 10, 0] rfl ?_
                                      exact key_223 _ (fun k h5 => ((fJ14 k h5).trans ((fJ12 k h5).trans (hM k h5)))) (MZ_s (s0 := set) (i0 := i + 1) (j0 := j) (by omega) (by omega) (by omega) (by have := (bX_s hxr hb1).1; rw [pt1] at this; exact this) (by have := bY_m hb2; rw [pt1] at this; exact this) hmzA (by omega) gJ14)
                            refine Z.pick [0, 1, 2, 3, 4, 5, 6, 7, 8, 9] rfl ?_
                            exact key_103 _ _ _ (Nat.lt_succ_self _) (by omega) (fun k h5 => (hM k h5)) hmz
                      refine Z.pick [0, 1, 2, 3, 4, 5, 6, 7, 8] rfl ?_
                      exact key_93 _ _ _ (Nat.lt_succ_self _) (by omega) (fun k h5 => (hM k h5)) hmz
              refine Z.pick [0, 1, 2, 3, 4, 5] rfl ?_
              exact key_53 _ _ _ _ (Nat.lt_succ_self _) (by omega) (by omega) (fun k h5 => (hM k h5)) hmz
        refine Z.pick [0, 1, 2] rfl ?_
        exact key_31 _ _ _ (Nat.lt_succ_self _) (by omega) (fun k h5 => ((fJ2 k h5).trans (hM k h5))) (MZ_0 hXY.1 (fun q h1 h2 => hz q h1 (by omega)) gJ2)
      · intro c1
        refine Z.aload_n hX dX7_minorsOf_9 rfl rfl ?_
        refine Z.getf hX 7 0 12 dX7_minorsOf_10 rfl rfl inX7 (by decide) fl_X7_39 rfl rfl ?_
        refine Z.iload_n hX dX7_minorsOf_13 rfl rfl ?_
        refine Z.lconst (v := 0) hX dX7_minorsOf_14 rfl ?_
        refine Z.lastore hX 10 1 dX7_minorsOf_15 rfl rfl (by omega) (by omega) (by decide) ?_
        obtain ⟨J15, eJ15⟩ : ∃ J' : Nat → Nat → Int64, J' = va_up M 5 (vp_updL (M 5) (k : Int).toNat (0)) := ⟨_, rfl⟩
        refine Z.toW (w' := rW ce h F I J15) (by rw [eJ15]; rfl) ?_
        have gJ15 : J15 5 = vp_updL (M 5) (k : Int).toNat (0) := by rw [eJ15]; exact up_eq
        have fJ15 : ∀ k, k ≠ 5 → J15 k = M k := fun k hk => by rw [eJ15]; exact up_ne hk
        refine Z.iinc (lv' := [(2, .int (zI (k + 1))), (1, .int (zI n)), (0, .ref (h 0))]) hX dX7_minorsOf_16 rfl (by decide) rfl ?_
        refine Z.goto hX 2 dX7_minorsOf_19 (by decide) ?_
        refine Z.pick [0, 1, 2] rfl ?_
        exact ih_2 _ _ (by omega) (by omega) (fun k h5 => ((fJ15 k h5).trans (hM k h5))) (z_fill hk.1 gJ15 hz)
  refine Z.pick [0, 2, 1] rfl ?_
  exact key_2 _ _ _ (Nat.lt_succ_self _) (by omega) (fun k h5 => rfl) (fun q h1 h2 => by omega)
end
