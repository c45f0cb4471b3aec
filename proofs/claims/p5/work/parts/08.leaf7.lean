theorem dX7_common_0 : decode cX7_common 0 = .ok (.lload_n 0, 1) := by decide +kernel
theorem dX7_common_1 : decode cX7_common 1 = .ok (.lconst 0, 1) := by decide +kernel
theorem dX7_common_2 : decode cX7_common 2 = .ok (.lcmp, 1) := by decide +kernel
theorem dX7_common_3 : decode cX7_common 3 = .ok (.ifCond .ge 8, 3) := by decide +kernel
theorem dX7_common_6 : decode cX7_common 6 = .ok (.lload_n 0, 1) := by decide +kernel
theorem dX7_common_7 : decode cX7_common 7 = .ok (.lneg, 1) := by decide +kernel
theorem dX7_common_8 : decode cX7_common 8 = .ok (.goto 4, 3) := by decide +kernel
theorem dX7_common_11 : decode cX7_common 11 = .ok (.lload_n 0, 1) := by decide +kernel
theorem dX7_common_12 : decode cX7_common 12 = .ok (.lstore 4, 2) := by decide +kernel
theorem dX7_common_14 : decode cX7_common 14 = .ok (.lload_n 2, 1) := by decide +kernel
theorem dX7_common_15 : decode cX7_common 15 = .ok (.lconst 0, 1) := by decide +kernel
theorem dX7_common_16 : decode cX7_common 16 = .ok (.lcmp, 1) := by decide +kernel
theorem dX7_common_17 : decode cX7_common 17 = .ok (.ifCond .ge 8, 3) := by decide +kernel
theorem dX7_common_20 : decode cX7_common 20 = .ok (.lload_n 2, 1) := by decide +kernel
theorem dX7_common_21 : decode cX7_common 21 = .ok (.lneg, 1) := by decide +kernel
theorem dX7_common_22 : decode cX7_common 22 = .ok (.goto 4, 3) := by decide +kernel
theorem dX7_common_25 : decode cX7_common 25 = .ok (.lload_n 2, 1) := by decide +kernel
theorem dX7_common_26 : decode cX7_common 26 = .ok (.lstore 6, 2) := by decide +kernel
theorem dX7_common_28 : decode cX7_common 28 = .ok (.lload 6, 2) := by decide +kernel
theorem dX7_common_30 : decode cX7_common 30 = .ok (.lconst 0, 1) := by decide +kernel
theorem dX7_common_31 : decode cX7_common 31 = .ok (.lcmp, 1) := by decide +kernel
theorem dX7_common_32 : decode cX7_common 32 = .ok (.ifCond .eq 21, 3) := by decide +kernel
theorem dX7_common_35 : decode cX7_common 35 = .ok (.lload 4, 2) := by decide +kernel
theorem dX7_common_37 : decode cX7_common 37 = .ok (.lload 6, 2) := by decide +kernel
theorem dX7_common_39 : decode cX7_common 39 = .ok (.lrem, 1) := by decide +kernel
theorem dX7_common_40 : decode cX7_common 40 = .ok (.lstore 8, 2) := by decide +kernel
theorem dX7_common_42 : decode cX7_common 42 = .ok (.lload 6, 2) := by decide +kernel
theorem dX7_common_44 : decode cX7_common 44 = .ok (.lstore 4, 2) := by decide +kernel
theorem dX7_common_46 : decode cX7_common 46 = .ok (.lload 8, 2) := by decide +kernel
theorem dX7_common_48 : decode cX7_common 48 = .ok (.lstore 6, 2) := by decide +kernel
theorem dX7_common_50 : decode cX7_common 50 = .ok (.goto (-22), 3) := by decide +kernel
theorem dX7_common_53 : decode cX7_common 53 = .ok (.lload 4, 2) := by decide +kernel
theorem dX7_common_55 : decode cX7_common 55 = .ok (.lreturn, 1) := by decide +kernel
set_option maxHeartbeats 4000000 in
set_option maxRecDepth 100000 in
theorem ct_X7_common (l : Launch) (D : va_G) (ce : Nat → ClassId) (a b : Int64)  : Ct l yX7_common cX7_common 10 (some .long) { frames := 0, cells := 0, slots := 0, locals := 0 } 0 0 D (TY ce) [.long a, .long b] ([]) (QL D (TY ce) (fun r w1 => ∃ r0 : Int64, r = r0 ∧ w1 = [] ∧ (cgE a b r0))) := by
  refine Ct.ofL (by decide) (Nat.le_of_ble_eq_true rfl) ?_
  intro p e s m args below meth c A Q hX hnm hR
  refine Z.pick (lv' := [(0, .long a), (2, .long b)]) [0, 1] rfl ?_
  have key_12 : ∀ (x : Int64), (hx1 : x = lab a) → Z p l e { frames := 0, cells := 0, slots := 0, locals := 0 } s m args below meth c D A 10 0 0 Q 12 [(0, .long a), (2, .long b)] [.long x] ([]) := by
    intro x hx1
    refine Z.lstore (lv' := [(4, .long x), (0, .long a), (2, .long b)]) hX dX7_common_12 (by decide) rfl ?_
    have key_26 : ∀ (y : Int64), (hy1 : y = lab b) → Z p l e { frames := 0, cells := 0, slots := 0, locals := 0 } s m args below meth c D A 10 0 0 Q 26 [(4, .long x)] [.long y] ([]) := by
      intro y hy1
      refine Z.lstore (lv' := [(6, .long y), (4, .long x)]) hX dX7_common_26 (by decide) rfl ?_
      have key_28 : ∀ (N : Nat), ∀ (x y : Int64), y.toInt.natAbs < N → (hi : cgI a b x y) → Z p l e { frames := 0, cells := 0, slots := 0, locals := 0 } s m args below meth c D A 10 0 0 Q 28 [(4, .long x), (6, .long y)] [] ([]) := by
        intro N
        induction N with
        | zero => intro x y hm; exact absurd hm (Nat.not_lt_zero _)
        | succ N ih_28 =>
          intro x y hm hi
          refine Z.lload hX dX7_common_28 rfl ?_
          refine Z.lconst (v := 0) hX dX7_common_30 rfl ?_
          refine Z.lcmp_eq hX 53 dX7_common_31 dX7_common_32 (by decide) ?_ ?_
          · intro c1
            refine Z.lload hX dX7_common_53 rfl ?_
            exact hR _ _ _ _ dX7_common_55 ⟨x, rfl, rfl, cgI_e (by assumption) hi⟩
          · intro c1
            refine Z.lload hX dX7_common_35 rfl ?_
            refine Z.lload hX dX7_common_37 rfl ?_
            refine Z.lrem hX dX7_common_39 (by assumption) ?_
            refine Z.lstore (lv' := [(8, .long (x - x / y * y)), (4, .long x), (6, .long y)]) hX dX7_common_40 (by decide) rfl ?_
            refine Z.lload hX dX7_common_42 rfl ?_
            refine Z.lstore (lv' := [(4, .long y), (8, .long (x - x / y * y)), (6, .long y)]) hX dX7_common_44 (by decide) rfl ?_
            refine Z.lload hX dX7_common_46 rfl ?_
            refine Z.lstore (lv' := [(6, .long (x - x / y * y)), (4, .long y), (8, .long (x - x / y * y))]) hX dX7_common_48 (by decide) rfl ?_
            refine Z.goto hX 28 dX7_common_50 (by decide) ?_
            refine Z.pick [1, 0] rfl ?_
            exact ih_28 _ _ (Nat.lt_of_lt_of_le (cg_dec (by assumption)) (Nat.le_of_lt_succ hm)) (cgI_s (by assumption) hi)
      refine Z.pick [1, 0] rfl ?_
      exact key_28 _ _ _ (Nat.lt_succ_self _) (by rw [hx1, hy1]; exact cgI_0 a b)
    refine Z.lload_n hX dX7_common_14 rfl rfl ?_
    refine Z.lconst (v := 0) hX dX7_common_15 rfl ?_
    refine Z.lcmp_ge hX 25 dX7_common_16 dX7_common_17 (by decide) ?_ ?_
    · intro c2
      refine Z.lload_n hX dX7_common_25 rfl rfl ?_
      refine Z.pick [0] rfl ?_
      exact key_26 _ (lab_pos (by assumption))
    · intro c2
      refine Z.lload_n hX dX7_common_20 rfl rfl ?_
      refine Z.lneg hX dX7_common_21 ?_
      refine Z.goto hX 26 dX7_common_22 (by decide) ?_
      refine Z.pick [0] rfl ?_
      exact key_26 _ (lab_neg (by assumption))
  refine Z.lload_n hX dX7_common_0 rfl rfl ?_
  refine Z.lconst (v := 0) hX dX7_common_1 rfl ?_
  refine Z.lcmp_ge hX 11 dX7_common_2 dX7_common_3 (by decide) ?_ ?_
  · intro c3
    refine Z.lload_n hX dX7_common_11 rfl rfl ?_
    refine Z.pick [0, 1] rfl ?_
    exact key_12 _ (lab_pos (by assumption))
  · intro c3
    refine Z.lload_n hX dX7_common_6 rfl rfl ?_
    refine Z.lneg hX dX7_common_7 ?_
    refine Z.goto hX 12 dX7_common_8 (by decide) ?_
    refine Z.pick [0, 1] rfl ?_
    exact key_12 _ (lab_neg (by assumption))

theorem dX7_degreeOf_0 : decode cX7_degreeOf 0 = .ok (.iconst 4, 1) := by decide +kernel
theorem dX7_degreeOf_1 : decode cX7_degreeOf 1 = .ok (.istore_n 1, 1) := by decide +kernel
theorem dX7_degreeOf_2 : decode cX7_degreeOf 2 = .ok (.iload_n 1, 1) := by decide +kernel
theorem dX7_degreeOf_3 : decode cX7_degreeOf 3 = .ok (.ifCond .lt 17, 3) := by decide +kernel
theorem dX7_degreeOf_6 : decode cX7_degreeOf 6 = .ok (.aload_n 0, 1) := by decide +kernel
theorem dX7_degreeOf_7 : decode cX7_degreeOf 7 = .ok (.iload_n 1, 1) := by decide +kernel
theorem dX7_degreeOf_8 : decode cX7_degreeOf 8 = .ok (.laload, 1) := by decide +kernel
theorem dX7_degreeOf_9 : decode cX7_degreeOf 9 = .ok (.lconst 0, 1) := by decide +kernel
theorem dX7_degreeOf_10 : decode cX7_degreeOf 10 = .ok (.lcmp, 1) := by decide +kernel
theorem dX7_degreeOf_11 : decode cX7_degreeOf 11 = .ok (.ifCond .ne 9, 3) := by decide +kernel
theorem dX7_degreeOf_14 : decode cX7_degreeOf 14 = .ok (.iinc 1 (-1), 3) := by decide +kernel
theorem dX7_degreeOf_17 : decode cX7_degreeOf 17 = .ok (.goto (-15), 3) := by decide +kernel
theorem dX7_degreeOf_20 : decode cX7_degreeOf 20 = .ok (.iload_n 1, 1) := by decide +kernel
theorem dX7_degreeOf_21 : decode cX7_degreeOf 21 = .ok (.ireturn, 1) := by decide +kernel
set_option maxHeartbeats 4000000 in
set_option maxRecDepth 100000 in
theorem ct_X7_degreeOf (l : Launch) (D : va_G) (ce : Nat → ClassId) (ad : Nat) (f : Nat → Int64)  : Ct l yX7_degreeOf cX7_degreeOf 2 (some .int) { frames := 0, cells := 0, slots := 0, locals := 0 } 0 0 D (TY ce) [.ref ad] ([(ad, .inl (ce 1, 5, .inr (.inl f)))]) (QI D (TY ce) (fun r w1 => ∃ z : Int, r = zI z ∧ w1 = [(ad, .inl (ce 1, 5, .inr (.inl f)))] ∧ (-1 ≤ z ∧ z ≤ 4) ∧ (∀ k : Int, z < k → k ≤ 4 → f k.toNat = 0) ∧ (0 ≤ z → f z.toNat ≠ 0))) := by
  refine Ct.ofI (by decide) (Nat.le_of_ble_eq_true rfl) ?_
  intro p e s m args below meth c A Q hX hnm hR
  refine Z.pick (lv' := [(0, .ref ad)]) [0] rfl ?_
  refine Z.iconst hX dX7_degreeOf_0 ?_
  refine Z.istore_n (lv' := [(1, .int (zI 4)), (0, .ref ad)]) hX dX7_degreeOf_1 rfl (by decide) rfl ?_
  have key_2 : ∀ (N : Nat), ∀ (z : Int), (z + 1).toNat < N → (h1 : -1 ≤ z ∧ z ≤ 4) → (h2 : ∀ k : Int, z < k → k ≤ 4 → f k.toNat = 0) → Z p l e { frames := 0, cells := 0, slots := 0, locals := 0 } s m args below meth c D A 2 0 0 Q 2 [(1, .int (zI z)), (0, .ref ad)] [] ([(ad, .inl (ce 1, 5, .inr (.inl f)))]) := by
    intro N
    induction N with
    | zero => intro z hm; exact absurd hm (Nat.not_lt_zero _)
    | succ N ih_2 =>
      intro z hm h1 h2
      refine Z.iload_n hX dX7_degreeOf_2 rfl rfl ?_
      refine Z.if_lt hX 20 dX7_degreeOf_3 (by decide) ⟨by omega, by omega⟩ ?_ ?_
      · intro c1
        refine Z.iload_n hX dX7_degreeOf_20 rfl rfl ?_
        exact hR _ _ _ _ dX7_degreeOf_21 ⟨z, rfl, rfl, h1, h2, (fun h => by first | omega | assumption)⟩
      · intro c1
        refine Z.aload_n hX dX7_degreeOf_6 rfl rfl ?_
        refine Z.iload_n hX dX7_degreeOf_7 rfl rfl ?_
        refine Z.laload hX 0 1 dX7_degreeOf_8 rfl rfl (by omega) (by omega) (by decide) ?_
        refine Z.lconst (v := 0) hX dX7_degreeOf_9 rfl ?_
        refine Z.lcmp_ne hX 20 dX7_degreeOf_10 dX7_degreeOf_11 (by decide) ?_ ?_
        · intro c2
          refine Z.iload_n hX dX7_degreeOf_20 rfl rfl ?_
          exact hR _ _ _ _ dX7_degreeOf_21 ⟨z, rfl, rfl, h1, h2, (fun h => by first | omega | assumption)⟩
        · intro c2
          refine Z.iinc (lv' := [(1, .int (zI (z + -1))), (0, .ref ad)]) hX dX7_degreeOf_14 rfl (by decide) rfl ?_
          refine Z.goto hX 2 dX7_degreeOf_17 (by decide) ?_
          refine Z.pick [0, 1] rfl ?_
          exact ih_2 _ (by omega) (by omega) (dg_ih h2 (by assumption))
  refine Z.pick [0, 1] rfl ?_
  exact key_2 _ _ (Nat.lt_succ_self _) (by omega) (fun k h3 h4 => by omega)

theorem dX7_isSort_0 : decode cX7_isSort 0 = .ok (.iload_n 0, 1) := by decide +kernel
theorem dX7_isSort_1 : decode cX7_isSort 1 = .ok (.ifCond .eq 8, 3) := by decide +kernel
theorem dX7_isSort_4 : decode cX7_isSort 4 = .ok (.iload_n 0, 1) := by decide +kernel
theorem dX7_isSort_5 : decode cX7_isSort 5 = .ok (.iconst 1, 1) := by decide +kernel
theorem dX7_isSort_6 : decode cX7_isSort 6 = .ok (.if_icmp .ne 7, 3) := by decide +kernel
theorem dX7_isSort_9 : decode cX7_isSort 9 = .ok (.iconst 1, 1) := by decide +kernel
theorem dX7_isSort_10 : decode cX7_isSort 10 = .ok (.goto 4, 3) := by decide +kernel
theorem dX7_isSort_13 : decode cX7_isSort 13 = .ok (.iconst 0, 1) := by decide +kernel
theorem dX7_isSort_14 : decode cX7_isSort 14 = .ok (.ireturn, 1) := by decide +kernel
set_option maxHeartbeats 4000000 in
set_option maxRecDepth 100000 in
theorem ct_X7_isSort (l : Launch) (D : va_G) (ce : Nat → ClassId) (a : Int) (ha : -2147483648 ≤ a ∧ a < 2147483648) : Ct l yX7_isSort cX7_isSort 1 (some .boolean) { frames := 0, cells := 0, slots := 0, locals := 0 } 0 0 D (TY ce) [.int (zI a)] ([]) (QI D (TY ce) (fun r w1 => ∃ z : Int, r = zI z ∧ w1 = [] ∧ ((z = 1 ∧ (a = 0 ∨ a = 1)) ∨ (z = 0 ∧ ¬ (a = 0 ∨ a = 1))))) := by
  refine Ct.ofB (by decide) (Nat.le_of_ble_eq_true rfl) ?_
  intro p e s m args below meth c A Q hX hnm hR
  refine Z.pick (lv' := [(0, .int (zI a))]) [0] rfl ?_
  refine Z.iload_n hX dX7_isSort_0 rfl rfl ?_
  refine Z.if_eq hX 9 dX7_isSort_1 (by decide) ⟨by omega, by omega⟩ ?_ ?_
  · intro c1
    refine Z.iconst hX dX7_isSort_9 ?_
    refine Z.goto hX 14 dX7_isSort_10 (by decide) ?_
    exact hR _ _ _ _ dX7_isSort_14 rfl ⟨1, rfl, rfl, (by omega)⟩
  · intro c1
    refine Z.iload_n hX dX7_isSort_4 rfl rfl ?_
    refine Z.iconst hX dX7_isSort_5 ?_
    refine Z.icmp_ne hX 13 dX7_isSort_6 (by decide) ⟨by omega, by omega⟩ ⟨by omega, by omega⟩ ?_ ?_
    · intro c2
      refine Z.iconst hX dX7_isSort_13 ?_
      exact hR _ _ _ _ dX7_isSort_14 rfl ⟨0, rfl, rfl, (by omega)⟩
    · intro c2
      refine Z.iconst hX dX7_isSort_9 ?_
      refine Z.goto hX 14 dX7_isSort_10 (by decide) ?_
      exact hR _ _ _ _ dX7_isSort_14 rfl ⟨1, rfl, rfl, (by omega)⟩

theorem dX7_isParameter_0 : decode cX7_isParameter 0 = .ok (.iload_n 0, 1) := by decide +kernel
theorem dX7_isParameter_1 : decode cX7_isParameter 1 = .ok (.bipush (-9), 2) := by decide +kernel
theorem dX7_isParameter_3 : decode cX7_isParameter 3 = .ok (.if_icmp .lt 33, 3) := by decide +kernel
theorem dX7_isParameter_6 : decode cX7_isParameter 6 = .ok (.iload_n 0, 1) := by decide +kernel
theorem dX7_isParameter_7 : decode cX7_isParameter 7 = .ok (.bipush 9, 2) := by decide +kernel
theorem dX7_isParameter_9 : decode cX7_isParameter 9 = .ok (.if_icmp .gt 27, 3) := by decide +kernel
theorem dX7_isParameter_12 : decode cX7_isParameter 12 = .ok (.iload_n 1, 1) := by decide +kernel
theorem dX7_isParameter_13 : decode cX7_isParameter 13 = .ok (.bipush (-9), 2) := by decide +kernel
theorem dX7_isParameter_15 : decode cX7_isParameter 15 = .ok (.if_icmp .lt 21, 3) := by decide +kernel
theorem dX7_isParameter_18 : decode cX7_isParameter 18 = .ok (.iload_n 1, 1) := by decide +kernel
theorem dX7_isParameter_19 : decode cX7_isParameter 19 = .ok (.bipush 9, 2) := by decide +kernel
theorem dX7_isParameter_21 : decode cX7_isParameter 21 = .ok (.if_icmp .gt 15, 3) := by decide +kernel
theorem dX7_isParameter_24 : decode cX7_isParameter 24 = .ok (.iload_n 0, 1) := by decide +kernel
theorem dX7_isParameter_25 : decode cX7_isParameter 25 = .ok (.ifCond .ne 7, 3) := by decide +kernel
theorem dX7_isParameter_28 : decode cX7_isParameter 28 = .ok (.iload_n 1, 1) := by decide +kernel
theorem dX7_isParameter_29 : decode cX7_isParameter 29 = .ok (.ifCond .eq 7, 3) := by decide +kernel
theorem dX7_isParameter_32 : decode cX7_isParameter 32 = .ok (.iconst 1, 1) := by decide +kernel
theorem dX7_isParameter_33 : decode cX7_isParameter 33 = .ok (.goto 4, 3) := by decide +kernel
theorem dX7_isParameter_36 : decode cX7_isParameter 36 = .ok (.iconst 0, 1) := by decide +kernel
theorem dX7_isParameter_37 : decode cX7_isParameter 37 = .ok (.ireturn, 1) := by decide +kernel
set_option maxHeartbeats 4000000 in
set_option maxRecDepth 100000 in
theorem ct_X7_isParameter (l : Launch) (D : va_G) (ce : Nat → ClassId) (a b : Int) (ha : -2147483648 ≤ a ∧ a < 2147483648) (hb : -2147483648 ≤ b ∧ b < 2147483648) : Ct l yX7_isParameter cX7_isParameter 2 (some .boolean) { frames := 0, cells := 0, slots := 0, locals := 0 } 0 0 D (TY ce) [.int (zI a), .int (zI b)] ([]) (QI D (TY ce) (fun r w1 => ∃ z : Int, r = zI z ∧ w1 = [] ∧ ((z = 1 ∧ (-9 ≤ a ∧ a ≤ 9 ∧ -9 ≤ b ∧ b ≤ 9 ∧ ¬ (a = 0 ∧ b = 0))) ∨ (z = 0 ∧ ¬ (-9 ≤ a ∧ a ≤ 9 ∧ -9 ≤ b ∧ b ≤ 9 ∧ ¬ (a = 0 ∧ b = 0)))))) := by
  refine Ct.ofB (by decide) (Nat.le_of_ble_eq_true rfl) ?_
  intro p e s m args below meth c A Q hX hnm hR
  refine Z.pick (lv' := [(0, .int (zI a)), (1, .int (zI b))]) [0, 1] rfl ?_
  refine Z.iload_n hX dX7_isParameter_0 rfl rfl ?_
  refine Z.bipush hX dX7_isParameter_1 (by decide) ?_
  refine Z.icmp_lt hX 36 dX7_isParameter_3 (by decide) ⟨by omega, by omega⟩ ⟨by omega, by omega⟩ ?_ ?_
  · intro c1
    refine Z.iconst hX dX7_isParameter_36 ?_
    exact hR _ _ _ _ dX7_isParameter_37 rfl ⟨0, rfl, rfl, (by omega)⟩
  · intro c1
    refine Z.iload_n hX dX7_isParameter_6 rfl rfl ?_
    refine Z.bipush hX dX7_isParameter_7 (by decide) ?_
    refine Z.icmp_gt hX 36 dX7_isParameter_9 (by decide) ⟨by omega, by omega⟩ ⟨by omega, by omega⟩ ?_ ?_
    · intro c2
      refine Z.iconst hX dX7_isParameter_36 ?_
      exact hR _ _ _ _ dX7_isParameter_37 rfl ⟨0, rfl, rfl, (by omega)⟩
    · intro c2
      refine Z.iload_n hX dX7_isParameter_12 rfl rfl ?_
      refine Z.bipush hX dX7_isParameter_13 (by decide) ?_
      refine Z.icmp_lt hX 36 dX7_isParameter_15 (by decide) ⟨by omega, by omega⟩ ⟨by omega, by omega⟩ ?_ ?_
      · intro c3
        refine Z.iconst hX dX7_isParameter_36 ?_
        exact hR _ _ _ _ dX7_isParameter_37 rfl ⟨0, rfl, rfl, (by omega)⟩
      · intro c3
        refine Z.iload_n hX dX7_isParameter_18 rfl rfl ?_
        refine Z.bipush hX dX7_isParameter_19 (by decide) ?_
        refine Z.icmp_gt hX 36 dX7_isParameter_21 (by decide) ⟨by omega, by omega⟩ ⟨by omega, by omega⟩ ?_ ?_
        · intro c4
          refine Z.iconst hX dX7_isParameter_36 ?_
          exact hR _ _ _ _ dX7_isParameter_37 rfl ⟨0, rfl, rfl, (by omega)⟩
        · intro c4
          refine Z.iload_n hX dX7_isParameter_24 rfl rfl ?_
          refine Z.if_ne hX 32 dX7_isParameter_25 (by decide) ⟨by omega, by omega⟩ ?_ ?_
          · intro c5
            refine Z.iconst hX dX7_isParameter_32 ?_
            refine Z.goto hX 37 dX7_isParameter_33 (by decide) ?_
            exact hR _ _ _ _ dX7_isParameter_37 rfl ⟨1, rfl, rfl, (by omega)⟩
          · intro c5
            refine Z.iload_n hX dX7_isParameter_28 rfl rfl ?_
            refine Z.if_eq hX 36 dX7_isParameter_29 (by decide) ⟨by omega, by omega⟩ ?_ ?_
            · intro c6
              refine Z.iconst hX dX7_isParameter_36 ?_
              exact hR _ _ _ _ dX7_isParameter_37 rfl ⟨0, rfl, rfl, (by omega)⟩
            · intro c6
              refine Z.iconst hX dX7_isParameter_32 ?_
              refine Z.goto hX 37 dX7_isParameter_33 (by decide) ?_
              exact hR _ _ _ _ dX7_isParameter_37 rfl ⟨1, rfl, rfl, (by omega)⟩

theorem dX7_isPlace_0 : decode cX7_isPlace 0 = .ok (.iload_n 0, 1) := by decide +kernel
theorem dX7_isPlace_1 : decode cX7_isPlace 1 = .ok (.bipush (-20), 2) := by decide +kernel
theorem dX7_isPlace_3 : decode cX7_isPlace 3 = .ok (.if_icmp .lt 36, 3) := by decide +kernel
theorem dX7_isPlace_6 : decode cX7_isPlace 6 = .ok (.iload_n 0, 1) := by decide +kernel
theorem dX7_isPlace_7 : decode cX7_isPlace 7 = .ok (.bipush 20, 2) := by decide +kernel
theorem dX7_isPlace_9 : decode cX7_isPlace 9 = .ok (.if_icmp .gt 30, 3) := by decide +kernel
theorem dX7_isPlace_12 : decode cX7_isPlace 12 = .ok (.iload_n 1, 1) := by decide +kernel
theorem dX7_isPlace_13 : decode cX7_isPlace 13 = .ok (.bipush (-20), 2) := by decide +kernel
theorem dX7_isPlace_15 : decode cX7_isPlace 15 = .ok (.if_icmp .lt 24, 3) := by decide +kernel
theorem dX7_isPlace_18 : decode cX7_isPlace 18 = .ok (.iload_n 1, 1) := by decide +kernel
theorem dX7_isPlace_19 : decode cX7_isPlace 19 = .ok (.bipush 20, 2) := by decide +kernel
theorem dX7_isPlace_21 : decode cX7_isPlace 21 = .ok (.if_icmp .gt 18, 3) := by decide +kernel
theorem dX7_isPlace_24 : decode cX7_isPlace 24 = .ok (.iload_n 2, 1) := by decide +kernel
theorem dX7_isPlace_25 : decode cX7_isPlace 25 = .ok (.iconst 1, 1) := by decide +kernel
theorem dX7_isPlace_26 : decode cX7_isPlace 26 = .ok (.if_icmp .lt 13, 3) := by decide +kernel
theorem dX7_isPlace_29 : decode cX7_isPlace 29 = .ok (.iload_n 2, 1) := by decide +kernel
theorem dX7_isPlace_30 : decode cX7_isPlace 30 = .ok (.bipush 9, 2) := by decide +kernel
theorem dX7_isPlace_32 : decode cX7_isPlace 32 = .ok (.if_icmp .gt 7, 3) := by decide +kernel
theorem dX7_isPlace_35 : decode cX7_isPlace 35 = .ok (.iconst 1, 1) := by decide +kernel
theorem dX7_isPlace_36 : decode cX7_isPlace 36 = .ok (.goto 4, 3) := by decide +kernel
theorem dX7_isPlace_39 : decode cX7_isPlace 39 = .ok (.iconst 0, 1) := by decide +kernel
theorem dX7_isPlace_40 : decode cX7_isPlace 40 = .ok (.ireturn, 1) := by decide +kernel
set_option maxHeartbeats 4000000 in
set_option maxRecDepth 100000 in
theorem ct_X7_isPlace (l : Launch) (D : va_G) (ce : Nat → ClassId) (a b d : Int) (ha : -2147483648 ≤ a ∧ a < 2147483648) (hb : -2147483648 ≤ b ∧ b < 2147483648) (hd : -2147483648 ≤ d ∧ d < 2147483648) : Ct l yX7_isPlace cX7_isPlace 3 (some .boolean) { frames := 0, cells := 0, slots := 0, locals := 0 } 0 0 D (TY ce) [.int (zI a), .int (zI b), .int (zI d)] ([]) (QI D (TY ce) (fun r w1 => ∃ z : Int, r = zI z ∧ w1 = [] ∧ ((z = 1 ∧ (-20 ≤ a ∧ a ≤ 20 ∧ -20 ≤ b ∧ b ≤ 20 ∧ 1 ≤ d ∧ d ≤ 9)) ∨ (z = 0 ∧ ¬ (-20 ≤ a ∧ a ≤ 20 ∧ -20 ≤ b ∧ b ≤ 20 ∧ 1 ≤ d ∧ d ≤ 9))))) := by
  refine Ct.ofB (by decide) (Nat.le_of_ble_eq_true rfl) ?_
  intro p e s m args below meth c A Q hX hnm hR
  refine Z.pick (lv' := [(0, .int (zI a)), (1, .int (zI b)), (2, .int (zI d))]) [0, 1, 2] rfl ?_
  refine Z.iload_n hX dX7_isPlace_0 rfl rfl ?_
  refine Z.bipush hX dX7_isPlace_1 (by decide) ?_
  refine Z.icmp_lt hX 39 dX7_isPlace_3 (by decide) ⟨by omega, by omega⟩ ⟨by omega, by omega⟩ ?_ ?_
  · intro c1
    refine Z.iconst hX dX7_isPlace_39 ?_
    exact hR _ _ _ _ dX7_isPlace_40 rfl ⟨0, rfl, rfl, (by omega)⟩
  · intro c1
    refine Z.iload_n hX dX7_isPlace_6 rfl rfl ?_
    refine Z.bipush hX dX7_isPlace_7 (by decide) ?_
    refine Z.icmp_gt hX 39 dX7_isPlace_9 (by decide) ⟨by omega, by omega⟩ ⟨by omega, by omega⟩ ?_ ?_
    · intro c2
      refine Z.iconst hX dX7_isPlace_39 ?_
      exact hR _ _ _ _ dX7_isPlace_40 rfl ⟨0, rfl, rfl, (by omega)⟩
    · intro c2
      refine Z.iload_n hX dX7_isPlace_12 rfl rfl ?_
      refine Z.bipush hX dX7_isPlace_13 (by decide) ?_
      refine Z.icmp_lt hX 39 dX7_isPlace_15 (by decide) ⟨by omega, by omega⟩ ⟨by omega, by omega⟩ ?_ ?_
      · intro c3
        refine Z.iconst hX dX7_isPlace_39 ?_
        exact hR _ _ _ _ dX7_isPlace_40 rfl ⟨0, rfl, rfl, (by omega)⟩
      · intro c3
        refine Z.iload_n hX dX7_isPlace_18 rfl rfl ?_
        refine Z.bipush hX dX7_isPlace_19 (by decide) ?_
        refine Z.icmp_gt hX 39 dX7_isPlace_21 (by decide) ⟨by omega, by omega⟩ ⟨by omega, by omega⟩ ?_ ?_
        · intro c4
          refine Z.iconst hX dX7_isPlace_39 ?_
          exact hR _ _ _ _ dX7_isPlace_40 rfl ⟨0, rfl, rfl, (by omega)⟩
        · intro c4
          refine Z.iload_n hX dX7_isPlace_24 rfl rfl ?_
          refine Z.iconst hX dX7_isPlace_25 ?_
          refine Z.icmp_lt hX 39 dX7_isPlace_26 (by decide) ⟨by omega, by omega⟩ ⟨by omega, by omega⟩ ?_ ?_
          · intro c5
            refine Z.iconst hX dX7_isPlace_39 ?_
            exact hR _ _ _ _ dX7_isPlace_40 rfl ⟨0, rfl, rfl, (by omega)⟩
          · intro c5
            refine Z.iload_n hX dX7_isPlace_29 rfl rfl ?_
            refine Z.bipush hX dX7_isPlace_30 (by decide) ?_
            refine Z.icmp_gt hX 39 dX7_isPlace_32 (by decide) ⟨by omega, by omega⟩ ⟨by omega, by omega⟩ ?_ ?_
            · intro c6
              refine Z.iconst hX dX7_isPlace_39 ?_
              exact hR _ _ _ _ dX7_isPlace_40 rfl ⟨0, rfl, rfl, (by omega)⟩
            · intro c6
              refine Z.iconst hX dX7_isPlace_35 ?_
              refine Z.goto hX 40 dX7_isPlace_36 (by decide) ?_
              exact hR _ _ _ _ dX7_isPlace_40 rfl ⟨1, rfl, rfl, (by omega)⟩

theorem dX7_raised_0 : decode cX7_raised 0 = .ok (.lconst 1, 1) := by decide +kernel
theorem dX7_raised_1 : decode cX7_raised 1 = .ok (.lstore_n 3, 1) := by decide +kernel
theorem dX7_raised_2 : decode cX7_raised 2 = .ok (.iconst 0, 1) := by decide +kernel
theorem dX7_raised_3 : decode cX7_raised 3 = .ok (.istore 5, 2) := by decide +kernel
theorem dX7_raised_5 : decode cX7_raised 5 = .ok (.iload 5, 2) := by decide +kernel
theorem dX7_raised_7 : decode cX7_raised 7 = .ok (.iload_n 2, 1) := by decide +kernel
theorem dX7_raised_8 : decode cX7_raised 8 = .ok (.if_icmp .ge 13, 3) := by decide +kernel
theorem dX7_raised_11 : decode cX7_raised 11 = .ok (.lload_n 3, 1) := by decide +kernel
theorem dX7_raised_12 : decode cX7_raised 12 = .ok (.lload_n 0, 1) := by decide +kernel
theorem dX7_raised_13 : decode cX7_raised 13 = .ok (.lmul, 1) := by decide +kernel
theorem dX7_raised_14 : decode cX7_raised 14 = .ok (.lstore_n 3, 1) := by decide +kernel
theorem dX7_raised_15 : decode cX7_raised 15 = .ok (.iinc 5 1, 3) := by decide +kernel
theorem dX7_raised_18 : decode cX7_raised 18 = .ok (.goto (-13), 3) := by decide +kernel
theorem dX7_raised_21 : decode cX7_raised 21 = .ok (.lload_n 3, 1) := by decide +kernel
theorem dX7_raised_22 : decode cX7_raised 22 = .ok (.lreturn, 1) := by decide +kernel
set_option maxHeartbeats 4000000 in
set_option maxRecDepth 100000 in
theorem ct_X7_raised (l : Launch) (D : va_G) (ce : Nat → ClassId) (b : Int64) (n : Int) (hn : -2147483648 ≤ n ∧ n < 2147483648) : Ct l yX7_raised cX7_raised 6 (some .long) { frames := 0, cells := 0, slots := 0, locals := 0 } 0 0 D (TY ce) [.long b, .int (zI n)] ([]) (QL D (TY ce) (fun r w1 => ∃ r0 : Int64, r = r0 ∧ w1 = [] ∧ (r0 = lpow b n.toNat))) := by
  refine Ct.ofL (by decide) (Nat.le_of_ble_eq_true rfl) ?_
  intro p e s m args below meth c A Q hX hnm hR
  refine Z.pick (lv' := [(0, .long b), (2, .int (zI n))]) [0, 1] rfl ?_
  refine Z.lconst (v := 1) hX dX7_raised_0 rfl ?_
  refine Z.lstore_n (lv' := [(3, .long 1), (0, .long b), (2, .int (zI n))]) hX dX7_raised_1 rfl (by decide) rfl ?_
  refine Z.iconst hX dX7_raised_2 ?_
  refine Z.istore (lv' := [(5, .int (zI 0)), (3, .long 1), (0, .long b), (2, .int (zI n))]) hX dX7_raised_3 (by decide) rfl ?_
  have key_5 : ∀ (N : Nat), ∀ (k : Int) (r : Int64), (n - k).toNat < N → (hk : 0 ≤ k ∧ (k ≤ n ∨ k = 0)) → (hr : r = lpow b k.toNat) → Z p l e { frames := 0, cells := 0, slots := 0, locals := 0 } s m args below meth c D A 6 0 0 Q 5 [(5, .int (zI k)), (3, .long r), (0, .long b), (2, .int (zI n))] [] ([]) := by
    intro N
    induction N with
    | zero => intro k r hm; exact absurd hm (Nat.not_lt_zero _)
    | succ N ih_5 =>
      intro k r hm hk hr
      refine Z.iload hX dX7_raised_5 rfl ?_
      refine Z.iload_n hX dX7_raised_7 rfl rfl ?_
      refine Z.icmp_ge hX 21 dX7_raised_8 (by decide) ⟨by omega, by omega⟩ ⟨by omega, by omega⟩ ?_ ?_
      · intro c1
        refine Z.lload_n hX dX7_raised_21 rfl rfl ?_
        exact hR _ _ _ _ dX7_raised_22 ⟨r, rfl, rfl, by rw [hr]; congr 1; omega⟩
      · intro c1
        refine Z.lload_n hX dX7_raised_11 rfl rfl ?_
        refine Z.lload_n hX dX7_raised_12 rfl rfl ?_
        refine Z.lmul hX dX7_raised_13 ?_
        refine Z.lstore_n (lv' := [(3, .long (r * b)), (5, .int (zI k)), (0, .long b), (2, .int (zI n))]) hX dX7_raised_14 rfl (by decide) rfl ?_
        refine Z.iinc (lv' := [(5, .int (zI (k + 1))), (3, .long (r * b)), (0, .long b), (2, .int (zI n))]) hX dX7_raised_15 rfl (by decide) rfl ?_
        refine Z.goto hX 5 dX7_raised_18 (by decide) ?_
        refine Z.pick [0, 1, 2, 3] rfl ?_
        exact ih_5 _ _ (by omega) (by omega) (by rw [hr]; exact lpow_s hk.1)
  refine Z.pick [0, 1, 2, 3] rfl ?_
  exact key_5 _ _ _ (Nat.lt_succ_self _) (by omega) rfl

theorem dX7_rest_0 : decode cX7_rest 0 = .ok (.lload_n 0, 1) := by decide +kernel
theorem dX7_rest_1 : decode cX7_rest 1 = .ok (.lload_n 2, 1) := by decide +kernel
theorem dX7_rest_2 : decode cX7_rest 2 = .ok (.lrem, 1) := by decide +kernel
theorem dX7_rest_3 : decode cX7_rest 3 = .ok (.lload_n 2, 1) := by decide +kernel
theorem dX7_rest_4 : decode cX7_rest 4 = .ok (.ladd, 1) := by decide +kernel
theorem dX7_rest_5 : decode cX7_rest 5 = .ok (.lload_n 2, 1) := by decide +kernel
theorem dX7_rest_6 : decode cX7_rest 6 = .ok (.lrem, 1) := by decide +kernel
theorem dX7_rest_7 : decode cX7_rest 7 = .ok (.lreturn, 1) := by decide +kernel
set_option maxHeartbeats 4000000 in
set_option maxRecDepth 100000 in
theorem ct_X7_rest (l : Launch) (D : va_G) (ce : Nat → ClassId) (v q : Int64) (hq : ¬ q = 0) : Ct l yX7_rest cX7_rest 4 (some .long) { frames := 0, cells := 0, slots := 0, locals := 0 } 0 0 D (TY ce) [.long v, .long q] ([]) (QL D (TY ce) (fun r w1 => ∃ r0 : Int64, r = r0 ∧ w1 = [])) := by
  refine Ct.ofL (by decide) (Nat.le_of_ble_eq_true rfl) ?_
  intro p e s m args below meth c A Q hX hnm hR
  refine Z.pick (lv' := [(0, .long v), (2, .long q)]) [0, 1] rfl ?_
  refine Z.lload_n hX dX7_rest_0 rfl rfl ?_
  refine Z.lload_n hX dX7_rest_1 rfl rfl ?_
  refine Z.lrem hX dX7_rest_2 (by assumption) ?_
  refine Z.lload_n hX dX7_rest_3 rfl rfl ?_
  refine Z.ladd hX dX7_rest_4 ?_
  refine Z.lload_n hX dX7_rest_5 rfl rfl ?_
  refine Z.lrem hX dX7_rest_6 (by assumption) ?_
  exact hR _ _ _ _ dX7_rest_7 ⟨(((v - v / q * q) + q) - ((v - v / q * q) + q) / q * q), rfl, rfl⟩

theorem dX7_countOf_0 : decode cX7_countOf 0 = .ok (.iconst 0, 1) := by decide +kernel
theorem dX7_countOf_1 : decode cX7_countOf 1 = .ok (.istore_n 1, 1) := by decide +kernel
theorem dX7_countOf_2 : decode cX7_countOf 2 = .ok (.iload_n 0, 1) := by decide +kernel
theorem dX7_countOf_3 : decode cX7_countOf 3 = .ok (.istore_n 2, 1) := by decide +kernel
theorem dX7_countOf_4 : decode cX7_countOf 4 = .ok (.iload_n 2, 1) := by decide +kernel
theorem dX7_countOf_5 : decode cX7_countOf 5 = .ok (.ifCond .eq 15, 3) := by decide +kernel
theorem dX7_countOf_8 : decode cX7_countOf 8 = .ok (.iinc 1 1, 3) := by decide +kernel
theorem dX7_countOf_11 : decode cX7_countOf 11 = .ok (.iload_n 2, 1) := by decide +kernel
theorem dX7_countOf_12 : decode cX7_countOf 12 = .ok (.iload_n 2, 1) := by decide +kernel
theorem dX7_countOf_13 : decode cX7_countOf 13 = .ok (.iconst 1, 1) := by decide +kernel
theorem dX7_countOf_14 : decode cX7_countOf 14 = .ok (.isub, 1) := by decide +kernel
theorem dX7_countOf_15 : decode cX7_countOf 15 = .ok (.iand, 1) := by decide +kernel
theorem dX7_countOf_16 : decode cX7_countOf 16 = .ok (.istore_n 2, 1) := by decide +kernel
theorem dX7_countOf_17 : decode cX7_countOf 17 = .ok (.goto (-13), 3) := by decide +kernel
theorem dX7_countOf_20 : decode cX7_countOf 20 = .ok (.iload_n 1, 1) := by decide +kernel
theorem dX7_countOf_21 : decode cX7_countOf 21 = .ok (.ireturn, 1) := by decide +kernel
set_option maxHeartbeats 4000000 in
set_option maxRecDepth 100000 in
theorem ct_X7_countOf (l : Launch) (D : va_G) (ce : Nat → ClassId) (a : Int) (ha : 0 ≤ a ∧ a < 256) : Ct l yX7_countOf cX7_countOf 3 (some .int) { frames := 0, cells := 0, slots := 0, locals := 0 } 0 0 D (TY ce) [.int (zI a)] ([]) (QI D (TY ce) (fun r w1 => ∃ z : Int, r = zI z ∧ w1 = [] ∧ (z = pc8 a.toNat))) := by
  refine Ct.ofI (by decide) (Nat.le_of_ble_eq_true rfl) ?_
  intro p e s m args below meth c A Q hX hnm hR
  refine Z.pick (lv' := [(0, .int (zI a))]) [0] rfl ?_
  refine Z.iconst hX dX7_countOf_0 ?_
  refine Z.istore_n (lv' := [(1, .int (zI 0)), (0, .int (zI a))]) hX dX7_countOf_1 rfl (by decide) rfl ?_
  refine Z.iload_n hX dX7_countOf_2 rfl rfl ?_
  refine Z.istore_n (lv' := [(2, .int (zI a)), (1, .int (zI 0)), (0, .int (zI a))]) hX dX7_countOf_3 rfl (by decide) rfl ?_
  have key_4 : ∀ (N : Nat), ∀ (t n : Int), t.toNat < N → (ht : 0 ≤ t ∧ t < 256) → (hn : n + pc8 t.toNat = pc8 a.toNat) → Z p l e { frames := 0, cells := 0, slots := 0, locals := 0 } s m args below meth c D A 3 0 0 Q 4 [(2, .int (zI t)), (1, .int (zI n))] [] ([]) := by
    intro N
    induction N with
    | zero => intro t n hm; exact absurd hm (Nat.not_lt_zero _)
    | succ N ih_4 =>
      intro t n hm ht hn
      refine Z.iload_n hX dX7_countOf_4 rfl rfl ?_
      refine Z.if_eq hX 20 dX7_countOf_5 (by decide) ⟨by omega, by omega⟩ ?_ ?_
      · intro c1
        refine Z.iload_n hX dX7_countOf_20 rfl rfl ?_
        exact hR _ _ _ _ dX7_countOf_21 ⟨n, rfl, rfl, pc8_e (by assumption) hn⟩
      · intro c1
        refine Z.iinc (lv' := [(1, .int (zI (n + 1))), (2, .int (zI t))]) hX dX7_countOf_8 rfl (by decide) rfl ?_
        refine Z.iload_n hX dX7_countOf_11 rfl rfl ?_
        refine Z.iload_n hX dX7_countOf_12 rfl rfl ?_
        refine Z.iconst hX dX7_countOf_13 ?_
        refine Z.isub hX dX7_countOf_14 ?_
        obtain ⟨t2, et2, ht1, ht2, ht3⟩ := pc8_s ht.1 ht.2 (by assumption)
        refine Z.iand hX dX7_countOf_15 ?_
        refine Z.vali (y := zI t2) et2 ?_
        refine Z.istore_n (lv' := [(2, .int (zI t2)), (1, .int (zI (n + 1)))]) hX dX7_countOf_16 rfl (by decide) rfl ?_
        refine Z.goto hX 4 dX7_countOf_17 (by decide) ?_
        refine Z.pick [0, 1] rfl ?_
        exact ih_4 _ _ (by omega) (by omega) (by omega)
  refine Z.pick [0, 1] rfl ?_
  exact key_4 _ _ _ (Nat.lt_succ_self _) (by omega) (by omega)

theorem dX7_isAbove_0 : decode cX7_isAbove 0 = .ok (.lconst 1, 1) := by decide +kernel
theorem dX7_isAbove_1 : decode cX7_isAbove 1 = .ok (.lstore 5, 2) := by decide +kernel
theorem dX7_isAbove_3 : decode cX7_isAbove 3 = .ok (.iconst 0, 1) := by decide +kernel
theorem dX7_isAbove_4 : decode cX7_isAbove 4 = .ok (.istore 7, 2) := by decide +kernel
theorem dX7_isAbove_6 : decode cX7_isAbove 6 = .ok (.iload 7, 2) := by decide +kernel
theorem dX7_isAbove_8 : decode cX7_isAbove 8 = .ok (.iload_n 2, 1) := by decide +kernel
theorem dX7_isAbove_9 : decode cX7_isAbove 9 = .ok (.if_icmp .ge 26, 3) := by decide +kernel
theorem dX7_isAbove_12 : decode cX7_isAbove 12 = .ok (.lload 5, 2) := by decide +kernel
theorem dX7_isAbove_14 : decode cX7_isAbove 14 = .ok (.lload_n 3, 1) := by decide +kernel
theorem dX7_isAbove_15 : decode cX7_isAbove 15 = .ok (.lload_n 0, 1) := by decide +kernel
theorem dX7_isAbove_16 : decode cX7_isAbove 16 = .ok (.ldiv, 1) := by decide +kernel
theorem dX7_isAbove_17 : decode cX7_isAbove 17 = .ok (.lcmp, 1) := by decide +kernel
theorem dX7_isAbove_18 : decode cX7_isAbove 18 = .ok (.ifCond .le 5, 3) := by decide +kernel
theorem dX7_isAbove_21 : decode cX7_isAbove 21 = .ok (.iconst 1, 1) := by decide +kernel
theorem dX7_isAbove_22 : decode cX7_isAbove 22 = .ok (.ireturn, 1) := by decide +kernel
theorem dX7_isAbove_23 : decode cX7_isAbove 23 = .ok (.lload 5, 2) := by decide +kernel
theorem dX7_isAbove_25 : decode cX7_isAbove 25 = .ok (.lload_n 0, 1) := by decide +kernel
theorem dX7_isAbove_26 : decode cX7_isAbove 26 = .ok (.lmul, 1) := by decide +kernel
theorem dX7_isAbove_27 : decode cX7_isAbove 27 = .ok (.lstore 5, 2) := by decide +kernel
theorem dX7_isAbove_29 : decode cX7_isAbove 29 = .ok (.iinc 7 1, 3) := by decide +kernel
theorem dX7_isAbove_32 : decode cX7_isAbove 32 = .ok (.goto (-26), 3) := by decide +kernel
theorem dX7_isAbove_35 : decode cX7_isAbove 35 = .ok (.lload 5, 2) := by decide +kernel
theorem dX7_isAbove_37 : decode cX7_isAbove 37 = .ok (.lload_n 3, 1) := by decide +kernel
theorem dX7_isAbove_38 : decode cX7_isAbove 38 = .ok (.lcmp, 1) := by decide +kernel
theorem dX7_isAbove_39 : decode cX7_isAbove 39 = .ok (.ifCond .le 7, 3) := by decide +kernel
theorem dX7_isAbove_42 : decode cX7_isAbove 42 = .ok (.iconst 1, 1) := by decide +kernel
theorem dX7_isAbove_43 : decode cX7_isAbove 43 = .ok (.goto 4, 3) := by decide +kernel
theorem dX7_isAbove_46 : decode cX7_isAbove 46 = .ok (.iconst 0, 1) := by decide +kernel
theorem dX7_isAbove_47 : decode cX7_isAbove 47 = .ok (.ireturn, 1) := by decide +kernel
set_option maxHeartbeats 4000000 in
set_option maxRecDepth 100000 in
theorem ct_X7_isAbove (l : Launch) (D : va_G) (ce : Nat → ClassId) (b : Int64) (k : Int) (v : Int64) (hb : 1 ≤ b.toInt) (hk : -2147483648 ≤ k ∧ k < 2147483648) : Ct l yX7_isAbove cX7_isAbove 8 (some .boolean) { frames := 0, cells := 0, slots := 0, locals := 0 } 0 0 D (TY ce) [.long b, .int (zI k), .long v] ([]) (QI D (TY ce) (fun r w1 => ∃ z : Int, r = zI z ∧ w1 = [] ∧ (z = 0 ∨ z = 1) ∧ (z = 0 → 0 ≤ k → b.toInt ^ k.toNat ≤ v.toInt))) := by
  refine Ct.ofB (by decide) (Nat.le_of_ble_eq_true rfl) ?_
  intro p e s m args below meth c A Q hX hnm hR
  refine Z.pick (lv' := [(0, .long b), (2, .int (zI k)), (3, .long v)]) [0, 1, 2] rfl ?_
  have hb0 : ¬ b = 0 := fun q => by rw [q] at hb; exact absurd hb (by decide)
  refine Z.lconst (v := 1) hX dX7_isAbove_0 rfl ?_
  refine Z.lstore (lv' := [(5, .long 1), (0, .long b), (2, .int (zI k)), (3, .long v)]) hX dX7_isAbove_1 (by decide) rfl ?_
  refine Z.iconst hX dX7_isAbove_3 ?_
  refine Z.istore (lv' := [(7, .int (zI 0)), (5, .long 1), (0, .long b), (2, .int (zI k)), (3, .long v)]) hX dX7_isAbove_4 (by decide) rfl ?_
  have key_6 : ∀ (N : Nat), ∀ (i : Int) (p0 : Int64), (k - i).toNat < N → (hi : 0 ≤ i ∧ (i ≤ k ∨ i = 0)) → (hp : abI b v p0 i) → Z p l e { frames := 0, cells := 0, slots := 0, locals := 0 } s m args below meth c D A 8 0 0 Q 6 [(7, .int (zI i)), (5, .long p0), (0, .long b), (2, .int (zI k)), (3, .long v)] [] ([]) := by
    intro N
    induction N with
    | zero => intro i p0 hm; exact absurd hm (Nat.not_lt_zero _)
    | succ N ih_6 =>
      intro i p0 hm hi hp
      refine Z.iload hX dX7_isAbove_6 rfl ?_
      refine Z.iload_n hX dX7_isAbove_8 rfl rfl ?_
      refine Z.icmp_ge hX 35 dX7_isAbove_9 (by decide) ⟨by omega, by omega⟩ ⟨by omega, by omega⟩ ?_ ?_
      · intro c1
        refine Z.lload hX dX7_isAbove_35 rfl ?_
        refine Z.lload_n hX dX7_isAbove_37 rfl rfl ?_
        refine Z.lcmp_le hX 46 dX7_isAbove_38 dX7_isAbove_39 (by decide) ?_ ?_
        · intro c2
          refine Z.iconst hX dX7_isAbove_46 ?_
          exact hR _ _ _ _ dX7_isAbove_47 rfl ⟨0, rfl, rfl, (by omega), (fun _ hk0 => abI_e hp (by omega) (by assumption))⟩
        · intro c2
          refine Z.iconst hX dX7_isAbove_42 ?_
          refine Z.goto hX 47 dX7_isAbove_43 (by decide) ?_
          exact hR _ _ _ _ dX7_isAbove_47 rfl ⟨1, rfl, rfl, (by omega), (fun h => absurd h (by omega))⟩
      · intro c1
        refine Z.lload hX dX7_isAbove_12 rfl ?_
        refine Z.lload_n hX dX7_isAbove_14 rfl rfl ?_
        refine Z.lload_n hX dX7_isAbove_15 rfl rfl ?_
        refine Z.ldiv hX dX7_isAbove_16 (by assumption) ?_
        refine Z.lcmp_le hX 23 dX7_isAbove_17 dX7_isAbove_18 (by decide) ?_ ?_
        · intro c3
          refine Z.lload hX dX7_isAbove_23 rfl ?_
          refine Z.lload_n hX dX7_isAbove_25 rfl rfl ?_
          refine Z.lmul hX dX7_isAbove_26 ?_
          refine Z.lstore (lv' := [(5, .long (p0 * b)), (7, .int (zI i)), (0, .long b), (2, .int (zI k)), (3, .long v)]) hX dX7_isAbove_27 (by decide) rfl ?_
          refine Z.iinc (lv' := [(7, .int (zI (i + 1))), (5, .long (p0 * b)), (0, .long b), (2, .int (zI k)), (3, .long v)]) hX dX7_isAbove_29 rfl (by decide) rfl ?_
          refine Z.goto hX 6 dX7_isAbove_32 (by decide) ?_
          refine Z.pick [0, 1, 2, 3, 4] rfl ?_
          exact ih_6 _ _ (by omega) (by omega) (abI_s hb hi.1 hp (by assumption))
        · intro c3
          refine Z.iconst hX dX7_isAbove_21 ?_
          exact hR _ _ _ _ dX7_isAbove_22 rfl ⟨1, rfl, rfl, (by omega), (fun h => absurd h (by omega))⟩
  refine Z.pick [0, 1, 2, 3, 4] rfl ?_
  exact key_6 _ _ _ (Nat.lt_succ_self _) (by omega) (abI_0 b v)

theorem dX7_rootOf_0 : decode cX7_rootOf 0 = .ok (.lconst 1, 1) := by decide +kernel
theorem dX7_rootOf_1 : decode cX7_rootOf 1 = .ok (.lstore_n 3, 1) := by decide +kernel
theorem dX7_rootOf_2 : decode cX7_rootOf 2 = .ok (.ldc2_w 115, 3) := by decide +kernel
theorem dX7_rootOf_5 : decode cX7_rootOf 5 = .ok (.lstore 5, 2) := by decide +kernel
theorem dX7_rootOf_7 : decode cX7_rootOf 7 = .ok (.lload_n 3, 1) := by decide +kernel
theorem dX7_rootOf_8 : decode cX7_rootOf 8 = .ok (.lload 5, 2) := by decide +kernel
theorem dX7_rootOf_10 : decode cX7_rootOf 10 = .ok (.lcmp, 1) := by decide +kernel
theorem dX7_rootOf_11 : decode cX7_rootOf 11 = .ok (.ifCond .ge 40, 3) := by decide +kernel
theorem dX7_rootOf_14 : decode cX7_rootOf 14 = .ok (.lload_n 3, 1) := by decide +kernel
theorem dX7_rootOf_15 : decode cX7_rootOf 15 = .ok (.lload 5, 2) := by decide +kernel
theorem dX7_rootOf_17 : decode cX7_rootOf 17 = .ok (.ladd, 1) := by decide +kernel
theorem dX7_rootOf_18 : decode cX7_rootOf 18 = .ok (.lconst 1, 1) := by decide +kernel
theorem dX7_rootOf_19 : decode cX7_rootOf 19 = .ok (.ladd, 1) := by decide +kernel
theorem dX7_rootOf_20 : decode cX7_rootOf 20 = .ok (.ldc2_w 117, 3) := by decide +kernel
theorem dX7_rootOf_23 : decode cX7_rootOf 23 = .ok (.ldiv, 1) := by decide +kernel
theorem dX7_rootOf_24 : decode cX7_rootOf 24 = .ok (.lstore 7, 2) := by decide +kernel
theorem dX7_rootOf_26 : decode cX7_rootOf 26 = .ok (.lload 7, 2) := by decide +kernel
theorem dX7_rootOf_28 : decode cX7_rootOf 28 = .ok (.iload_n 2, 1) := by decide +kernel
theorem dX7_rootOf_29 : decode cX7_rootOf 29 = .ok (.lload_n 0, 1) := by decide +kernel
theorem dX7_rootOf_30 : decode cX7_rootOf 30 = .ok (.invokestatic 119, 3) := by decide +kernel
theorem dX7_rootOf_33 : decode cX7_rootOf 33 = .ok (.ifCond .eq 12, 3) := by decide +kernel
theorem dX7_rootOf_36 : decode cX7_rootOf 36 = .ok (.lload 7, 2) := by decide +kernel
theorem dX7_rootOf_38 : decode cX7_rootOf 38 = .ok (.lconst 1, 1) := by decide +kernel
theorem dX7_rootOf_39 : decode cX7_rootOf 39 = .ok (.lsub, 1) := by decide +kernel
theorem dX7_rootOf_40 : decode cX7_rootOf 40 = .ok (.lstore 5, 2) := by decide +kernel
theorem dX7_rootOf_42 : decode cX7_rootOf 42 = .ok (.goto 6, 3) := by decide +kernel
theorem dX7_rootOf_45 : decode cX7_rootOf 45 = .ok (.lload 7, 2) := by decide +kernel
theorem dX7_rootOf_47 : decode cX7_rootOf 47 = .ok (.lstore_n 3, 1) := by decide +kernel
theorem dX7_rootOf_48 : decode cX7_rootOf 48 = .ok (.goto (-41), 3) := by decide +kernel
theorem dX7_rootOf_51 : decode cX7_rootOf 51 = .ok (.lconst 1, 1) := by decide +kernel
theorem dX7_rootOf_52 : decode cX7_rootOf 52 = .ok (.lstore 7, 2) := by decide +kernel
theorem dX7_rootOf_54 : decode cX7_rootOf 54 = .ok (.iconst 0, 1) := by decide +kernel
theorem dX7_rootOf_55 : decode cX7_rootOf 55 = .ok (.istore 9, 2) := by decide +kernel
theorem dX7_rootOf_57 : decode cX7_rootOf 57 = .ok (.iload 9, 2) := by decide +kernel
theorem dX7_rootOf_59 : decode cX7_rootOf 59 = .ok (.iload_n 2, 1) := by decide +kernel
theorem dX7_rootOf_60 : decode cX7_rootOf 60 = .ok (.if_icmp .ge 15, 3) := by decide +kernel
theorem dX7_rootOf_63 : decode cX7_rootOf 63 = .ok (.lload 7, 2) := by decide +kernel
theorem dX7_rootOf_65 : decode cX7_rootOf 65 = .ok (.lload_n 3, 1) := by decide +kernel
theorem dX7_rootOf_66 : decode cX7_rootOf 66 = .ok (.lmul, 1) := by decide +kernel
theorem dX7_rootOf_67 : decode cX7_rootOf 67 = .ok (.lstore 7, 2) := by decide +kernel
theorem dX7_rootOf_69 : decode cX7_rootOf 69 = .ok (.iinc 9 1, 3) := by decide +kernel
theorem dX7_rootOf_72 : decode cX7_rootOf 72 = .ok (.goto (-15), 3) := by decide +kernel
theorem dX7_rootOf_75 : decode cX7_rootOf 75 = .ok (.lload 7, 2) := by decide +kernel
theorem dX7_rootOf_77 : decode cX7_rootOf 77 = .ok (.lload_n 0, 1) := by decide +kernel
theorem dX7_rootOf_78 : decode cX7_rootOf 78 = .ok (.lcmp, 1) := by decide +kernel
theorem dX7_rootOf_79 : decode cX7_rootOf 79 = .ok (.ifCond .ne 7, 3) := by decide +kernel
theorem dX7_rootOf_82 : decode cX7_rootOf 82 = .ok (.lload_n 3, 1) := by decide +kernel
theorem dX7_rootOf_83 : decode cX7_rootOf 83 = .ok (.goto 4, 3) := by decide +kernel
theorem dX7_rootOf_86 : decode cX7_rootOf 86 = .ok (.lconst 0, 1) := by decide +kernel
theorem dX7_rootOf_87 : decode cX7_rootOf 87 = .ok (.lreturn, 1) := by decide +kernel
set_option maxHeartbeats 4000000 in
set_option maxRecDepth 100000 in
theorem ct_X7_rootOf (l : Launch) (D : va_G) (ce : Nat → ClassId) (v : Int64) (k : Int) (hk : -2147483648 ≤ k ∧ k < 2147483648) (hk0 : 0 ≤ k) : Ct l yX7_rootOf cX7_rootOf 10 (some .long) { frames := 1, cells := 0, slots := 0, locals := 27 } 0 0 D (TY ce) [.long v, .int (zI k)] ([]) (QL D (TY ce) (fun r w1 => ∃ r0 : Int64, r = r0 ∧ w1 = [] ∧ (r0 = 0 ∨ (1 ≤ r0.toInt ∧ r0.toInt ≤ 2000000000 ∧ r0.toInt ^ k.toNat ≤ v.toInt)))) := by
  refine Ct.ofL (by decide) (Nat.le_of_ble_eq_true rfl) ?_
  intro p e s m args below meth c A Q hX hnm hR
  refine Z.pick (lv' := [(0, .long v), (2, .int (zI k))]) [0, 1] rfl ?_
  refine Z.lconst (v := 1) hX dX7_rootOf_0 rfl ?_
  refine Z.vall (y := zL 1) rfl ?_
  refine Z.lstore_n (lv' := [(3, .long (zL 1)), (0, .long v), (2, .int (zI k))]) hX dX7_rootOf_1 rfl (by decide) rfl ?_
  refine Z.ldc2 hX dX7_rootOf_2 co_X7_115 ?_
  refine Z.vall (y := zL 2000000000) rfl ?_
  refine Z.lstore (lv' := [(5, .long (zL 2000000000)), (3, .long (zL 1)), (0, .long v), (2, .int (zI k))]) hX dX7_rootOf_5 (by decide) rfl ?_
  have key_7 : ∀ (N : Nat), ∀ (a b : Int), (b - a).toNat < N → (hab : 1 ≤ a ∧ a ≤ b ∧ b ≤ 2000000000) → (hv : a = 1 ∨ a ^ k.toNat ≤ v.toInt) → Z p l e { frames := 1, cells := 0, slots := 0, locals := 27 } s m args below meth c D A 10 0 0 Q 7 [(3, .long (zL a)), (5, .long (zL b)), (0, .long v), (2, .int (zI k))] [] ([]) := by
    intro N
    induction N with
    | zero => intro a b hm; exact absurd hm (Nat.not_lt_zero _)
    | succ N ih_7 =>
      intro a b hm hab hv
      refine Z.lload_n hX dX7_rootOf_7 rfl rfl ?_
      refine Z.lload hX dX7_rootOf_8 rfl ?_
      refine Z.lcmp_ge hX 51 dX7_rootOf_10 dX7_rootOf_11 (by decide) ?_ ?_
      · intro c1
        refine Z.lconst (v := 1) hX dX7_rootOf_51 rfl ?_
        refine Z.lstore (lv' := [(7, .long 1), (3, .long (zL a)), (5, .long (zL b)), (0, .long v), (2, .int (zI k))]) hX dX7_rootOf_52 (by decide) rfl ?_
        refine Z.iconst hX dX7_rootOf_54 ?_
        refine Z.istore (lv' := [(9, .int (zI 0)), (7, .long 1), (3, .long (zL a)), (5, .long (zL b)), (0, .long v), (2, .int (zI k))]) hX dX7_rootOf_55 (by decide) rfl ?_
        have key_57 : ∀ (N : Nat), ∀ (i : Int) (q : Int64), (k - i).toNat < N → (hi : 0 ≤ i ∧ (i ≤ k ∨ i = 0)) → (hq : q = lpow (zL a) i.toNat) → Z p l e { frames := 1, cells := 0, slots := 0, locals := 27 } s m args below meth c D A 10 0 0 Q 57 [(9, .int (zI i)), (7, .long q), (3, .long (zL a)), (0, .long v), (2, .int (zI k))] [] ([]) := by
          intro N
          induction N with
          | zero => intro i q hm; exact absurd hm (Nat.not_lt_zero _)
          | succ N ih_57 =>
            intro i q hm hi hq
            refine Z.iload hX dX7_rootOf_57 rfl ?_
            refine Z.iload_n hX dX7_rootOf_59 rfl rfl ?_
            refine Z.icmp_ge hX 75 dX7_rootOf_60 (by decide) ⟨by omega, by omega⟩ ⟨by omega, by omega⟩ ?_ ?_
            · intro c2
              refine Z.lload hX dX7_rootOf_75 rfl ?_
              refine Z.lload_n hX dX7_rootOf_77 rfl rfl ?_
              refine Z.lcmp_ne hX 86 dX7_rootOf_78 dX7_rootOf_79 (by decide) ?_ ?_
              · intro c3
                refine Z.lconst (v := 0) hX dX7_rootOf_86 rfl ?_
                exact hR _ _ _ _ dX7_rootOf_87 ⟨0, rfl, rfl, Or.inl rfl⟩
              · intro c3
                refine Z.lload_n hX dX7_rootOf_82 rfl rfl ?_
                refine Z.goto hX 87 dX7_rootOf_83 (by decide) ?_
                exact hR _ _ _ _ dX7_rootOf_87 ⟨(zL a), rfl, rfl, rt_end hab hv hq (by assumption)⟩
            · intro c2
              refine Z.lload hX dX7_rootOf_63 rfl ?_
              refine Z.lload_n hX dX7_rootOf_65 rfl rfl ?_
              refine Z.lmul hX dX7_rootOf_66 ?_
              refine Z.lstore (lv' := [(7, .long (q * (zL a))), (9, .int (zI i)), (3, .long (zL a)), (0, .long v), (2, .int (zI k))]) hX dX7_rootOf_67 (by decide) rfl ?_
              refine Z.iinc (lv' := [(9, .int (zI (i + 1))), (7, .long (q * (zL a))), (3, .long (zL a)), (0, .long v), (2, .int (zI k))]) hX dX7_rootOf_69 rfl (by decide) rfl ?_
              refine Z.goto hX 57 dX7_rootOf_72 (by decide) ?_
              refine Z.pick [0, 1, 2, 3, 4] rfl ?_
              exact ih_57 _ _ (by omega) (by omega) (by rw [hq]; exact lpow_s hi.1)
        refine Z.pick [0, 1, 2, 4, 5] rfl ?_
        exact key_57 _ _ _ (Nat.lt_succ_self _) (by omega) rfl
      · intro c1
        have hlt : a < b := zL_nle (by omega) (by omega) (by assumption)
        refine Z.lload_n hX dX7_rootOf_14 rfl rfl ?_
        refine Z.lload hX dX7_rootOf_15 rfl ?_
        refine Z.ladd hX dX7_rootOf_17 ?_
        refine Z.lconst (v := 1) hX dX7_rootOf_18 rfl ?_
        refine Z.ladd hX dX7_rootOf_19 ?_
        refine Z.ldc2 hX dX7_rootOf_20 co_X7_117 ?_
        refine Z.ldiv hX dX7_rootOf_23 (by decide) ?_
        refine Z.vall (y := zL ((a + b + 1) / 2)) (zL_mid hab) ?_
        refine Z.lstore (lv' := [(7, .long (zL ((a + b + 1) / 2))), (3, .long (zL a)), (5, .long (zL b)), (0, .long v), (2, .int (zI k))]) hX dX7_rootOf_24 (by decide) rfl ?_
        refine Z.lload hX dX7_rootOf_26 rfl ?_
        refine Z.iload_n hX dX7_rootOf_28 rfl rfl ?_
        refine Z.lload_n hX dX7_rootOf_29 rfl rfl ?_
        refine Z.callS0i (As := [.long (zL ((a + b + 1) / 2)), .int (zI k), .long v]) (rest := []) hX (ct_X7_isAbove l D ce (zL ((a + b + 1) / 2)) k v (by rw [zL_toInt (by omega) (by omega)]; omega) hk) mc_X7_isAbove ml_X7_119 st_X7_isAbove ini_X7 nd_X7_isAbove ⟨Nat.le_of_ble_eq_true rfl, Nat.le_of_ble_eq_true rfl⟩ ⟨rfl, rfl⟩ ⟨Nat.le_refl _, Nat.le_refl _⟩ rfl (Nat.le_of_ble_eq_true rfl) dX7_rootOf_30 ?_
        rintro r_4 w1 ⟨z5, hr_, hw_, hq6, hq7⟩
        subst hr_
        refine ⟨hw_, ?_⟩
        refine Z.if_eq hX 45 dX7_rootOf_33 (by decide) ⟨by omega, by omega⟩ ?_ ?_
        · intro c8
          refine Z.lload hX dX7_rootOf_45 rfl ?_
          refine Z.lstore_n (lv' := [(3, .long (zL ((a + b + 1) / 2))), (7, .long (zL ((a + b + 1) / 2))), (5, .long (zL b)), (0, .long v), (2, .int (zI k))]) hX dX7_rootOf_47 rfl (by decide) rfl ?_
          refine Z.goto hX 7 dX7_rootOf_48 (by decide) ?_
          refine Z.pick [0, 2, 3, 4] rfl ?_
          exact ih_7 _ _ (by omega) (by omega) (by first | exact hv | exact rt_mid hab (by apply_assumption <;> omega))
        · intro c8
          refine Z.lload hX dX7_rootOf_36 rfl ?_
          refine Z.lconst (v := 1) hX dX7_rootOf_38 rfl ?_
          refine Z.lsub hX dX7_rootOf_39 ?_
          refine Z.vall (y := zL ((a + b + 1) / 2 - 1)) (zL_sub _ 1) ?_
          refine Z.lstore (lv' := [(5, .long (zL ((a + b + 1) / 2 - 1))), (7, .long (zL ((a + b + 1) / 2))), (3, .long (zL a)), (0, .long v), (2, .int (zI k))]) hX dX7_rootOf_40 (by decide) rfl ?_
          refine Z.goto hX 48 dX7_rootOf_42 (by decide) ?_
          refine Z.goto hX 7 dX7_rootOf_48 (by decide) ?_
          refine Z.pick [2, 0, 3, 4] rfl ?_
          exact ih_7 _ _ (by omega) (by omega) (by first | exact hv | exact rt_mid hab (by apply_assumption <;> omega))
  refine Z.pick [1, 0, 2, 3] rfl ?_
  exact key_7 _ _ _ (Nat.lt_succ_self _) (by omega) (Or.inl rfl)

