theorem dX6_isPart_0 : decode cX6_isPart 0 = .ok (.iload_n 0, 1) := by decide +kernel
theorem dX6_isPart_1 : decode cX6_isPart 1 = .ok (.ifCond .lt 12, 3) := by decide +kernel
theorem dX6_isPart_4 : decode cX6_isPart 4 = .ok (.iload_n 0, 1) := by decide +kernel
theorem dX6_isPart_5 : decode cX6_isPart 5 = .ok (.iconst 3, 1) := by decide +kernel
theorem dX6_isPart_6 : decode cX6_isPart 6 = .ok (.if_icmp .ge 7, 3) := by decide +kernel
theorem dX6_isPart_9 : decode cX6_isPart 9 = .ok (.iconst 1, 1) := by decide +kernel
theorem dX6_isPart_10 : decode cX6_isPart 10 = .ok (.goto 4, 3) := by decide +kernel
theorem dX6_isPart_13 : decode cX6_isPart 13 = .ok (.iconst 0, 1) := by decide +kernel
theorem dX6_isPart_14 : decode cX6_isPart 14 = .ok (.ireturn, 1) := by decide +kernel
set_option maxHeartbeats 4000000 in
set_option maxRecDepth 100000 in
theorem ct_X6_isPart (l : Launch) (D : va_G) (ce : Nat → ClassId) (a : Int) (ha : -2147483648 ≤ a ∧ a < 2147483648) : Ct l yX6_isPart cX6_isPart 1 (some .boolean) { frames := 0, cells := 0, slots := 0, locals := 0 } 0 0 D (TY ce) [.int (zI a)] ([]) (QI D (TY ce) (fun r w1 => ∃ z : Int, r = zI z ∧ w1 = [] ∧ ((z = 1 ∧ 0 ≤ a ∧ a < 3) ∨ (z = 0 ∧ ¬ (0 ≤ a ∧ a < 3))))) := by
  refine Ct.ofB (by decide) (Nat.le_of_ble_eq_true rfl) ?_
  intro p e s m args below meth c A Q hX hnm hR
  refine Z.pick (lv' := [(0, .int (zI a))]) [0] rfl ?_
  refine Z.iload_n hX dX6_isPart_0 rfl rfl ?_
  refine Z.if_lt hX 13 dX6_isPart_1 (by decide) ⟨by omega, by omega⟩ ?_ ?_
  · intro c1
    refine Z.iconst hX dX6_isPart_13 ?_
    exact hR _ _ _ _ dX6_isPart_14 rfl ⟨0, rfl, rfl, (by omega)⟩
  · intro c1
    refine Z.iload_n hX dX6_isPart_4 rfl rfl ?_
    refine Z.iconst hX dX6_isPart_5 ?_
    refine Z.icmp_ge hX 13 dX6_isPart_6 (by decide) ⟨by omega, by omega⟩ ⟨by omega, by omega⟩ ?_ ?_
    · intro c2
      refine Z.iconst hX dX6_isPart_13 ?_
      exact hR _ _ _ _ dX6_isPart_14 rfl ⟨0, rfl, rfl, (by omega)⟩
    · intro c2
      refine Z.iconst hX dX6_isPart_9 ?_
      refine Z.goto hX 14 dX6_isPart_10 (by decide) ?_
      exact hR _ _ _ _ dX6_isPart_14 rfl ⟨1, rfl, rfl, (by omega)⟩

theorem dX6_isPower_0 : decode cX6_isPower 0 = .ok (.iload_n 0, 1) := by decide +kernel
theorem dX6_isPower_1 : decode cX6_isPower 1 = .ok (.ifCond .lt 12, 3) := by decide +kernel
theorem dX6_isPower_4 : decode cX6_isPower 4 = .ok (.iload_n 0, 1) := by decide +kernel
theorem dX6_isPower_5 : decode cX6_isPower 5 = .ok (.iconst 5, 1) := by decide +kernel
theorem dX6_isPower_6 : decode cX6_isPower 6 = .ok (.if_icmp .ge 7, 3) := by decide +kernel
theorem dX6_isPower_9 : decode cX6_isPower 9 = .ok (.iconst 1, 1) := by decide +kernel
theorem dX6_isPower_10 : decode cX6_isPower 10 = .ok (.goto 4, 3) := by decide +kernel
theorem dX6_isPower_13 : decode cX6_isPower 13 = .ok (.iconst 0, 1) := by decide +kernel
theorem dX6_isPower_14 : decode cX6_isPower 14 = .ok (.ireturn, 1) := by decide +kernel
set_option maxHeartbeats 4000000 in
set_option maxRecDepth 100000 in
theorem ct_X6_isPower (l : Launch) (D : va_G) (ce : Nat → ClassId) (a : Int) (ha : -2147483648 ≤ a ∧ a < 2147483648) : Ct l yX6_isPower cX6_isPower 1 (some .boolean) { frames := 0, cells := 0, slots := 0, locals := 0 } 0 0 D (TY ce) [.int (zI a)] ([]) (QI D (TY ce) (fun r w1 => ∃ z : Int, r = zI z ∧ w1 = [] ∧ ((z = 1 ∧ 0 ≤ a ∧ a < 5) ∨ (z = 0 ∧ ¬ (0 ≤ a ∧ a < 5))))) := by
  refine Ct.ofB (by decide) (Nat.le_of_ble_eq_true rfl) ?_
  intro p e s m args below meth c A Q hX hnm hR
  refine Z.pick (lv' := [(0, .int (zI a))]) [0] rfl ?_
  refine Z.iload_n hX dX6_isPower_0 rfl rfl ?_
  refine Z.if_lt hX 13 dX6_isPower_1 (by decide) ⟨by omega, by omega⟩ ?_ ?_
  · intro c1
    refine Z.iconst hX dX6_isPower_13 ?_
    exact hR _ _ _ _ dX6_isPower_14 rfl ⟨0, rfl, rfl, (by omega)⟩
  · intro c1
    refine Z.iload_n hX dX6_isPower_4 rfl rfl ?_
    refine Z.iconst hX dX6_isPower_5 ?_
    refine Z.icmp_ge hX 13 dX6_isPower_6 (by decide) ⟨by omega, by omega⟩ ⟨by omega, by omega⟩ ?_ ?_
    · intro c2
      refine Z.iconst hX dX6_isPower_13 ?_
      exact hR _ _ _ _ dX6_isPower_14 rfl ⟨0, rfl, rfl, (by omega)⟩
    · intro c2
      refine Z.iconst hX dX6_isPower_9 ?_
      refine Z.goto hX 14 dX6_isPower_10 (by decide) ?_
      exact hR _ _ _ _ dX6_isPower_14 rfl ⟨1, rfl, rfl, (by omega)⟩

theorem dX6_isSort_0 : decode cX6_isSort 0 = .ok (.iload_n 0, 1) := by decide +kernel
theorem dX6_isSort_1 : decode cX6_isSort 1 = .ok (.ifCond .eq 8, 3) := by decide +kernel
theorem dX6_isSort_4 : decode cX6_isSort 4 = .ok (.iload_n 0, 1) := by decide +kernel
theorem dX6_isSort_5 : decode cX6_isSort 5 = .ok (.iconst 1, 1) := by decide +kernel
theorem dX6_isSort_6 : decode cX6_isSort 6 = .ok (.if_icmp .ne 7, 3) := by decide +kernel
theorem dX6_isSort_9 : decode cX6_isSort 9 = .ok (.iconst 1, 1) := by decide +kernel
theorem dX6_isSort_10 : decode cX6_isSort 10 = .ok (.goto 4, 3) := by decide +kernel
theorem dX6_isSort_13 : decode cX6_isSort 13 = .ok (.iconst 0, 1) := by decide +kernel
theorem dX6_isSort_14 : decode cX6_isSort 14 = .ok (.ireturn, 1) := by decide +kernel
set_option maxHeartbeats 4000000 in
set_option maxRecDepth 100000 in
theorem ct_X6_isSort (l : Launch) (D : va_G) (ce : Nat → ClassId) (a : Int) (ha : -2147483648 ≤ a ∧ a < 2147483648) : Ct l yX6_isSort cX6_isSort 1 (some .boolean) { frames := 0, cells := 0, slots := 0, locals := 0 } 0 0 D (TY ce) [.int (zI a)] ([]) (QI D (TY ce) (fun r w1 => ∃ z : Int, r = zI z ∧ w1 = [] ∧ ((z = 1 ∧ (a = 0 ∨ a = 1)) ∨ (z = 0 ∧ ¬ (a = 0 ∨ a = 1))))) := by
  refine Ct.ofB (by decide) (Nat.le_of_ble_eq_true rfl) ?_
  intro p e s m args below meth c A Q hX hnm hR
  refine Z.pick (lv' := [(0, .int (zI a))]) [0] rfl ?_
  refine Z.iload_n hX dX6_isSort_0 rfl rfl ?_
  refine Z.if_eq hX 9 dX6_isSort_1 (by decide) ⟨by omega, by omega⟩ ?_ ?_
  · intro c1
    refine Z.iconst hX dX6_isSort_9 ?_
    refine Z.goto hX 14 dX6_isSort_10 (by decide) ?_
    exact hR _ _ _ _ dX6_isSort_14 rfl ⟨1, rfl, rfl, (by omega)⟩
  · intro c1
    refine Z.iload_n hX dX6_isSort_4 rfl rfl ?_
    refine Z.iconst hX dX6_isSort_5 ?_
    refine Z.icmp_ne hX 13 dX6_isSort_6 (by decide) ⟨by omega, by omega⟩ ⟨by omega, by omega⟩ ?_ ?_
    · intro c2
      refine Z.iconst hX dX6_isSort_13 ?_
      exact hR _ _ _ _ dX6_isSort_14 rfl ⟨0, rfl, rfl, (by omega)⟩
    · intro c2
      refine Z.iconst hX dX6_isSort_9 ?_
      refine Z.goto hX 14 dX6_isSort_10 (by decide) ?_
      exact hR _ _ _ _ dX6_isSort_14 rfl ⟨1, rfl, rfl, (by omega)⟩

theorem dX6_isWithin_0 : decode cX6_isWithin 0 = .ok (.iload_n 0, 1) := by decide +kernel
theorem dX6_isWithin_1 : decode cX6_isWithin 1 = .ok (.iload_n 1, 1) := by decide +kernel
theorem dX6_isWithin_2 : decode cX6_isWithin 2 = .ok (.ineg, 1) := by decide +kernel
theorem dX6_isWithin_3 : decode cX6_isWithin 3 = .ok (.if_icmp .lt 12, 3) := by decide +kernel
theorem dX6_isWithin_6 : decode cX6_isWithin 6 = .ok (.iload_n 0, 1) := by decide +kernel
theorem dX6_isWithin_7 : decode cX6_isWithin 7 = .ok (.iload_n 1, 1) := by decide +kernel
theorem dX6_isWithin_8 : decode cX6_isWithin 8 = .ok (.if_icmp .gt 7, 3) := by decide +kernel
theorem dX6_isWithin_11 : decode cX6_isWithin 11 = .ok (.iconst 1, 1) := by decide +kernel
theorem dX6_isWithin_12 : decode cX6_isWithin 12 = .ok (.goto 4, 3) := by decide +kernel
theorem dX6_isWithin_15 : decode cX6_isWithin 15 = .ok (.iconst 0, 1) := by decide +kernel
theorem dX6_isWithin_16 : decode cX6_isWithin 16 = .ok (.ireturn, 1) := by decide +kernel
set_option maxHeartbeats 4000000 in
set_option maxRecDepth 100000 in
theorem ct_X6_isWithin (l : Launch) (D : va_G) (ce : Nat → ClassId) (a b : Int) (ha : -2147483648 ≤ a ∧ a < 2147483648) (hb : 0 ≤ b ∧ b ≤ 100) : Ct l yX6_isWithin cX6_isWithin 2 (some .boolean) { frames := 0, cells := 0, slots := 0, locals := 0 } 0 0 D (TY ce) [.int (zI a), .int (zI b)] ([]) (QI D (TY ce) (fun r w1 => ∃ z : Int, r = zI z ∧ w1 = [] ∧ ((z = 1 ∧ -b ≤ a ∧ a ≤ b) ∨ (z = 0 ∧ ¬ (-b ≤ a ∧ a ≤ b))))) := by
  refine Ct.ofB (by decide) (Nat.le_of_ble_eq_true rfl) ?_
  intro p e s m args below meth c A Q hX hnm hR
  refine Z.pick (lv' := [(0, .int (zI a)), (1, .int (zI b))]) [0, 1] rfl ?_
  refine Z.iload_n hX dX6_isWithin_0 rfl rfl ?_
  refine Z.iload_n hX dX6_isWithin_1 rfl rfl ?_
  refine Z.ineg hX dX6_isWithin_2 ?_
  refine Z.icmp_lt hX 15 dX6_isWithin_3 (by decide) ⟨by omega, by omega⟩ ⟨by omega, by omega⟩ ?_ ?_
  · intro c1
    refine Z.iconst hX dX6_isWithin_15 ?_
    exact hR _ _ _ _ dX6_isWithin_16 rfl ⟨0, rfl, rfl, (by omega)⟩
  · intro c1
    refine Z.iload_n hX dX6_isWithin_6 rfl rfl ?_
    refine Z.iload_n hX dX6_isWithin_7 rfl rfl ?_
    refine Z.icmp_gt hX 15 dX6_isWithin_8 (by decide) ⟨by omega, by omega⟩ ⟨by omega, by omega⟩ ?_ ?_
    · intro c2
      refine Z.iconst hX dX6_isWithin_15 ?_
      exact hR _ _ _ _ dX6_isWithin_16 rfl ⟨0, rfl, rfl, (by omega)⟩
    · intro c2
      refine Z.iconst hX dX6_isWithin_11 ?_
      refine Z.goto hX 16 dX6_isWithin_12 (by decide) ?_
      exact hR _ _ _ _ dX6_isWithin_16 rfl ⟨1, rfl, rfl, (by omega)⟩

theorem dX6_isParameter_0 : decode cX6_isParameter 0 = .ok (.iload_n 0, 1) := by decide +kernel
theorem dX6_isParameter_1 : decode cX6_isParameter 1 = .ok (.bipush 9, 2) := by decide +kernel
theorem dX6_isParameter_3 : decode cX6_isParameter 3 = .ok (.invokestatic 65, 3) := by decide +kernel
theorem dX6_isParameter_6 : decode cX6_isParameter 6 = .ok (.ifCond .eq 24, 3) := by decide +kernel
theorem dX6_isParameter_9 : decode cX6_isParameter 9 = .ok (.iload_n 1, 1) := by decide +kernel
theorem dX6_isParameter_10 : decode cX6_isParameter 10 = .ok (.bipush 9, 2) := by decide +kernel
theorem dX6_isParameter_12 : decode cX6_isParameter 12 = .ok (.invokestatic 65, 3) := by decide +kernel
theorem dX6_isParameter_15 : decode cX6_isParameter 15 = .ok (.ifCond .eq 15, 3) := by decide +kernel
theorem dX6_isParameter_18 : decode cX6_isParameter 18 = .ok (.iload_n 0, 1) := by decide +kernel
theorem dX6_isParameter_19 : decode cX6_isParameter 19 = .ok (.ifCond .ne 7, 3) := by decide +kernel
theorem dX6_isParameter_22 : decode cX6_isParameter 22 = .ok (.iload_n 1, 1) := by decide +kernel
theorem dX6_isParameter_23 : decode cX6_isParameter 23 = .ok (.ifCond .eq 7, 3) := by decide +kernel
theorem dX6_isParameter_26 : decode cX6_isParameter 26 = .ok (.iconst 1, 1) := by decide +kernel
theorem dX6_isParameter_27 : decode cX6_isParameter 27 = .ok (.goto 4, 3) := by decide +kernel
theorem dX6_isParameter_30 : decode cX6_isParameter 30 = .ok (.iconst 0, 1) := by decide +kernel
theorem dX6_isParameter_31 : decode cX6_isParameter 31 = .ok (.ireturn, 1) := by decide +kernel
set_option maxHeartbeats 4000000 in
set_option maxRecDepth 100000 in
theorem ct_X6_isParameter (l : Launch) (D : va_G) (ce : Nat → ClassId) (a b : Int) (ha : -2147483648 ≤ a ∧ a < 2147483648) (hb : -2147483648 ≤ b ∧ b < 2147483648) : Ct l yX6_isParameter cX6_isParameter 2 (some .boolean) { frames := 1, cells := 0, slots := 0, locals := 21 } 0 0 D (TY ce) [.int (zI a), .int (zI b)] ([]) (QI D (TY ce) (fun r w1 => ∃ z : Int, r = zI z ∧ w1 = [] ∧ ((z = 1 ∧ (-9 ≤ a ∧ a ≤ 9 ∧ -9 ≤ b ∧ b ≤ 9 ∧ ¬ (a = 0 ∧ b = 0))) ∨ (z = 0 ∧ ¬ (-9 ≤ a ∧ a ≤ 9 ∧ -9 ≤ b ∧ b ≤ 9 ∧ ¬ (a = 0 ∧ b = 0)))))) := by
  refine Ct.ofB (by decide) (Nat.le_of_ble_eq_true rfl) ?_
  intro p e s m args below meth c A Q hX hnm hR
  refine Z.pick (lv' := [(0, .int (zI a)), (1, .int (zI b))]) [0, 1] rfl ?_
  refine Z.iload_n hX dX6_isParameter_0 rfl rfl ?_
  refine Z.bipush hX dX6_isParameter_1 (by decide) ?_
  refine Z.callS0i (As := [.int (zI a), .int (zI 9)]) (rest := []) hX (ct_X6_isWithin l D ce a 9 ha (by omega)) mc_X6_isWithin ml_X6_65 st_X6_isWithin ini_X6 nd_X6_isWithin ⟨Nat.le_of_ble_eq_true rfl, Nat.le_of_ble_eq_true rfl⟩ ⟨rfl, rfl⟩ ⟨Nat.le_refl _, Nat.le_refl _⟩ rfl (Nat.le_of_ble_eq_true rfl) dX6_isParameter_3 ?_
  rintro r_1 w1 ⟨z2, hr_, hw_, hq3⟩
  subst hr_
  refine ⟨hw_, ?_⟩
  refine Z.if_eq hX 30 dX6_isParameter_6 (by decide) ⟨by omega, by omega⟩ ?_ ?_
  · intro c4
    refine Z.iconst hX dX6_isParameter_30 ?_
    exact hR _ _ _ _ dX6_isParameter_31 rfl ⟨0, rfl, rfl, (by omega)⟩
  · intro c4
    refine Z.iload_n hX dX6_isParameter_9 rfl rfl ?_
    refine Z.bipush hX dX6_isParameter_10 (by decide) ?_
    refine Z.callS0i (As := [.int (zI b), .int (zI 9)]) (rest := []) hX (ct_X6_isWithin l D ce b 9 hb (by omega)) mc_X6_isWithin ml_X6_65 st_X6_isWithin ini_X6 nd_X6_isWithin ⟨Nat.le_of_ble_eq_true rfl, Nat.le_of_ble_eq_true rfl⟩ ⟨rfl, rfl⟩ ⟨Nat.le_refl _, Nat.le_refl _⟩ rfl (Nat.le_of_ble_eq_true rfl) dX6_isParameter_12 ?_
    rintro r_5 w1 ⟨z6, hr_, hw_, hq7⟩
    subst hr_
    refine ⟨hw_, ?_⟩
    refine Z.if_eq hX 30 dX6_isParameter_15 (by decide) ⟨by omega, by omega⟩ ?_ ?_
    · intro c8
      refine Z.iconst hX dX6_isParameter_30 ?_
      exact hR _ _ _ _ dX6_isParameter_31 rfl ⟨0, rfl, rfl, (by omega)⟩
    · intro c8
      refine Z.iload_n hX dX6_isParameter_18 rfl rfl ?_
      refine Z.if_ne hX 26 dX6_isParameter_19 (by decide) ⟨by omega, by omega⟩ ?_ ?_
      · intro c9
        refine Z.iconst hX dX6_isParameter_26 ?_
        refine Z.goto hX 31 dX6_isParameter_27 (by decide) ?_
        exact hR _ _ _ _ dX6_isParameter_31 rfl ⟨1, rfl, rfl, (by omega)⟩
      · intro c9
        refine Z.iload_n hX dX6_isParameter_22 rfl rfl ?_
        refine Z.if_eq hX 30 dX6_isParameter_23 (by decide) ⟨by omega, by omega⟩ ?_ ?_
        · intro c10
          refine Z.iconst hX dX6_isParameter_30 ?_
          exact hR _ _ _ _ dX6_isParameter_31 rfl ⟨0, rfl, rfl, (by omega)⟩
        · intro c10
          refine Z.iconst hX dX6_isParameter_26 ?_
          refine Z.goto hX 31 dX6_isParameter_27 (by decide) ?_
          exact hR _ _ _ _ dX6_isParameter_31 rfl ⟨1, rfl, rfl, (by omega)⟩

theorem dX6_isPlace_0 : decode cX6_isPlace 0 = .ok (.iload_n 0, 1) := by decide +kernel
theorem dX6_isPlace_1 : decode cX6_isPlace 1 = .ok (.bipush 20, 2) := by decide +kernel
theorem dX6_isPlace_3 : decode cX6_isPlace 3 = .ok (.invokestatic 65, 3) := by decide +kernel
theorem dX6_isPlace_6 : decode cX6_isPlace 6 = .ok (.ifCond .eq 27, 3) := by decide +kernel
theorem dX6_isPlace_9 : decode cX6_isPlace 9 = .ok (.iload_n 1, 1) := by decide +kernel
theorem dX6_isPlace_10 : decode cX6_isPlace 10 = .ok (.bipush 20, 2) := by decide +kernel
theorem dX6_isPlace_12 : decode cX6_isPlace 12 = .ok (.invokestatic 65, 3) := by decide +kernel
theorem dX6_isPlace_15 : decode cX6_isPlace 15 = .ok (.ifCond .eq 18, 3) := by decide +kernel
theorem dX6_isPlace_18 : decode cX6_isPlace 18 = .ok (.iload_n 2, 1) := by decide +kernel
theorem dX6_isPlace_19 : decode cX6_isPlace 19 = .ok (.iconst 1, 1) := by decide +kernel
theorem dX6_isPlace_20 : decode cX6_isPlace 20 = .ok (.if_icmp .lt 13, 3) := by decide +kernel
theorem dX6_isPlace_23 : decode cX6_isPlace 23 = .ok (.iload_n 2, 1) := by decide +kernel
theorem dX6_isPlace_24 : decode cX6_isPlace 24 = .ok (.bipush 9, 2) := by decide +kernel
theorem dX6_isPlace_26 : decode cX6_isPlace 26 = .ok (.if_icmp .gt 7, 3) := by decide +kernel
theorem dX6_isPlace_29 : decode cX6_isPlace 29 = .ok (.iconst 1, 1) := by decide +kernel
theorem dX6_isPlace_30 : decode cX6_isPlace 30 = .ok (.goto 4, 3) := by decide +kernel
theorem dX6_isPlace_33 : decode cX6_isPlace 33 = .ok (.iconst 0, 1) := by decide +kernel
theorem dX6_isPlace_34 : decode cX6_isPlace 34 = .ok (.ireturn, 1) := by decide +kernel
set_option maxHeartbeats 4000000 in
set_option maxRecDepth 100000 in
theorem ct_X6_isPlace (l : Launch) (D : va_G) (ce : Nat → ClassId) (a b d : Int) (ha : -2147483648 ≤ a ∧ a < 2147483648) (hb : -2147483648 ≤ b ∧ b < 2147483648) (hd : -2147483648 ≤ d ∧ d < 2147483648) : Ct l yX6_isPlace cX6_isPlace 3 (some .boolean) { frames := 1, cells := 0, slots := 0, locals := 21 } 0 0 D (TY ce) [.int (zI a), .int (zI b), .int (zI d)] ([]) (QI D (TY ce) (fun r w1 => ∃ z : Int, r = zI z ∧ w1 = [] ∧ ((z = 1 ∧ (-20 ≤ a ∧ a ≤ 20 ∧ -20 ≤ b ∧ b ≤ 20 ∧ 1 ≤ d ∧ d ≤ 9)) ∨ (z = 0 ∧ ¬ (-20 ≤ a ∧ a ≤ 20 ∧ -20 ≤ b ∧ b ≤ 20 ∧ 1 ≤ d ∧ d ≤ 9))))) := by
  refine Ct.ofB (by decide) (Nat.le_of_ble_eq_true rfl) ?_
  intro p e s m args below meth c A Q hX hnm hR
  refine Z.pick (lv' := [(0, .int (zI a)), (1, .int (zI b)), (2, .int (zI d))]) [0, 1, 2] rfl ?_
  refine Z.iload_n hX dX6_isPlace_0 rfl rfl ?_
  refine Z.bipush hX dX6_isPlace_1 (by decide) ?_
  refine Z.callS0i (As := [.int (zI a), .int (zI 20)]) (rest := []) hX (ct_X6_isWithin l D ce a 20 ha (by omega)) mc_X6_isWithin ml_X6_65 st_X6_isWithin ini_X6 nd_X6_isWithin ⟨Nat.le_of_ble_eq_true rfl, Nat.le_of_ble_eq_true rfl⟩ ⟨rfl, rfl⟩ ⟨Nat.le_refl _, Nat.le_refl _⟩ rfl (Nat.le_of_ble_eq_true rfl) dX6_isPlace_3 ?_
  rintro r_1 w1 ⟨z2, hr_, hw_, hq3⟩
  subst hr_
  refine ⟨hw_, ?_⟩
  refine Z.if_eq hX 33 dX6_isPlace_6 (by decide) ⟨by omega, by omega⟩ ?_ ?_
  · intro c4
    refine Z.iconst hX dX6_isPlace_33 ?_
    exact hR _ _ _ _ dX6_isPlace_34 rfl ⟨0, rfl, rfl, (by omega)⟩
  · intro c4
    refine Z.iload_n hX dX6_isPlace_9 rfl rfl ?_
    refine Z.bipush hX dX6_isPlace_10 (by decide) ?_
    refine Z.callS0i (As := [.int (zI b), .int (zI 20)]) (rest := []) hX (ct_X6_isWithin l D ce b 20 hb (by omega)) mc_X6_isWithin ml_X6_65 st_X6_isWithin ini_X6 nd_X6_isWithin ⟨Nat.le_of_ble_eq_true rfl, Nat.le_of_ble_eq_true rfl⟩ ⟨rfl, rfl⟩ ⟨Nat.le_refl _, Nat.le_refl _⟩ rfl (Nat.le_of_ble_eq_true rfl) dX6_isPlace_12 ?_
    rintro r_5 w1 ⟨z6, hr_, hw_, hq7⟩
    subst hr_
    refine ⟨hw_, ?_⟩
    refine Z.if_eq hX 33 dX6_isPlace_15 (by decide) ⟨by omega, by omega⟩ ?_ ?_
    · intro c8
      refine Z.iconst hX dX6_isPlace_33 ?_
      exact hR _ _ _ _ dX6_isPlace_34 rfl ⟨0, rfl, rfl, (by omega)⟩
    · intro c8
      refine Z.iload_n hX dX6_isPlace_18 rfl rfl ?_
      refine Z.iconst hX dX6_isPlace_19 ?_
      refine Z.icmp_lt hX 33 dX6_isPlace_20 (by decide) ⟨by omega, by omega⟩ ⟨by omega, by omega⟩ ?_ ?_
      · intro c9
        refine Z.iconst hX dX6_isPlace_33 ?_
        exact hR _ _ _ _ dX6_isPlace_34 rfl ⟨0, rfl, rfl, (by omega)⟩
      · intro c9
        refine Z.iload_n hX dX6_isPlace_23 rfl rfl ?_
        refine Z.bipush hX dX6_isPlace_24 (by decide) ?_
        refine Z.icmp_gt hX 33 dX6_isPlace_26 (by decide) ⟨by omega, by omega⟩ ⟨by omega, by omega⟩ ?_ ?_
        · intro c10
          refine Z.iconst hX dX6_isPlace_33 ?_
          exact hR _ _ _ _ dX6_isPlace_34 rfl ⟨0, rfl, rfl, (by omega)⟩
        · intro c10
          refine Z.iconst hX dX6_isPlace_29 ?_
          refine Z.goto hX 34 dX6_isPlace_30 (by decide) ?_
          exact hR _ _ _ _ dX6_isPlace_34 rfl ⟨1, rfl, rfl, (by omega)⟩

theorem dX6_powerOf_0 : decode cX6_powerOf 0 = .ok (.lconst 1, 1) := by decide +kernel
theorem dX6_powerOf_1 : decode cX6_powerOf 1 = .ok (.lstore_n 3, 1) := by decide +kernel
theorem dX6_powerOf_2 : decode cX6_powerOf 2 = .ok (.iconst 0, 1) := by decide +kernel
theorem dX6_powerOf_3 : decode cX6_powerOf 3 = .ok (.istore 5, 2) := by decide +kernel
theorem dX6_powerOf_5 : decode cX6_powerOf 5 = .ok (.iload 5, 2) := by decide +kernel
theorem dX6_powerOf_7 : decode cX6_powerOf 7 = .ok (.iload_n 2, 1) := by decide +kernel
theorem dX6_powerOf_8 : decode cX6_powerOf 8 = .ok (.if_icmp .ge 13, 3) := by decide +kernel
theorem dX6_powerOf_11 : decode cX6_powerOf 11 = .ok (.lload_n 3, 1) := by decide +kernel
theorem dX6_powerOf_12 : decode cX6_powerOf 12 = .ok (.lload_n 0, 1) := by decide +kernel
theorem dX6_powerOf_13 : decode cX6_powerOf 13 = .ok (.lmul, 1) := by decide +kernel
theorem dX6_powerOf_14 : decode cX6_powerOf 14 = .ok (.lstore_n 3, 1) := by decide +kernel
theorem dX6_powerOf_15 : decode cX6_powerOf 15 = .ok (.iinc 5 1, 3) := by decide +kernel
theorem dX6_powerOf_18 : decode cX6_powerOf 18 = .ok (.goto (-13), 3) := by decide +kernel
theorem dX6_powerOf_21 : decode cX6_powerOf 21 = .ok (.lload_n 3, 1) := by decide +kernel
theorem dX6_powerOf_22 : decode cX6_powerOf 22 = .ok (.lreturn, 1) := by decide +kernel
set_option maxHeartbeats 4000000 in
set_option maxRecDepth 100000 in
theorem ct_X6_powerOf (l : Launch) (D : va_G) (ce : Nat → ClassId) (b : Int64) (n : Int) (hn : -2147483648 ≤ n ∧ n < 2147483648) : Ct l yX6_powerOf cX6_powerOf 6 (some .long) { frames := 0, cells := 0, slots := 0, locals := 0 } 0 0 D (TY ce) [.long b, .int (zI n)] ([]) (QL D (TY ce) (fun r w1 => ∃ r0 : Int64, r = r0 ∧ w1 = [] ∧ (r0 = lpow b n.toNat))) := by
  refine Ct.ofL (by decide) (Nat.le_of_ble_eq_true rfl) ?_
  intro p e s m args below meth c A Q hX hnm hR
  refine Z.pick (lv' := [(0, .long b), (2, .int (zI n))]) [0, 1] rfl ?_
  refine Z.lconst (v := 1) hX dX6_powerOf_0 rfl ?_
  refine Z.lstore_n (lv' := [(3, .long 1), (0, .long b), (2, .int (zI n))]) hX dX6_powerOf_1 rfl (by decide) rfl ?_
  refine Z.iconst hX dX6_powerOf_2 ?_
  refine Z.istore (lv' := [(5, .int (zI 0)), (3, .long 1), (0, .long b), (2, .int (zI n))]) hX dX6_powerOf_3 (by decide) rfl ?_
  have key_5 : ∀ (N : Nat), ∀ (k : Int) (r : Int64), (n - k).toNat < N → (hk : 0 ≤ k ∧ (k ≤ n ∨ k = 0)) → (hr : r = lpow b k.toNat) → Z p l e { frames := 0, cells := 0, slots := 0, locals := 0 } s m args below meth c D A 6 0 0 Q 5 [(5, .int (zI k)), (3, .long r), (0, .long b), (2, .int (zI n))] [] ([]) := by
    intro N
    induction N with
    | zero => intro k r hm; exact absurd hm (Nat.not_lt_zero _)
    | succ N ih_5 =>
      intro k r hm hk hr
      refine Z.iload hX dX6_powerOf_5 rfl ?_
      refine Z.iload_n hX dX6_powerOf_7 rfl rfl ?_
      refine Z.icmp_ge hX 21 dX6_powerOf_8 (by decide) ⟨by omega, by omega⟩ ⟨by omega, by omega⟩ ?_ ?_
      · intro c1
        refine Z.lload_n hX dX6_powerOf_21 rfl rfl ?_
        exact hR _ _ _ _ dX6_powerOf_22 ⟨r, rfl, rfl, by rw [hr]; congr 1; omega⟩
      · intro c1
        refine Z.lload_n hX dX6_powerOf_11 rfl rfl ?_
        refine Z.lload_n hX dX6_powerOf_12 rfl rfl ?_
        refine Z.lmul hX dX6_powerOf_13 ?_
        refine Z.lstore_n (lv' := [(3, .long (r * b)), (5, .int (zI k)), (0, .long b), (2, .int (zI n))]) hX dX6_powerOf_14 rfl (by decide) rfl ?_
        refine Z.iinc (lv' := [(5, .int (zI (k + 1))), (3, .long (r * b)), (0, .long b), (2, .int (zI n))]) hX dX6_powerOf_15 rfl (by decide) rfl ?_
        refine Z.goto hX 5 dX6_powerOf_18 (by decide) ?_
        refine Z.pick [0, 1, 2, 3] rfl ?_
        exact ih_5 _ _ (by omega) (by omega) (by rw [hr]; exact lpow_s hk.1)
  refine Z.pick [0, 1, 2, 3] rfl ?_
  exact key_5 _ _ _ (Nat.lt_succ_self _) (by omega) rfl

theorem dX6_commonOf_0 : decode cX6_commonOf 0 = .ok (.lload_n 0, 1) := by decide +kernel
theorem dX6_commonOf_1 : decode cX6_commonOf 1 = .ok (.lconst 0, 1) := by decide +kernel
theorem dX6_commonOf_2 : decode cX6_commonOf 2 = .ok (.lcmp, 1) := by decide +kernel
theorem dX6_commonOf_3 : decode cX6_commonOf 3 = .ok (.ifCond .ge 8, 3) := by decide +kernel
theorem dX6_commonOf_6 : decode cX6_commonOf 6 = .ok (.lload_n 0, 1) := by decide +kernel
theorem dX6_commonOf_7 : decode cX6_commonOf 7 = .ok (.lneg, 1) := by decide +kernel
theorem dX6_commonOf_8 : decode cX6_commonOf 8 = .ok (.goto 4, 3) := by decide +kernel
theorem dX6_commonOf_11 : decode cX6_commonOf 11 = .ok (.lload_n 0, 1) := by decide +kernel
theorem dX6_commonOf_12 : decode cX6_commonOf 12 = .ok (.lstore 4, 2) := by decide +kernel
theorem dX6_commonOf_14 : decode cX6_commonOf 14 = .ok (.lload_n 2, 1) := by decide +kernel
theorem dX6_commonOf_15 : decode cX6_commonOf 15 = .ok (.lconst 0, 1) := by decide +kernel
theorem dX6_commonOf_16 : decode cX6_commonOf 16 = .ok (.lcmp, 1) := by decide +kernel
theorem dX6_commonOf_17 : decode cX6_commonOf 17 = .ok (.ifCond .ge 8, 3) := by decide +kernel
theorem dX6_commonOf_20 : decode cX6_commonOf 20 = .ok (.lload_n 2, 1) := by decide +kernel
theorem dX6_commonOf_21 : decode cX6_commonOf 21 = .ok (.lneg, 1) := by decide +kernel
theorem dX6_commonOf_22 : decode cX6_commonOf 22 = .ok (.goto 4, 3) := by decide +kernel
theorem dX6_commonOf_25 : decode cX6_commonOf 25 = .ok (.lload_n 2, 1) := by decide +kernel
theorem dX6_commonOf_26 : decode cX6_commonOf 26 = .ok (.lstore 6, 2) := by decide +kernel
theorem dX6_commonOf_28 : decode cX6_commonOf 28 = .ok (.iconst 0, 1) := by decide +kernel
theorem dX6_commonOf_29 : decode cX6_commonOf 29 = .ok (.istore 8, 2) := by decide +kernel
theorem dX6_commonOf_31 : decode cX6_commonOf 31 = .ok (.iload 8, 2) := by decide +kernel
theorem dX6_commonOf_33 : decode cX6_commonOf 33 = .ok (.sipush 128, 3) := by decide +kernel
theorem dX6_commonOf_36 : decode cX6_commonOf 36 = .ok (.if_icmp .ge 31, 3) := by decide +kernel
theorem dX6_commonOf_39 : decode cX6_commonOf 39 = .ok (.lload 6, 2) := by decide +kernel
theorem dX6_commonOf_41 : decode cX6_commonOf 41 = .ok (.lconst 0, 1) := by decide +kernel
theorem dX6_commonOf_42 : decode cX6_commonOf 42 = .ok (.lcmp, 1) := by decide +kernel
theorem dX6_commonOf_43 : decode cX6_commonOf 43 = .ok (.ifCond .eq 24, 3) := by decide +kernel
theorem dX6_commonOf_46 : decode cX6_commonOf 46 = .ok (.lload 4, 2) := by decide +kernel
theorem dX6_commonOf_48 : decode cX6_commonOf 48 = .ok (.lload 6, 2) := by decide +kernel
theorem dX6_commonOf_50 : decode cX6_commonOf 50 = .ok (.lrem, 1) := by decide +kernel
theorem dX6_commonOf_51 : decode cX6_commonOf 51 = .ok (.lstore 9, 2) := by decide +kernel
theorem dX6_commonOf_53 : decode cX6_commonOf 53 = .ok (.lload 6, 2) := by decide +kernel
theorem dX6_commonOf_55 : decode cX6_commonOf 55 = .ok (.lstore 4, 2) := by decide +kernel
theorem dX6_commonOf_57 : decode cX6_commonOf 57 = .ok (.lload 9, 2) := by decide +kernel
theorem dX6_commonOf_59 : decode cX6_commonOf 59 = .ok (.lstore 6, 2) := by decide +kernel
theorem dX6_commonOf_61 : decode cX6_commonOf 61 = .ok (.iinc 8 1, 3) := by decide +kernel
theorem dX6_commonOf_64 : decode cX6_commonOf 64 = .ok (.goto (-33), 3) := by decide +kernel
theorem dX6_commonOf_67 : decode cX6_commonOf 67 = .ok (.lload 4, 2) := by decide +kernel
theorem dX6_commonOf_69 : decode cX6_commonOf 69 = .ok (.lreturn, 1) := by decide +kernel
set_option maxHeartbeats 4000000 in
set_option maxRecDepth 100000 in
theorem ct_X6_commonOf (l : Launch) (D : va_G) (ce : Nat → ClassId) (a b : Int64)  : Ct l yX6_commonOf cX6_commonOf 11 (some .long) { frames := 0, cells := 0, slots := 0, locals := 0 } 0 0 D (TY ce) [.long a, .long b] ([]) (QL D (TY ce) (fun r w1 => ∃ r0 : Int64, r = r0 ∧ w1 = [] ∧ (cgE a b r0))) := by
  refine Ct.ofL (by decide) (Nat.le_of_ble_eq_true rfl) ?_
  intro p e s m args below meth c A Q hX hnm hR
  refine Z.pick (lv' := [(0, .long a), (2, .long b)]) [0, 1] rfl ?_
  have key_12 : ∀ (x : Int64), (hx1 : x = lab a) → Z p l e { frames := 0, cells := 0, slots := 0, locals := 0 } s m args below meth c D A 11 0 0 Q 12 [(0, .long a), (2, .long b)] [.long x] ([]) := by
    intro x hx1
    refine Z.lstore (lv' := [(4, .long x), (0, .long a), (2, .long b)]) hX dX6_commonOf_12 (by decide) rfl ?_
    have key_26 : ∀ (y : Int64), (hy1 : y = lab b) → Z p l e { frames := 0, cells := 0, slots := 0, locals := 0 } s m args below meth c D A 11 0 0 Q 26 [(4, .long x)] [.long y] ([]) := by
      intro y hy1
      refine Z.lstore (lv' := [(6, .long y), (4, .long x)]) hX dX6_commonOf_26 (by decide) rfl ?_
      refine Z.iconst hX dX6_commonOf_28 ?_
      refine Z.istore (lv' := [(8, .int (zI 0)), (6, .long y), (4, .long x)]) hX dX6_commonOf_29 (by decide) rfl ?_
      have key_31 : ∀ (N : Nat), ∀ (i : Int) (x y : Int64), (128 - i).toNat < N → (hi : 0 ≤ i ∧ i ≤ 128) → (hc : cgI a b x y) → (hp : cgP x y i) → Z p l e { frames := 0, cells := 0, slots := 0, locals := 0 } s m args below meth c D A 11 0 0 Q 31 [(8, .int (zI i)), (4, .long x), (6, .long y)] [] ([]) := by
        intro N
        induction N with
        | zero => intro i x y hm; exact absurd hm (Nat.not_lt_zero _)
        | succ N ih_31 =>
          intro i x y hm hi hc hp
          refine Z.iload hX dX6_commonOf_31 rfl ?_
          refine Z.sipush hX dX6_commonOf_33 (by decide) ?_
          refine Z.icmp_ge hX 67 dX6_commonOf_36 (by decide) ⟨by omega, by omega⟩ ⟨by omega, by omega⟩ ?_ ?_
          · intro c1
            refine Z.lload hX dX6_commonOf_67 rfl ?_
            exact hR _ _ _ _ dX6_commonOf_69 ⟨x, rfl, rfl, cgI_e (by first | assumption | exact cgP_e (by assumption) hp) hc⟩
          · intro c1
            refine Z.lload hX dX6_commonOf_39 rfl ?_
            refine Z.lconst (v := 0) hX dX6_commonOf_41 rfl ?_
            refine Z.lcmp_eq hX 67 dX6_commonOf_42 dX6_commonOf_43 (by decide) ?_ ?_
            · intro c2
              refine Z.lload hX dX6_commonOf_67 rfl ?_
              exact hR _ _ _ _ dX6_commonOf_69 ⟨x, rfl, rfl, cgI_e (by first | assumption | exact cgP_e (by assumption) hp) hc⟩
            · intro c2
              refine Z.lload hX dX6_commonOf_46 rfl ?_
              refine Z.lload hX dX6_commonOf_48 rfl ?_
              refine Z.lrem hX dX6_commonOf_50 (by assumption) ?_
              refine Z.lstore (lv' := [(9, .long (x - x / y * y)), (8, .int (zI i)), (4, .long x), (6, .long y)]) hX dX6_commonOf_51 (by decide) rfl ?_
              refine Z.lload hX dX6_commonOf_53 rfl ?_
              refine Z.lstore (lv' := [(4, .long y), (9, .long (x - x / y * y)), (8, .int (zI i)), (6, .long y)]) hX dX6_commonOf_55 (by decide) rfl ?_
              refine Z.lload hX dX6_commonOf_57 rfl ?_
              refine Z.lstore (lv' := [(6, .long (x - x / y * y)), (4, .long y), (9, .long (x - x / y * y)), (8, .int (zI i))]) hX dX6_commonOf_59 (by decide) rfl ?_
              refine Z.iinc (lv' := [(8, .int (zI (i + 1))), (6, .long (x - x / y * y)), (4, .long y), (9, .long (x - x / y * y))]) hX dX6_commonOf_61 rfl (by decide) rfl ?_
              refine Z.goto hX 31 dX6_commonOf_64 (by decide) ?_
              refine Z.pick [0, 2, 1] rfl ?_
              exact ih_31 _ _ _ (by omega) (by omega) (cgI_s (by assumption) hc) (cgP_s hi.1 (by assumption) hp)
      refine Z.pick [0, 2, 1] rfl ?_
      exact key_31 _ _ _ _ (Nat.lt_succ_self _) (by omega) (by rw [hx1, hy1]; exact cgI_0 a b) (Or.inl rfl)
    refine Z.lload_n hX dX6_commonOf_14 rfl rfl ?_
    refine Z.lconst (v := 0) hX dX6_commonOf_15 rfl ?_
    refine Z.lcmp_ge hX 25 dX6_commonOf_16 dX6_commonOf_17 (by decide) ?_ ?_
    · intro c3
      refine Z.lload_n hX dX6_commonOf_25 rfl rfl ?_
      refine Z.pick [0] rfl ?_
      exact key_26 _ (lab_pos (by assumption))
    · intro c3
      refine Z.lload_n hX dX6_commonOf_20 rfl rfl ?_
      refine Z.lneg hX dX6_commonOf_21 ?_
      refine Z.goto hX 26 dX6_commonOf_22 (by decide) ?_
      refine Z.pick [0] rfl ?_
      exact key_26 _ (lab_neg (by assumption))
  refine Z.lload_n hX dX6_commonOf_0 rfl rfl ?_
  refine Z.lconst (v := 0) hX dX6_commonOf_1 rfl ?_
  refine Z.lcmp_ge hX 11 dX6_commonOf_2 dX6_commonOf_3 (by decide) ?_ ?_
  · intro c4
    refine Z.lload_n hX dX6_commonOf_11 rfl rfl ?_
    refine Z.pick [0, 1] rfl ?_
    exact key_12 _ (lab_pos (by assumption))
  · intro c4
    refine Z.lload_n hX dX6_commonOf_6 rfl rfl ?_
    refine Z.lneg hX dX6_commonOf_7 ?_
    refine Z.goto hX 12 dX6_commonOf_8 (by decide) ?_
    refine Z.pick [0, 1] rfl ?_
    exact key_12 _ (lab_neg (by assumption))

theorem dX6_isPowerWithin_0 : decode cX6_isPowerWithin 0 = .ok (.lload_n 0, 1) := by decide +kernel
theorem dX6_isPowerWithin_1 : decode cX6_isPowerWithin 1 = .ok (.lconst 1, 1) := by decide +kernel
theorem dX6_isPowerWithin_2 : decode cX6_isPowerWithin 2 = .ok (.lcmp, 1) := by decide +kernel
theorem dX6_isPowerWithin_3 : decode cX6_isPowerWithin 3 = .ok (.ifCond .ge 5, 3) := by decide +kernel
theorem dX6_isPowerWithin_6 : decode cX6_isPowerWithin 6 = .ok (.iconst 0, 1) := by decide +kernel
theorem dX6_isPowerWithin_7 : decode cX6_isPowerWithin 7 = .ok (.ireturn, 1) := by decide +kernel
theorem dX6_isPowerWithin_8 : decode cX6_isPowerWithin 8 = .ok (.lload_n 3, 1) := by decide +kernel
theorem dX6_isPowerWithin_9 : decode cX6_isPowerWithin 9 = .ok (.lstore 5, 2) := by decide +kernel
theorem dX6_isPowerWithin_11 : decode cX6_isPowerWithin 11 = .ok (.iconst 0, 1) := by decide +kernel
theorem dX6_isPowerWithin_12 : decode cX6_isPowerWithin 12 = .ok (.istore 7, 2) := by decide +kernel
theorem dX6_isPowerWithin_14 : decode cX6_isPowerWithin 14 = .ok (.iload 7, 2) := by decide +kernel
theorem dX6_isPowerWithin_16 : decode cX6_isPowerWithin 16 = .ok (.iload_n 2, 1) := by decide +kernel
theorem dX6_isPowerWithin_17 : decode cX6_isPowerWithin 17 = .ok (.if_icmp .ge 15, 3) := by decide +kernel
theorem dX6_isPowerWithin_20 : decode cX6_isPowerWithin 20 = .ok (.lload 5, 2) := by decide +kernel
theorem dX6_isPowerWithin_22 : decode cX6_isPowerWithin 22 = .ok (.lload_n 0, 1) := by decide +kernel
theorem dX6_isPowerWithin_23 : decode cX6_isPowerWithin 23 = .ok (.ldiv, 1) := by decide +kernel
theorem dX6_isPowerWithin_24 : decode cX6_isPowerWithin 24 = .ok (.lstore 5, 2) := by decide +kernel
theorem dX6_isPowerWithin_26 : decode cX6_isPowerWithin 26 = .ok (.iinc 7 1, 3) := by decide +kernel
theorem dX6_isPowerWithin_29 : decode cX6_isPowerWithin 29 = .ok (.goto (-15), 3) := by decide +kernel
theorem dX6_isPowerWithin_32 : decode cX6_isPowerWithin 32 = .ok (.lload 5, 2) := by decide +kernel
theorem dX6_isPowerWithin_34 : decode cX6_isPowerWithin 34 = .ok (.lconst 1, 1) := by decide +kernel
theorem dX6_isPowerWithin_35 : decode cX6_isPowerWithin 35 = .ok (.lcmp, 1) := by decide +kernel
theorem dX6_isPowerWithin_36 : decode cX6_isPowerWithin 36 = .ok (.ifCond .lt 7, 3) := by decide +kernel
theorem dX6_isPowerWithin_39 : decode cX6_isPowerWithin 39 = .ok (.iconst 1, 1) := by decide +kernel
theorem dX6_isPowerWithin_40 : decode cX6_isPowerWithin 40 = .ok (.goto 4, 3) := by decide +kernel
theorem dX6_isPowerWithin_43 : decode cX6_isPowerWithin 43 = .ok (.iconst 0, 1) := by decide +kernel
theorem dX6_isPowerWithin_44 : decode cX6_isPowerWithin 44 = .ok (.ireturn, 1) := by decide +kernel
set_option maxHeartbeats 4000000 in
set_option maxRecDepth 100000 in
theorem ct_X6_isPowerWithin (l : Launch) (D : va_G) (ce : Nat → ClassId) (b : Int64) (k : Int) (v : Int64) (hk : -2147483648 ≤ k ∧ k < 2147483648) : Ct l yX6_isPowerWithin cX6_isPowerWithin 8 (some .boolean) { frames := 0, cells := 0, slots := 0, locals := 0 } 0 0 D (TY ce) [.long b, .int (zI k), .long v] ([]) (QI D (TY ce) (fun r w1 => ∃ z : Int, r = zI z ∧ w1 = [] ∧ (z = 0 ∨ z = 1))) := by
  refine Ct.ofB (by decide) (Nat.le_of_ble_eq_true rfl) ?_
  intro p e s m args below meth c A Q hX hnm hR
  refine Z.pick (lv' := [(0, .long b), (2, .int (zI k)), (3, .long v)]) [0, 1, 2] rfl ?_
  refine Z.lload_n hX dX6_isPowerWithin_0 rfl rfl ?_
  refine Z.lconst (v := 1) hX dX6_isPowerWithin_1 rfl ?_
  refine Z.lcmp_ge hX 8 dX6_isPowerWithin_2 dX6_isPowerWithin_3 (by decide) ?_ ?_
  · intro c1
    have hb0 : ¬ b = 0 := fun q => by subst q; exact absurd (by assumption) (by decide : ¬ (1 : Int64) ≤ 0)
    refine Z.lload_n hX dX6_isPowerWithin_8 rfl rfl ?_
    refine Z.lstore (lv' := [(5, .long v), (0, .long b), (2, .int (zI k)), (3, .long v)]) hX dX6_isPowerWithin_9 (by decide) rfl ?_
    refine Z.iconst hX dX6_isPowerWithin_11 ?_
    refine Z.istore (lv' := [(7, .int (zI 0)), (5, .long v), (0, .long b), (2, .int (zI k)), (3, .long v)]) hX dX6_isPowerWithin_12 (by decide) rfl ?_
    have key_14 : ∀ (N : Nat), ∀ (i : Int) (x : Int64), (k - i).toNat < N → (hi : 0 ≤ i ∧ (i ≤ k ∨ i = 0)) → Z p l e { frames := 0, cells := 0, slots := 0, locals := 0 } s m args below meth c D A 8 0 0 Q 14 [(7, .int (zI i)), (5, .long x), (0, .long b), (2, .int (zI k))] [] ([]) := by
      intro N
      induction N with
      | zero => intro i x hm; exact absurd hm (Nat.not_lt_zero _)
      | succ N ih_14 =>
        intro i x hm hi
        refine Z.iload hX dX6_isPowerWithin_14 rfl ?_
        refine Z.iload_n hX dX6_isPowerWithin_16 rfl rfl ?_
        refine Z.icmp_ge hX 32 dX6_isPowerWithin_17 (by decide) ⟨by omega, by omega⟩ ⟨by omega, by omega⟩ ?_ ?_
        · intro c2
          refine Z.lload hX dX6_isPowerWithin_32 rfl ?_
          refine Z.lconst (v := 1) hX dX6_isPowerWithin_34 rfl ?_
          refine Z.lcmp_lt hX 43 dX6_isPowerWithin_35 dX6_isPowerWithin_36 (by decide) ?_ ?_
          · intro c3
            refine Z.iconst hX dX6_isPowerWithin_43 ?_
            exact hR _ _ _ _ dX6_isPowerWithin_44 rfl ⟨0, rfl, rfl, (by omega)⟩
          · intro c3
            refine Z.iconst hX dX6_isPowerWithin_39 ?_
            refine Z.goto hX 44 dX6_isPowerWithin_40 (by decide) ?_
            exact hR _ _ _ _ dX6_isPowerWithin_44 rfl ⟨1, rfl, rfl, (by omega)⟩
        · intro c2
          refine Z.lload hX dX6_isPowerWithin_20 rfl ?_
          refine Z.lload_n hX dX6_isPowerWithin_22 rfl rfl ?_
          refine Z.ldiv hX dX6_isPowerWithin_23 hb0 ?_
          refine Z.lstore (lv' := [(5, .long (x / b)), (7, .int (zI i)), (0, .long b), (2, .int (zI k))]) hX dX6_isPowerWithin_24 (by decide) rfl ?_
          refine Z.iinc (lv' := [(7, .int (zI (i + 1))), (5, .long (x / b)), (0, .long b), (2, .int (zI k))]) hX dX6_isPowerWithin_26 rfl (by decide) rfl ?_
          refine Z.goto hX 14 dX6_isPowerWithin_29 (by decide) ?_
          refine Z.pick [0, 1, 2, 3] rfl ?_
          exact ih_14 _ _ (by omega) (by omega)
    refine Z.pick [0, 1, 2, 3] rfl ?_
    exact key_14 _ _ _ (Nat.lt_succ_self _) (by omega)
  · intro c1
    refine Z.iconst hX dX6_isPowerWithin_6 ?_
    exact hR _ _ _ _ dX6_isPowerWithin_7 rfl ⟨0, rfl, rfl, (by omega)⟩

theorem dX6_rootOf_0 : decode cX6_rootOf 0 = .ok (.lconst 0, 1) := by decide +kernel
theorem dX6_rootOf_1 : decode cX6_rootOf 1 = .ok (.lstore_n 3, 1) := by decide +kernel
theorem dX6_rootOf_2 : decode cX6_rootOf 2 = .ok (.bipush 31, 2) := by decide +kernel
theorem dX6_rootOf_4 : decode cX6_rootOf 4 = .ok (.istore 5, 2) := by decide +kernel
theorem dX6_rootOf_6 : decode cX6_rootOf 6 = .ok (.iload 5, 2) := by decide +kernel
theorem dX6_rootOf_8 : decode cX6_rootOf 8 = .ok (.ifCond .lt 30, 3) := by decide +kernel
theorem dX6_rootOf_11 : decode cX6_rootOf 11 = .ok (.lload_n 3, 1) := by decide +kernel
theorem dX6_rootOf_12 : decode cX6_rootOf 12 = .ok (.lconst 1, 1) := by decide +kernel
theorem dX6_rootOf_13 : decode cX6_rootOf 13 = .ok (.iload 5, 2) := by decide +kernel
theorem dX6_rootOf_15 : decode cX6_rootOf 15 = .ok (.lshl, 1) := by decide +kernel
theorem dX6_rootOf_16 : decode cX6_rootOf 16 = .ok (.ladd, 1) := by decide +kernel
theorem dX6_rootOf_17 : decode cX6_rootOf 17 = .ok (.lstore 6, 2) := by decide +kernel
theorem dX6_rootOf_19 : decode cX6_rootOf 19 = .ok (.lload 6, 2) := by decide +kernel
theorem dX6_rootOf_21 : decode cX6_rootOf 21 = .ok (.iload_n 2, 1) := by decide +kernel
theorem dX6_rootOf_22 : decode cX6_rootOf 22 = .ok (.lload_n 0, 1) := by decide +kernel
theorem dX6_rootOf_23 : decode cX6_rootOf 23 = .ok (.invokestatic 170, 3) := by decide +kernel
theorem dX6_rootOf_26 : decode cX6_rootOf 26 = .ok (.ifCond .eq 6, 3) := by decide +kernel
theorem dX6_rootOf_29 : decode cX6_rootOf 29 = .ok (.lload 6, 2) := by decide +kernel
theorem dX6_rootOf_31 : decode cX6_rootOf 31 = .ok (.lstore_n 3, 1) := by decide +kernel
theorem dX6_rootOf_32 : decode cX6_rootOf 32 = .ok (.iinc 5 (-1), 3) := by decide +kernel
theorem dX6_rootOf_35 : decode cX6_rootOf 35 = .ok (.goto (-29), 3) := by decide +kernel
theorem dX6_rootOf_38 : decode cX6_rootOf 38 = .ok (.lload_n 3, 1) := by decide +kernel
theorem dX6_rootOf_39 : decode cX6_rootOf 39 = .ok (.lreturn, 1) := by decide +kernel
set_option maxHeartbeats 4000000 in
set_option maxRecDepth 100000 in
theorem ct_X6_rootOf (l : Launch) (D : va_G) (ce : Nat → ClassId) (v : Int64) (k : Int) (hk : -2147483648 ≤ k ∧ k < 2147483648) : Ct l yX6_rootOf cX6_rootOf 8 (some .long) { frames := 1, cells := 0, slots := 0, locals := 27 } 0 0 D (TY ce) [.long v, .int (zI k)] ([]) (QL D (TY ce) (fun r w1 => ∃ r0 : Int64, r = r0 ∧ w1 = [])) := by
  refine Ct.ofL (by decide) (Nat.le_of_ble_eq_true rfl) ?_
  intro p e s m args below meth c A Q hX hnm hR
  refine Z.pick (lv' := [(0, .long v), (2, .int (zI k))]) [0, 1] rfl ?_
  refine Z.lconst (v := 0) hX dX6_rootOf_0 rfl ?_
  refine Z.lstore_n (lv' := [(3, .long 0), (0, .long v), (2, .int (zI k))]) hX dX6_rootOf_1 rfl (by decide) rfl ?_
  refine Z.bipush hX dX6_rootOf_2 (by decide) ?_
  refine Z.istore (lv' := [(5, .int (zI 31)), (3, .long 0), (0, .long v), (2, .int (zI k))]) hX dX6_rootOf_4 (by decide) rfl ?_
  have key_6 : ∀ (N : Nat), ∀ (i : Int) (x : Int64), (i + 1).toNat < N → (hi : -1 ≤ i ∧ i ≤ 31) → Z p l e { frames := 1, cells := 0, slots := 0, locals := 27 } s m args below meth c D A 8 0 0 Q 6 [(5, .int (zI i)), (3, .long x), (0, .long v), (2, .int (zI k))] [] ([]) := by
    intro N
    induction N with
    | zero => intro i x hm; exact absurd hm (Nat.not_lt_zero _)
    | succ N ih_6 =>
      intro i x hm hi
      refine Z.iload hX dX6_rootOf_6 rfl ?_
      refine Z.if_lt hX 38 dX6_rootOf_8 (by decide) ⟨by omega, by omega⟩ ?_ ?_
      · intro c1
        refine Z.lload_n hX dX6_rootOf_38 rfl rfl ?_
        exact hR _ _ _ _ dX6_rootOf_39 ⟨x, rfl, rfl⟩
      · intro c1
        refine Z.lload_n hX dX6_rootOf_11 rfl rfl ?_
        refine Z.lconst (v := 1) hX dX6_rootOf_12 rfl ?_
        refine Z.iload hX dX6_rootOf_13 rfl ?_
        refine Z.lshl hX dX6_rootOf_15 rfl ?_
        refine Z.topl (fun y2 ey2 => ?_)
        refine Z.ladd hX dX6_rootOf_16 ?_
        refine Z.lstore (lv' := [(6, .long (x + y2)), (5, .int (zI i)), (3, .long x), (0, .long v), (2, .int (zI k))]) hX dX6_rootOf_17 (by decide) rfl ?_
        refine Z.lload hX dX6_rootOf_19 rfl ?_
        refine Z.iload_n hX dX6_rootOf_21 rfl rfl ?_
        refine Z.lload_n hX dX6_rootOf_22 rfl rfl ?_
        refine Z.callS0i (As := [.long (x + y2), .int (zI k), .long v]) (rest := []) hX (ct_X6_isPowerWithin l D ce (x + y2) k v (by omega)) mc_X6_isPowerWithin ml_X6_170 st_X6_isPowerWithin ini_X6 nd_X6_isPowerWithin ⟨Nat.le_of_ble_eq_true rfl, Nat.le_of_ble_eq_true rfl⟩ ⟨rfl, rfl⟩ ⟨Nat.le_refl _, Nat.le_refl _⟩ rfl (Nat.le_of_ble_eq_true rfl) dX6_rootOf_23 ?_
        rintro r_3 w1 ⟨z4, hr_, hw_, hq5⟩
        subst hr_
        refine ⟨hw_, ?_⟩
        refine Z.if_eq hX 32 dX6_rootOf_26 (by decide) ⟨by omega, by omega⟩ ?_ ?_
        · intro c6
          refine Z.iinc (lv' := [(5, .int (zI (i + -1))), (6, .long (x + y2)), (3, .long x), (0, .long v), (2, .int (zI k))]) hX dX6_rootOf_32 rfl (by decide) rfl ?_
          refine Z.goto hX 6 dX6_rootOf_35 (by decide) ?_
          refine Z.pick [0, 2, 3, 4] rfl ?_
          exact ih_6 _ _ (by omega) (by omega)
        · intro c6
          refine Z.lload hX dX6_rootOf_29 rfl ?_
          refine Z.lstore_n (lv' := [(3, .long (x + y2)), (6, .long (x + y2)), (5, .int (zI i)), (0, .long v), (2, .int (zI k))]) hX dX6_rootOf_31 rfl (by decide) rfl ?_
          refine Z.iinc (lv' := [(5, .int (zI (i + -1))), (3, .long (x + y2)), (6, .long (x + y2)), (0, .long v), (2, .int (zI k))]) hX dX6_rootOf_32 rfl (by decide) rfl ?_
          refine Z.goto hX 6 dX6_rootOf_35 (by decide) ?_
          refine Z.pick [0, 1, 3, 4] rfl ?_
          exact ih_6 _ _ (by omega) (by omega)
  refine Z.pick [0, 1, 2, 3] rfl ?_
  exact key_6 _ _ _ (Nat.lt_succ_self _) (by omega)

theorem dX6_slotOf_0 : decode cX6_slotOf 0 = .ok (.iload_n 0, 1) := by decide +kernel
theorem dX6_slotOf_1 : decode cX6_slotOf 1 = .ok (.iload_n 0, 1) := by decide +kernel
theorem dX6_slotOf_2 : decode cX6_slotOf 2 = .ok (.iconst 1, 1) := by decide +kernel
theorem dX6_slotOf_3 : decode cX6_slotOf 3 = .ok (.iadd, 1) := by decide +kernel
theorem dX6_slotOf_4 : decode cX6_slotOf 4 = .ok (.imul, 1) := by decide +kernel
theorem dX6_slotOf_5 : decode cX6_slotOf 5 = .ok (.iconst 2, 1) := by decide +kernel
theorem dX6_slotOf_6 : decode cX6_slotOf 6 = .ok (.idiv, 1) := by decide +kernel
theorem dX6_slotOf_7 : decode cX6_slotOf 7 = .ok (.iload_n 1, 1) := by decide +kernel
theorem dX6_slotOf_8 : decode cX6_slotOf 8 = .ok (.iadd, 1) := by decide +kernel
theorem dX6_slotOf_9 : decode cX6_slotOf 9 = .ok (.ireturn, 1) := by decide +kernel
set_option maxHeartbeats 4000000 in
set_option maxRecDepth 100000 in
theorem ct_X6_slotOf (l : Launch) (D : va_G) (ce : Nat → ClassId) (d j : Int) (hd : 0 ≤ d ∧ d ≤ 6) (hj : 0 ≤ j ∧ j ≤ 6) : Ct l yX6_slotOf cX6_slotOf 2 (some .int) { frames := 0, cells := 0, slots := 0, locals := 0 } 0 0 D (TY ce) [.int (zI d), .int (zI j)] ([]) (QI D (TY ce) (fun r w1 => ∃ z : Int, r = zI z ∧ w1 = [] ∧ (z = sl d + j) ∧ (0 ≤ sl d ∧ sl d + d ≤ 27))) := by
  refine Ct.ofI (by decide) (Nat.le_of_ble_eq_true rfl) ?_
  intro p e s m args below meth c A Q hX hnm hR
  refine Z.pick (lv' := [(0, .int (zI d)), (1, .int (zI j))]) [0, 1] rfl ?_
  have hm := sl_m hd
  have hb := sl_b hd
  refine Z.iload_n hX dX6_slotOf_0 rfl rfl ?_
  refine Z.iload_n hX dX6_slotOf_1 rfl rfl ?_
  refine Z.iconst hX dX6_slotOf_2 ?_
  refine Z.iadd hX dX6_slotOf_3 ?_
  refine Z.imul hX dX6_slotOf_4 ?_
  refine Z.iconst hX dX6_slotOf_5 ?_
  refine Z.idiv hX dX6_slotOf_6 (by omega) (by omega) (by omega) (by omega) ?_
  refine Z.iload_n hX dX6_slotOf_7 rfl rfl ?_
  refine Z.iadd hX dX6_slotOf_8 ?_
  exact hR _ _ _ _ dX6_slotOf_9 ⟨(((d * (d + 1)) / 2) + j), rfl, rfl, rfl, hb⟩

theorem dX5_topOf_0 : decode cX5_topOf 0 = .ok (.iconst 4, 1) := by decide +kernel
theorem dX5_topOf_1 : decode cX5_topOf 1 = .ok (.istore_n 1, 1) := by decide +kernel
theorem dX5_topOf_2 : decode cX5_topOf 2 = .ok (.iload_n 1, 1) := by decide +kernel
theorem dX5_topOf_3 : decode cX5_topOf 3 = .ok (.ifCond .lt 19, 3) := by decide +kernel
theorem dX5_topOf_6 : decode cX5_topOf 6 = .ok (.aload_n 0, 1) := by decide +kernel
theorem dX5_topOf_7 : decode cX5_topOf 7 = .ok (.iload_n 1, 1) := by decide +kernel
theorem dX5_topOf_8 : decode cX5_topOf 8 = .ok (.laload, 1) := by decide +kernel
theorem dX5_topOf_9 : decode cX5_topOf 9 = .ok (.lconst 0, 1) := by decide +kernel
theorem dX5_topOf_10 : decode cX5_topOf 10 = .ok (.lcmp, 1) := by decide +kernel
theorem dX5_topOf_11 : decode cX5_topOf 11 = .ok (.ifCond .eq 5, 3) := by decide +kernel
theorem dX5_topOf_14 : decode cX5_topOf 14 = .ok (.iload_n 1, 1) := by decide +kernel
theorem dX5_topOf_15 : decode cX5_topOf 15 = .ok (.ireturn, 1) := by decide +kernel
theorem dX5_topOf_16 : decode cX5_topOf 16 = .ok (.iinc 1 (-1), 3) := by decide +kernel
theorem dX5_topOf_19 : decode cX5_topOf 19 = .ok (.goto (-17), 3) := by decide +kernel
theorem dX5_topOf_22 : decode cX5_topOf 22 = .ok (.iconst (-1), 1) := by decide +kernel
theorem dX5_topOf_23 : decode cX5_topOf 23 = .ok (.ireturn, 1) := by decide +kernel
set_option maxHeartbeats 4000000 in
set_option maxRecDepth 100000 in
theorem ct_X5_topOf (l : Launch) (D : va_G) (ce : Nat → ClassId) (ad : Nat) (f : Nat → Int64)  : Ct l yX5_topOf cX5_topOf 2 (some .int) { frames := 0, cells := 0, slots := 0, locals := 0 } 0 0 D (TY ce) [.ref ad] ([(ad, .inl (ce 1, 5, .inr (.inl f)))]) (QI D (TY ce) (fun r w1 => ∃ z : Int, r = zI z ∧ w1 = [(ad, .inl (ce 1, 5, .inr (.inl f)))] ∧ (-1 ≤ z ∧ z ≤ 4) ∧ (∀ k : Int, z < k → k ≤ 4 → f k.toNat = 0) ∧ (0 ≤ z → f z.toNat ≠ 0))) := by
  refine Ct.ofI (by decide) (Nat.le_of_ble_eq_true rfl) ?_
  intro p e s m args below meth c A Q hX hnm hR
  refine Z.pick (lv' := [(0, .ref ad)]) [0] rfl ?_
  refine Z.iconst hX dX5_topOf_0 ?_
  refine Z.istore_n (lv' := [(1, .int (zI 4)), (0, .ref ad)]) hX dX5_topOf_1 rfl (by decide) rfl ?_
  have key_2 : ∀ (N : Nat), ∀ (z : Int), (z + 1).toNat < N → (h1 : -1 ≤ z ∧ z ≤ 4) → (h2 : ∀ k : Int, z < k → k ≤ 4 → f k.toNat = 0) → Z p l e { frames := 0, cells := 0, slots := 0, locals := 0 } s m args below meth c D A 2 0 0 Q 2 [(1, .int (zI z)), (0, .ref ad)] [] ([(ad, .inl (ce 1, 5, .inr (.inl f)))]) := by
    intro N
    induction N with
    | zero => intro z hm; exact absurd hm (Nat.not_lt_zero _)
    | succ N ih_2 =>
      intro z hm h1 h2
      refine Z.iload_n hX dX5_topOf_2 rfl rfl ?_
      refine Z.if_lt hX 22 dX5_topOf_3 (by decide) ⟨by omega, by omega⟩ ?_ ?_
      · intro c1
        refine Z.iconst hX dX5_topOf_22 ?_
        exact hR _ _ _ _ dX5_topOf_23 ⟨(-1), rfl, rfl, (by omega), (fun k h3 h4 => h2 k (by omega) h4), (fun h => by omega)⟩
      · intro c1
        refine Z.aload_n hX dX5_topOf_6 rfl rfl ?_
        refine Z.iload_n hX dX5_topOf_7 rfl rfl ?_
        refine Z.laload hX 0 1 dX5_topOf_8 rfl rfl (by omega) (by omega) (by decide) ?_
        refine Z.lconst (v := 0) hX dX5_topOf_9 rfl ?_
        refine Z.lcmp_eq hX 16 dX5_topOf_10 dX5_topOf_11 (by decide) ?_ ?_
        · intro c2
          refine Z.iinc (lv' := [(1, .int (zI (z + -1))), (0, .ref ad)]) hX dX5_topOf_16 rfl (by decide) rfl ?_
          refine Z.goto hX 2 dX5_topOf_19 (by decide) ?_
          refine Z.pick [0, 1] rfl ?_
          exact ih_2 _ (by omega) (by omega) (dg_ih h2 (by assumption))
        · intro c2
          refine Z.iload_n hX dX5_topOf_14 rfl rfl ?_
          exact hR _ _ _ _ dX5_topOf_15 ⟨z, rfl, rfl, h1, h2, (fun _ => by assumption)⟩
  refine Z.pick [0, 1] rfl ?_
  exact key_2 _ _ (Nat.lt_succ_self _) (by omega) (fun k h3 h4 => by omega)

theorem dJ7_fill_d0a16_0 : decode cJ7_fill_d0a16 0 = .ok (.iconst 0, 1) := by decide +kernel
theorem dJ7_fill_d0a16_1 : decode cJ7_fill_d0a16 1 = .ok (.istore_n 3, 1) := by decide +kernel
theorem dJ7_fill_d0a16_2 : decode cJ7_fill_d0a16 2 = .ok (.aload_n 0, 1) := by decide +kernel
theorem dJ7_fill_d0a16_3 : decode cJ7_fill_d0a16 3 = .ok (.arraylength, 1) := by decide +kernel
theorem dJ7_fill_d0a16_4 : decode cJ7_fill_d0a16 4 = .ok (.istore 4, 2) := by decide +kernel
theorem dJ7_fill_d0a16_6 : decode cJ7_fill_d0a16 6 = .ok (.iload_n 3, 1) := by decide +kernel
theorem dJ7_fill_d0a16_7 : decode cJ7_fill_d0a16 7 = .ok (.iload 4, 2) := by decide +kernel
theorem dJ7_fill_d0a16_9 : decode cJ7_fill_d0a16 9 = .ok (.if_icmp .ge 13, 3) := by decide +kernel
theorem dJ7_fill_d0a16_12 : decode cJ7_fill_d0a16 12 = .ok (.aload_n 0, 1) := by decide +kernel
theorem dJ7_fill_d0a16_13 : decode cJ7_fill_d0a16 13 = .ok (.iload_n 3, 1) := by decide +kernel
theorem dJ7_fill_d0a16_14 : decode cJ7_fill_d0a16 14 = .ok (.lload_n 1, 1) := by decide +kernel
theorem dJ7_fill_d0a16_15 : decode cJ7_fill_d0a16 15 = .ok (.lastore, 1) := by decide +kernel
theorem dJ7_fill_d0a16_16 : decode cJ7_fill_d0a16 16 = .ok (.iinc 3 1, 3) := by decide +kernel
theorem dJ7_fill_d0a16_19 : decode cJ7_fill_d0a16 19 = .ok (.goto (-13), 3) := by decide +kernel
theorem dJ7_fill_d0a16_22 : decode cJ7_fill_d0a16 22 = .ok (.return_, 1) := by decide +kernel
set_option maxHeartbeats 4000000 in
set_option maxRecDepth 100000 in
theorem ct_J7_fill_d0a16 (l : Launch) (D : va_G) (ce : Nat → ClassId) (ad n : Nat) (f : Nat → Int64) (v : Int64) (hn : n < 1000) : Ct l yJ7_fill_d0a16 cJ7_fill_d0a16 5 none { frames := 0, cells := 0, slots := 0, locals := 0 } 0 0 D (TY ce) [.ref ad, .long v] ([(ad, .inl (ce 1, n, .inr (.inl f)))]) (QV D (TY ce) (fun w1 => ∃ f2 : Nat → Int64, w1 = [(ad, .inl (ce 1, n, .inr (.inl f2)))] ∧ (∀ q : Int, 0 ≤ q → q < n → f2 q.toNat = v))) := by
  refine Ct.ofV (by decide) (Nat.le_of_ble_eq_true rfl) ?_
  intro p e s m args below meth c A Q hX hnm hR
  refine Z.pick (lv' := [(0, .ref ad), (1, .long v)]) [0, 1] rfl ?_
  refine Z.iconst hX dJ7_fill_d0a16_0 ?_
  refine Z.istore_n (lv' := [(3, .int (zI 0)), (0, .ref ad), (1, .long v)]) hX dJ7_fill_d0a16_1 rfl (by decide) rfl ?_
  refine Z.aload_n hX dJ7_fill_d0a16_2 rfl rfl ?_
  refine Z.alen hX 0 1 dJ7_fill_d0a16_3 rfl rfl ?_
  refine Z.istore (lv' := [(4, .int (zI ((n : Int)))), (3, .int (zI 0)), (0, .ref ad), (1, .long v)]) hX dJ7_fill_d0a16_4 (by decide) rfl ?_
  have key_6 : ∀ (N : Nat), ∀ (k : Int) (g : Nat → Int64), (n - k).toNat < N → (hk : 0 ≤ k ∧ k ≤ n) → (hz : ∀ q : Int, 0 ≤ q → q < k → g q.toNat = v) → Z p l e { frames := 0, cells := 0, slots := 0, locals := 0 } s m args below meth c D A 5 0 0 Q 6 [(3, .int (zI k)), (4, .int (zI ((n : Int)))), (1, .long v), (0, .ref ad)] [] ([(ad, .inl (ce 1, n, .inr (.inl g)))]) := by
    intro N
    induction N with
    | zero => intro k g hm; exact absurd hm (Nat.not_lt_zero _)
    | succ N ih_6 =>
      intro k g hm hk hz
      refine Z.iload_n hX dJ7_fill_d0a16_6 rfl rfl ?_
      refine Z.iload hX dJ7_fill_d0a16_7 rfl ?_
      refine Z.icmp_ge hX 22 dJ7_fill_d0a16_9 (by decide) ⟨by omega, by omega⟩ ⟨by omega, by omega⟩ ?_ ?_
      · intro c1
        exact hR _ _ _ dJ7_fill_d0a16_22 ⟨g, rfl, (fun q h1 h2 => hz q h1 (by omega))⟩
      · intro c1
        refine Z.aload_n hX dJ7_fill_d0a16_12 rfl rfl ?_
        refine Z.iload_n hX dJ7_fill_d0a16_13 rfl rfl ?_
        refine Z.lload_n hX dJ7_fill_d0a16_14 rfl rfl ?_
        refine Z.lastore hX 0 1 dJ7_fill_d0a16_15 rfl rfl (by omega) (by omega) (by omega) ?_
        obtain ⟨f2, ef2⟩ : ∃ J' : Nat → Int64, J' = vp_updL (g) (k : Int).toNat (v) := ⟨_, rfl⟩
        refine Z.toW (w' := [(ad, .inl (ce 1, n, .inr (.inl f2)))]) (by rw [ef2]; rfl) ?_
        refine Z.iinc (lv' := [(3, .int (zI (k + 1))), (4, .int (zI ((n : Int)))), (1, .long v), (0, .ref ad)]) hX dJ7_fill_d0a16_16 rfl (by decide) rfl ?_
        refine Z.goto hX 6 dJ7_fill_d0a16_19 (by decide) ?_
        refine Z.pick [0, 1, 2, 3] rfl ?_
        exact ih_6 _ _ (by omega) (by omega) (fl_s hk.1 (by rw [ef2]) hz)
  refine Z.pick [1, 0, 3, 2] rfl ?_
  exact key_6 _ _ _ (Nat.lt_succ_self _) (by omega) (fun q h1 h2 => by omega)

