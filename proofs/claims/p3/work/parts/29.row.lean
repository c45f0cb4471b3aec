theorem dX3_sumOfSizes_0 : decode cX3_sumOfSizes 0 = .ok (.lconst 0, 1) := by decide +kernel
theorem dX3_sumOfSizes_1 : decode cX3_sumOfSizes 1 = .ok (.lstore_n 1, 1) := by decide +kernel
theorem dX3_sumOfSizes_2 : decode cX3_sumOfSizes 2 = .ok (.iconst 0, 1) := by decide +kernel
theorem dX3_sumOfSizes_3 : decode cX3_sumOfSizes 3 = .ok (.istore_n 3, 1) := by decide +kernel
theorem dX3_sumOfSizes_4 : decode cX3_sumOfSizes 4 = .ok (.iload_n 3, 1) := by decide +kernel
theorem dX3_sumOfSizes_5 : decode cX3_sumOfSizes 5 = .ok (.bipush 28, 2) := by decide +kernel
theorem dX3_sumOfSizes_7 : decode cX3_sumOfSizes 7 = .ok (.if_icmp .ge 21, 3) := by decide +kernel
theorem dX3_sumOfSizes_10 : decode cX3_sumOfSizes 10 = .ok (.lload_n 1, 1) := by decide +kernel
theorem dX3_sumOfSizes_11 : decode cX3_sumOfSizes 11 = .ok (.aload_n 0, 1) := by decide +kernel
theorem dX3_sumOfSizes_12 : decode cX3_sumOfSizes 12 = .ok (.getfield 9, 3) := by decide +kernel
theorem dX3_sumOfSizes_15 : decode cX3_sumOfSizes 15 = .ok (.iload_n 3, 1) := by decide +kernel
theorem dX3_sumOfSizes_16 : decode cX3_sumOfSizes 16 = .ok (.laload, 1) := by decide +kernel
theorem dX3_sumOfSizes_17 : decode cX3_sumOfSizes 17 = .ok (.invokestatic 49, 3) := by decide +kernel
theorem dX3_sumOfSizes_20 : decode cX3_sumOfSizes 20 = .ok (.ladd, 1) := by decide +kernel
theorem dX3_sumOfSizes_21 : decode cX3_sumOfSizes 21 = .ok (.lstore_n 1, 1) := by decide +kernel
theorem dX3_sumOfSizes_22 : decode cX3_sumOfSizes 22 = .ok (.iinc 3 1, 3) := by decide +kernel
theorem dX3_sumOfSizes_25 : decode cX3_sumOfSizes 25 = .ok (.goto (-21), 3) := by decide +kernel
theorem dX3_sumOfSizes_28 : decode cX3_sumOfSizes 28 = .ok (.lload_n 1, 1) := by decide +kernel
theorem dX3_sumOfSizes_29 : decode cX3_sumOfSizes 29 = .ok (.lreturn, 1) := by decide +kernel
set_option maxHeartbeats 4000000 in
set_option maxRecDepth 100000 in
theorem ct_X3_sumOfSizes (l : Launch) (D : va_G) (ce : Nat → ClassId) (h pl ar : Nat → Nat) (G : Nat → Int) (L : Nat → Nat → Int64) (B : Nat → Int) (J : Nat → Nat → Int64) (k : Nat) (hk : k < 42) (hB : BOK B) : Ct l yX3_sumOfSizes cX3_sumOfSizes 4 (some .long) { frames := 1, cells := 0, slots := 0, locals := 40 } 0 0 D (TY ce) [.ref (pl k)] (cW ce h pl ar G L B J) (QL D (TY ce) (fun r w1 => ∃ r0 : Int64, r = r0 ∧ w1 = cW ce h pl ar G L B J)) := by
  refine Ct.ofL (by decide) (Nat.le_of_ble_eq_true rfl) ?_
  intro p e s m args below meth c A Q hX hnm hR
  refine Z.pick (lv' := [(0, .ref (pl k))]) [0] rfl ?_
  refine Z.lconst (v := 0) hX dX3_sumOfSizes_0 rfl ?_
  refine Z.lstore_n (lv' := [(1, .long 0), (0, .ref (pl k))]) hX dX3_sumOfSizes_1 rfl (by decide) rfl ?_
  refine Z.iconst hX dX3_sumOfSizes_2 ?_
  refine Z.istore_n (lv' := [(3, .int (zI 0)), (1, .long 0), (0, .ref (pl k))]) hX dX3_sumOfSizes_3 rfl (by decide) rfl ?_
  have key_4 : ∀ (N : Nat), ∀ (i : Int) (x : Int64), (28 - i).toNat < N → (hi : 0 ≤ i ∧ i ≤ 28) → Z p l e { frames := 1, cells := 0, slots := 0, locals := 40 } s m args below meth c D A 4 0 0 Q 4 [(3, .int (zI i)), (1, .long x), (0, .ref (pl k))] [] (cW ce h pl ar G L B J) := by
    intro N
    induction N with
    | zero => intro i x hm; exact absurd hm (Nat.not_lt_zero _)
    | succ N ih_4 =>
      intro i x hm hi
      refine Z.iload_n hX dX3_sumOfSizes_4 rfl rfl ?_
      refine Z.bipush hX dX3_sumOfSizes_5 (by decide) ?_
      refine Z.icmp_ge hX 28 dX3_sumOfSizes_7 (by decide) ⟨by omega, by omega⟩ ⟨by omega, by omega⟩ ?_ ?_
      · intro c1
        refine Z.lload_n hX dX3_sumOfSizes_28 rfl rfl ?_
        exact hR _ _ _ _ dX3_sumOfSizes_29 ⟨x, rfl, rfl⟩
      · intro c1
        refine Z.lload_n hX dX3_sumOfSizes_10 rfl rfl ?_
        refine Z.aload_n hX dX3_sumOfSizes_11 rfl rfl ?_
        refine Z.getf hX 3 (24 + k) 0 dX3_sumOfSizes_12 (cW_pl (by omega)) rfl inX3 (by decide) fl_X3_9 rfl rfl ?_
        refine Z.iload_n hX dX3_sumOfSizes_15 rfl rfl ?_
        refine Z.laload hX (66 + k) 1 dX3_sumOfSizes_16 (cW_ar (by omega)) rfl (by omega) (by omega) (by decide) ?_
        refine Z.mabs hX dX3_sumOfSizes_17 mm_X3_49 (by decide) (Nat.le_of_ble_eq_true rfl) (Nat.le_refl _) (Nat.le_refl _) ?_
        refine Z.topl (fun y2 ey2 => ?_)
        refine Z.ladd hX dX3_sumOfSizes_20 ?_
        refine Z.lstore_n (lv' := [(1, .long (x + y2)), (3, .int (zI i)), (0, .ref (pl k))]) hX dX3_sumOfSizes_21 rfl (by decide) rfl ?_
        refine Z.iinc (lv' := [(3, .int (zI (i + 1))), (1, .long (x + y2)), (0, .ref (pl k))]) hX dX3_sumOfSizes_22 rfl (by decide) rfl ?_
        refine Z.goto hX 4 dX3_sumOfSizes_25 (by decide) ?_
        refine Z.pick [0, 1, 2] rfl ?_
        exact ih_4 _ _ (by omega) (by omega)
  refine Z.pick [0, 1, 2] rfl ?_
  exact key_4 _ _ _ (Nat.lt_succ_self _) (by omega)

theorem dX5_highestPower_0 : decode cX5_highestPower 0 = .ok (.iconst 4, 1) := by decide +kernel
theorem dX5_highestPower_1 : decode cX5_highestPower 1 = .ok (.istore_n 1, 1) := by decide +kernel
theorem dX5_highestPower_2 : decode cX5_highestPower 2 = .ok (.iload_n 1, 1) := by decide +kernel
theorem dX5_highestPower_3 : decode cX5_highestPower 3 = .ok (.ifCond .le 50, 3) := by decide +kernel
theorem dX5_highestPower_6 : decode cX5_highestPower 6 = .ok (.aload_n 0, 1) := by decide +kernel
theorem dX5_highestPower_7 : decode cX5_highestPower 7 = .ok (.getfield 11, 3) := by decide +kernel
theorem dX5_highestPower_10 : decode cX5_highestPower 10 = .ok (.iconst 0, 1) := by decide +kernel
theorem dX5_highestPower_11 : decode cX5_highestPower 11 = .ok (.aaload, 1) := by decide +kernel
theorem dX5_highestPower_12 : decode cX5_highestPower 12 = .ok (.iload_n 1, 1) := by decide +kernel
theorem dX5_highestPower_13 : decode cX5_highestPower 13 = .ok (.laload, 1) := by decide +kernel
theorem dX5_highestPower_14 : decode cX5_highestPower 14 = .ok (.lconst 0, 1) := by decide +kernel
theorem dX5_highestPower_15 : decode cX5_highestPower 15 = .ok (.lcmp, 1) := by decide +kernel
theorem dX5_highestPower_16 : decode cX5_highestPower 16 = .ok (.ifCond .ne 29, 3) := by decide +kernel
theorem dX5_highestPower_19 : decode cX5_highestPower 19 = .ok (.aload_n 0, 1) := by decide +kernel
theorem dX5_highestPower_20 : decode cX5_highestPower 20 = .ok (.getfield 11, 3) := by decide +kernel
theorem dX5_highestPower_23 : decode cX5_highestPower 23 = .ok (.iconst 1, 1) := by decide +kernel
theorem dX5_highestPower_24 : decode cX5_highestPower 24 = .ok (.aaload, 1) := by decide +kernel
theorem dX5_highestPower_25 : decode cX5_highestPower 25 = .ok (.iload_n 1, 1) := by decide +kernel
theorem dX5_highestPower_26 : decode cX5_highestPower 26 = .ok (.laload, 1) := by decide +kernel
theorem dX5_highestPower_27 : decode cX5_highestPower 27 = .ok (.lconst 0, 1) := by decide +kernel
theorem dX5_highestPower_28 : decode cX5_highestPower 28 = .ok (.lcmp, 1) := by decide +kernel
theorem dX5_highestPower_29 : decode cX5_highestPower 29 = .ok (.ifCond .ne 16, 3) := by decide +kernel
theorem dX5_highestPower_32 : decode cX5_highestPower 32 = .ok (.aload_n 0, 1) := by decide +kernel
theorem dX5_highestPower_33 : decode cX5_highestPower 33 = .ok (.getfield 11, 3) := by decide +kernel
theorem dX5_highestPower_36 : decode cX5_highestPower 36 = .ok (.iconst 2, 1) := by decide +kernel
theorem dX5_highestPower_37 : decode cX5_highestPower 37 = .ok (.aaload, 1) := by decide +kernel
theorem dX5_highestPower_38 : decode cX5_highestPower 38 = .ok (.iload_n 1, 1) := by decide +kernel
theorem dX5_highestPower_39 : decode cX5_highestPower 39 = .ok (.laload, 1) := by decide +kernel
theorem dX5_highestPower_40 : decode cX5_highestPower 40 = .ok (.lconst 0, 1) := by decide +kernel
theorem dX5_highestPower_41 : decode cX5_highestPower 41 = .ok (.lcmp, 1) := by decide +kernel
theorem dX5_highestPower_42 : decode cX5_highestPower 42 = .ok (.ifCond .eq 5, 3) := by decide +kernel
theorem dX5_highestPower_45 : decode cX5_highestPower 45 = .ok (.iload_n 1, 1) := by decide +kernel
theorem dX5_highestPower_46 : decode cX5_highestPower 46 = .ok (.ireturn, 1) := by decide +kernel
theorem dX5_highestPower_47 : decode cX5_highestPower 47 = .ok (.iinc 1 (-1), 3) := by decide +kernel
theorem dX5_highestPower_50 : decode cX5_highestPower 50 = .ok (.goto (-48), 3) := by decide +kernel
theorem dX5_highestPower_53 : decode cX5_highestPower 53 = .ok (.iconst 0, 1) := by decide +kernel
theorem dX5_highestPower_54 : decode cX5_highestPower 54 = .ok (.ireturn, 1) := by decide +kernel
set_option maxHeartbeats 4000000 in
set_option maxRecDepth 100000 in
theorem ct_X5_highestPower_r (l : Launch) (D : va_G) (ce : Nat → ClassId) (h pl ar : Nat → Nat) (G : Nat → Int) (L : Nat → Nat → Int64) (B : Nat → Int) (J : Nat → Nat → Int64)  : Ct l yX5_highestPower cX5_highestPower 2 (some .int) { frames := 0, cells := 0, slots := 0, locals := 0 } 0 0 D (TY ce) [.ref (h 1)] (cW ce h pl ar G L B J) (QI D (TY ce) (fun r w1 => ∃ z : Int, r = zI z ∧ w1 = cW ce h pl ar G L B J ∧ (0 ≤ z ∧ z ≤ 4) ∧ (∀ k : Int, z < k → k ≤ 4 → L 0 k.toNat = 0 ∧ L 1 k.toNat = 0 ∧ L 2 k.toNat = 0) ∧ (0 < z → ¬ (L 0 z.toNat = 0 ∧ L 1 z.toNat = 0 ∧ L 2 z.toNat = 0)))) := by
  refine Ct.ofI (by decide) (Nat.le_of_ble_eq_true rfl) ?_
  intro p e s m args below meth c A Q hX hnm hR
  refine Z.pick (lv' := [(0, .ref (h 1))]) [0] rfl ?_
  refine Z.iconst hX dX5_highestPower_0 ?_
  refine Z.istore_n (lv' := [(1, .int (zI 4)), (0, .ref (h 1))]) hX dX5_highestPower_1 rfl (by decide) rfl ?_
  have key_2 : ∀ (N : Nat), ∀ (z : Int), z.toNat < N → (hz : 0 ≤ z ∧ z ≤ 4) → (hn : ∀ k : Int, z < k → k ≤ 4 → L 0 k.toNat = 0 ∧ L 1 k.toNat = 0 ∧ L 2 k.toNat = 0) → Z p l e { frames := 0, cells := 0, slots := 0, locals := 0 } s m args below meth c D A 2 0 0 Q 2 [(1, .int (zI z)), (0, .ref (h 1))] [] (cW ce h pl ar G L B J) := by
    intro N
    induction N with
    | zero => intro z hm; exact absurd hm (Nat.not_lt_zero _)
    | succ N ih_2 =>
      intro z hm hz hn
      refine Z.iload_n hX dX5_highestPower_2 rfl rfl ?_
      refine Z.if_le hX 53 dX5_highestPower_3 (by decide) ⟨by omega, by omega⟩ ?_ ?_
      · intro c1
        refine Z.iconst hX dX5_highestPower_53 ?_
        exact hR _ _ _ _ dX5_highestPower_54 ⟨0, rfl, rfl, (by omega), (fun k h1 h2 => hn k (by omega) h2), (fun h => by omega)⟩
      · intro c1
        refine Z.aload_n hX dX5_highestPower_6 rfl rfl ?_
        refine Z.getf hX 5 1 0 dX5_highestPower_7 rfl rfl inX5 (by decide) fl_X5_11 rfl rfl ?_
        refine Z.iconst hX dX5_highestPower_10 ?_
        refine Z.aaload hX 9 3 dX5_highestPower_11 rfl rfl rfl (by omega) (by omega) (by decide) rfl ?_
        refine Z.iload_n hX dX5_highestPower_12 rfl rfl ?_
        refine Z.laload hX (18 + 0) 1 dX5_highestPower_13 (cW_in (by decide)) rfl (by omega) (by omega) (by decide) ?_
        refine Z.lconst (v := 0) hX dX5_highestPower_14 rfl ?_
        refine Z.lcmp_ne hX 45 dX5_highestPower_15 dX5_highestPower_16 (by decide) ?_ ?_
        · intro c2
          refine Z.iload_n hX dX5_highestPower_45 rfl rfl ?_
          exact hR _ _ _ _ dX5_highestPower_46 ⟨z, rfl, rfl, (by omega), hn, (fun _ q => by first | exact absurd q.1 (by assumption) | exact absurd q.2.1 (by assumption) | exact absurd q.2.2 (by assumption))⟩
        · intro c2
          refine Z.aload_n hX dX5_highestPower_19 rfl rfl ?_
          refine Z.getf hX 5 1 0 dX5_highestPower_20 rfl rfl inX5 (by decide) fl_X5_11 rfl rfl ?_
          refine Z.iconst hX dX5_highestPower_23 ?_
          refine Z.aaload hX 9 3 dX5_highestPower_24 rfl rfl rfl (by omega) (by omega) (by decide) rfl ?_
          refine Z.iload_n hX dX5_highestPower_25 rfl rfl ?_
          refine Z.laload hX (18 + 1) 1 dX5_highestPower_26 (cW_in (by decide)) rfl (by omega) (by omega) (by decide) ?_
          refine Z.lconst (v := 0) hX dX5_highestPower_27 rfl ?_
          refine Z.lcmp_ne hX 45 dX5_highestPower_28 dX5_highestPower_29 (by decide) ?_ ?_
          · intro c3
            refine Z.iload_n hX dX5_highestPower_45 rfl rfl ?_
            exact hR _ _ _ _ dX5_highestPower_46 ⟨z, rfl, rfl, (by omega), hn, (fun _ q => by first | exact absurd q.1 (by assumption) | exact absurd q.2.1 (by assumption) | exact absurd q.2.2 (by assumption))⟩
          · intro c3
            refine Z.aload_n hX dX5_highestPower_32 rfl rfl ?_
            refine Z.getf hX 5 1 0 dX5_highestPower_33 rfl rfl inX5 (by decide) fl_X5_11 rfl rfl ?_
            refine Z.iconst hX dX5_highestPower_36 ?_
            refine Z.aaload hX 9 3 dX5_highestPower_37 rfl rfl rfl (by omega) (by omega) (by decide) rfl ?_
            refine Z.iload_n hX dX5_highestPower_38 rfl rfl ?_
            refine Z.laload hX (18 + 2) 1 dX5_highestPower_39 (cW_in (by decide)) rfl (by omega) (by omega) (by decide) ?_
            refine Z.lconst (v := 0) hX dX5_highestPower_40 rfl ?_
            refine Z.lcmp_eq hX 47 dX5_highestPower_41 dX5_highestPower_42 (by decide) ?_ ?_
            · intro c4
              refine Z.iinc (lv' := [(1, .int (zI (z + -1))), (0, .ref (h 1))]) hX dX5_highestPower_47 rfl (by decide) rfl ?_
              refine Z.goto hX 2 dX5_highestPower_50 (by decide) ?_
              refine Z.pick [0, 1] rfl ?_
              exact ih_2 _ (by omega) (by omega) (hp_s hn ⟨by assumption, by assumption, by assumption⟩)
            · intro c4
              refine Z.iload_n hX dX5_highestPower_45 rfl rfl ?_
              exact hR _ _ _ _ dX5_highestPower_46 ⟨z, rfl, rfl, (by omega), hn, (fun _ q => by first | exact absurd q.1 (by assumption) | exact absurd q.2.1 (by assumption) | exact absurd q.2.2 (by assumption))⟩
  refine Z.pick [0, 1] rfl ?_
  exact key_2 _ _ (Nat.lt_succ_self _) (by omega) (fun k h1 h2 => by omega)

set_option maxHeartbeats 4000000 in
set_option maxRecDepth 100000 in
theorem ct_X5_highestPower_f (l : Launch) (D : va_G) (ce : Nat → ClassId) (h pl ar : Nat → Nat) (G : Nat → Int) (L : Nat → Nat → Int64) (B : Nat → Int) (J : Nat → Nat → Int64)  : Ct l yX5_highestPower cX5_highestPower 2 (some .int) { frames := 0, cells := 0, slots := 0, locals := 0 } 0 0 D (TY ce) [.ref (h 2)] (cW ce h pl ar G L B J) (QI D (TY ce) (fun r w1 => ∃ z : Int, r = zI z ∧ w1 = cW ce h pl ar G L B J ∧ (0 ≤ z ∧ z ≤ 4) ∧ (∀ k : Int, z < k → k ≤ 4 → L (3 + 0) k.toNat = 0 ∧ L (3 + 1) k.toNat = 0 ∧ L (3 + 2) k.toNat = 0) ∧ (0 < z → ¬ (L (3 + 0) z.toNat = 0 ∧ L (3 + 1) z.toNat = 0 ∧ L (3 + 2) z.toNat = 0)))) := by
  refine Ct.ofI (by decide) (Nat.le_of_ble_eq_true rfl) ?_
  intro p e s m args below meth c A Q hX hnm hR
  refine Z.pick (lv' := [(0, .ref (h 2))]) [0] rfl ?_
  refine Z.iconst hX dX5_highestPower_0 ?_
  refine Z.istore_n (lv' := [(1, .int (zI 4)), (0, .ref (h 2))]) hX dX5_highestPower_1 rfl (by decide) rfl ?_
  have key_2 : ∀ (N : Nat), ∀ (z : Int), z.toNat < N → (hz : 0 ≤ z ∧ z ≤ 4) → (hn : ∀ k : Int, z < k → k ≤ 4 → L (3 + 0) k.toNat = 0 ∧ L (3 + 1) k.toNat = 0 ∧ L (3 + 2) k.toNat = 0) → Z p l e { frames := 0, cells := 0, slots := 0, locals := 0 } s m args below meth c D A 2 0 0 Q 2 [(1, .int (zI z)), (0, .ref (h 2))] [] (cW ce h pl ar G L B J) := by
    intro N
    induction N with
    | zero => intro z hm; exact absurd hm (Nat.not_lt_zero _)
    | succ N ih_2 =>
      intro z hm hz hn
      refine Z.iload_n hX dX5_highestPower_2 rfl rfl ?_
      refine Z.if_le hX 53 dX5_highestPower_3 (by decide) ⟨by omega, by omega⟩ ?_ ?_
      · intro c1
        refine Z.iconst hX dX5_highestPower_53 ?_
        exact hR _ _ _ _ dX5_highestPower_54 ⟨0, rfl, rfl, (by omega), (fun k h1 h2 => hn k (by omega) h2), (fun h => by omega)⟩
      · intro c1
        refine Z.aload_n hX dX5_highestPower_6 rfl rfl ?_
        refine Z.getf hX 5 2 0 dX5_highestPower_7 rfl rfl inX5 (by decide) fl_X5_11 rfl rfl ?_
        refine Z.iconst hX dX5_highestPower_10 ?_
        refine Z.aaload hX 10 3 dX5_highestPower_11 rfl rfl rfl (by omega) (by omega) (by decide) rfl ?_
        refine Z.iload_n hX dX5_highestPower_12 rfl rfl ?_
        refine Z.laload hX (18 + (3 + 0)) 1 dX5_highestPower_13 (cW_in (by omega)) rfl (by omega) (by omega) (by decide) ?_
        refine Z.lconst (v := 0) hX dX5_highestPower_14 rfl ?_
        refine Z.lcmp_ne hX 45 dX5_highestPower_15 dX5_highestPower_16 (by decide) ?_ ?_
        · intro c2
          refine Z.iload_n hX dX5_highestPower_45 rfl rfl ?_
          exact hR _ _ _ _ dX5_highestPower_46 ⟨z, rfl, rfl, (by omega), hn, (fun _ q => by first | exact absurd q.1 (by assumption) | exact absurd q.2.1 (by assumption) | exact absurd q.2.2 (by assumption))⟩
        · intro c2
          refine Z.aload_n hX dX5_highestPower_19 rfl rfl ?_
          refine Z.getf hX 5 2 0 dX5_highestPower_20 rfl rfl inX5 (by decide) fl_X5_11 rfl rfl ?_
          refine Z.iconst hX dX5_highestPower_23 ?_
          refine Z.aaload hX 10 3 dX5_highestPower_24 rfl rfl rfl (by omega) (by omega) (by decide) rfl ?_
          refine Z.iload_n hX dX5_highestPower_25 rfl rfl ?_
          refine Z.laload hX (18 + (3 + 1)) 1 dX5_highestPower_26 (cW_in (by omega)) rfl (by omega) (by omega) (by decide) ?_
          refine Z.lconst (v := 0) hX dX5_highestPower_27 rfl ?_
          refine Z.lcmp_ne hX 45 dX5_highestPower_28 dX5_highestPower_29 (by decide) ?_ ?_
          · intro c3
            refine Z.iload_n hX dX5_highestPower_45 rfl rfl ?_
            exact hR _ _ _ _ dX5_highestPower_46 ⟨z, rfl, rfl, (by omega), hn, (fun _ q => by first | exact absurd q.1 (by assumption) | exact absurd q.2.1 (by assumption) | exact absurd q.2.2 (by assumption))⟩
          · intro c3
            refine Z.aload_n hX dX5_highestPower_32 rfl rfl ?_
            refine Z.getf hX 5 2 0 dX5_highestPower_33 rfl rfl inX5 (by decide) fl_X5_11 rfl rfl ?_
            refine Z.iconst hX dX5_highestPower_36 ?_
            refine Z.aaload hX 10 3 dX5_highestPower_37 rfl rfl rfl (by omega) (by omega) (by decide) rfl ?_
            refine Z.iload_n hX dX5_highestPower_38 rfl rfl ?_
            refine Z.laload hX (18 + (3 + 2)) 1 dX5_highestPower_39 (cW_in (by omega)) rfl (by omega) (by omega) (by decide) ?_
            refine Z.lconst (v := 0) hX dX5_highestPower_40 rfl ?_
            refine Z.lcmp_eq hX 47 dX5_highestPower_41 dX5_highestPower_42 (by decide) ?_ ?_
            · intro c4
              refine Z.iinc (lv' := [(1, .int (zI (z + -1))), (0, .ref (h 2))]) hX dX5_highestPower_47 rfl (by decide) rfl ?_
              refine Z.goto hX 2 dX5_highestPower_50 (by decide) ?_
              refine Z.pick [0, 1] rfl ?_
              exact ih_2 _ (by omega) (by omega) (hp_s hn ⟨by assumption, by assumption, by assumption⟩)
            · intro c4
              refine Z.iload_n hX dX5_highestPower_45 rfl rfl ?_
              exact hR _ _ _ _ dX5_highestPower_46 ⟨z, rfl, rfl, (by omega), hn, (fun _ q => by first | exact absurd q.1 (by assumption) | exact absurd q.2.1 (by assumption) | exact absurd q.2.2 (by assumption))⟩
  refine Z.pick [0, 1] rfl ?_
  exact key_2 _ _ (Nat.lt_succ_self _) (by omega) (fun k h1 h2 => by omega)

theorem dX5_isZero_0 : decode cX5_isZero 0 = .ok (.aload_n 0, 1) := by decide +kernel
theorem dX5_isZero_1 : decode cX5_isZero 1 = .ok (.getfield 11, 3) := by decide +kernel
theorem dX5_isZero_4 : decode cX5_isZero 4 = .ok (.iload_n 1, 1) := by decide +kernel
theorem dX5_isZero_5 : decode cX5_isZero 5 = .ok (.aaload, 1) := by decide +kernel
theorem dX5_isZero_6 : decode cX5_isZero 6 = .ok (.invokestatic 16, 3) := by decide +kernel
theorem dX5_isZero_9 : decode cX5_isZero 9 = .ok (.ifCond .ge 7, 3) := by decide +kernel
theorem dX5_isZero_12 : decode cX5_isZero 12 = .ok (.iconst 1, 1) := by decide +kernel
theorem dX5_isZero_13 : decode cX5_isZero 13 = .ok (.goto 4, 3) := by decide +kernel
theorem dX5_isZero_16 : decode cX5_isZero 16 = .ok (.iconst 0, 1) := by decide +kernel
theorem dX5_isZero_17 : decode cX5_isZero 17 = .ok (.ireturn, 1) := by decide +kernel
set_option maxHeartbeats 4000000 in
set_option maxRecDepth 100000 in
theorem ct_X5_isZero_r (l : Launch) (D : va_G) (ce : Nat → ClassId) (h pl ar : Nat → Nat) (G : Nat → Int) (L : Nat → Nat → Int64) (B : Nat → Int) (J : Nat → Nat → Int64) (i : Int) (hi : 0 ≤ i ∧ i ≤ 2) : Ct l yX5_isZero cX5_isZero 2 (some .boolean) { frames := 1, cells := 0, slots := 0, locals := 21 } 0 0 D (TY ce) [.ref (h 1), .int (zI i)] (cW ce h pl ar G L B J) (QI D (TY ce) (fun r w1 => ∃ z : Int, r = zI z ∧ w1 = cW ce h pl ar G L B J ∧ (z = 0 ∨ z = 1))) := by
  refine Ct.ofB (by decide) (Nat.le_of_ble_eq_true rfl) ?_
  intro p e s m args below meth c A Q hX hnm hR
  refine Z.pick (lv' := [(0, .ref (h 1)), (1, .int (zI i))]) [0, 1] rfl ?_
  refine Z.aload_n hX dX5_isZero_0 rfl rfl ?_
  refine Z.getf hX 5 1 0 dX5_isZero_1 rfl rfl inX5 (by decide) fl_X5_11 rfl rfl ?_
  refine Z.iload_n hX dX5_isZero_4 rfl rfl ?_
  refine Z.aaload hX 9 3 dX5_isZero_5 rfl rfl rfl (by omega) (by omega) (by decide) rfl ?_
  refine Z.callS1i (As := [.ref (h (18 + (i : Int).toNat))]) (rest := []) hX (18 + (i : Int).toNat) (cW_in (by omega)) (ct_X5_topOf l D ce ((h (18 + (i : Int).toNat))) (L ((i : Int).toNat)) ) mc_X5_topOf ml_X5_16 st_X5_topOf ini_X5 nd_X5_topOf ⟨Nat.le_of_ble_eq_true rfl, Nat.le_of_ble_eq_true rfl⟩ ⟨rfl, rfl⟩ ⟨Nat.le_refl _, Nat.le_refl _⟩ rfl (Nat.le_of_ble_eq_true rfl) dX5_isZero_6 ?_
  rintro r_1 w1 ⟨z2, hr_, hw_, hq3, hq4, hq5⟩
  subst hr_
  refine ⟨_, hw_, ?_⟩
  refine Z.toW (w' := cW ce h pl ar G L B J) (set_self (cW_in (by omega))) ?_
  refine Z.if_ge hX 16 dX5_isZero_9 (by decide) ⟨by omega, by omega⟩ ?_ ?_
  · intro c6
    refine Z.iconst hX dX5_isZero_16 ?_
    exact hR _ _ _ _ dX5_isZero_17 rfl ⟨0, rfl, rfl, (by omega)⟩
  · intro c6
    refine Z.iconst hX dX5_isZero_12 ?_
    refine Z.goto hX 17 dX5_isZero_13 (by decide) ?_
    exact hR _ _ _ _ dX5_isZero_17 rfl ⟨1, rfl, rfl, (by omega)⟩

set_option maxHeartbeats 4000000 in
set_option maxRecDepth 100000 in
theorem ct_X5_isZero_f (l : Launch) (D : va_G) (ce : Nat → ClassId) (h pl ar : Nat → Nat) (G : Nat → Int) (L : Nat → Nat → Int64) (B : Nat → Int) (J : Nat → Nat → Int64) (i : Int) (hi : 0 ≤ i ∧ i ≤ 2) : Ct l yX5_isZero cX5_isZero 2 (some .boolean) { frames := 1, cells := 0, slots := 0, locals := 21 } 0 0 D (TY ce) [.ref (h 2), .int (zI i)] (cW ce h pl ar G L B J) (QI D (TY ce) (fun r w1 => ∃ z : Int, r = zI z ∧ w1 = cW ce h pl ar G L B J ∧ (z = 0 ∨ z = 1))) := by
  refine Ct.ofB (by decide) (Nat.le_of_ble_eq_true rfl) ?_
  intro p e s m args below meth c A Q hX hnm hR
  refine Z.pick (lv' := [(0, .ref (h 2)), (1, .int (zI i))]) [0, 1] rfl ?_
  refine Z.aload_n hX dX5_isZero_0 rfl rfl ?_
  refine Z.getf hX 5 2 0 dX5_isZero_1 rfl rfl inX5 (by decide) fl_X5_11 rfl rfl ?_
  refine Z.iload_n hX dX5_isZero_4 rfl rfl ?_
  refine Z.aaload hX 10 3 dX5_isZero_5 rfl rfl rfl (by omega) (by omega) (by decide) rfl ?_
  refine Z.callS1i (As := [.ref (h (18 + (3 + (i : Int).toNat)))]) (rest := []) hX (18 + (3 + (i : Int).toNat)) (cW_in (by omega)) (ct_X5_topOf l D ce ((h (18 + (3 + (i : Int).toNat)))) (L ((3 + (i : Int).toNat))) ) mc_X5_topOf ml_X5_16 st_X5_topOf ini_X5 nd_X5_topOf ⟨Nat.le_of_ble_eq_true rfl, Nat.le_of_ble_eq_true rfl⟩ ⟨rfl, rfl⟩ ⟨Nat.le_refl _, Nat.le_refl _⟩ rfl (Nat.le_of_ble_eq_true rfl) dX5_isZero_6 ?_
  rintro r_1 w1 ⟨z2, hr_, hw_, hq3, hq4, hq5⟩
  subst hr_
  refine ⟨_, hw_, ?_⟩
  refine Z.toW (w' := cW ce h pl ar G L B J) (set_self (cW_in (by omega))) ?_
  refine Z.if_ge hX 16 dX5_isZero_9 (by decide) ⟨by omega, by omega⟩ ?_ ?_
  · intro c6
    refine Z.iconst hX dX5_isZero_16 ?_
    exact hR _ _ _ _ dX5_isZero_17 rfl ⟨0, rfl, rfl, (by omega)⟩
  · intro c6
    refine Z.iconst hX dX5_isZero_12 ?_
    refine Z.goto hX 17 dX5_isZero_13 (by decide) ?_
    exact hR _ _ _ _ dX5_isZero_17 rfl ⟨1, rfl, rfl, (by omega)⟩

theorem dX5_countAndErase_0 : decode cX5_countAndErase 0 = .ok (.iconst 0, 1) := by decide +kernel
theorem dX5_countAndErase_1 : decode cX5_countAndErase 1 = .ok (.istore_n 1, 1) := by decide +kernel
theorem dX5_countAndErase_2 : decode cX5_countAndErase 2 = .ok (.iconst 0, 1) := by decide +kernel
theorem dX5_countAndErase_3 : decode cX5_countAndErase 3 = .ok (.istore_n 2, 1) := by decide +kernel
theorem dX5_countAndErase_4 : decode cX5_countAndErase 4 = .ok (.iload_n 2, 1) := by decide +kernel
theorem dX5_countAndErase_5 : decode cX5_countAndErase 5 = .ok (.iconst 3, 1) := by decide +kernel
theorem dX5_countAndErase_6 : decode cX5_countAndErase 6 = .ok (.if_icmp .ge 47, 3) := by decide +kernel
theorem dX5_countAndErase_9 : decode cX5_countAndErase 9 = .ok (.iconst 0, 1) := by decide +kernel
theorem dX5_countAndErase_10 : decode cX5_countAndErase 10 = .ok (.istore_n 3, 1) := by decide +kernel
theorem dX5_countAndErase_11 : decode cX5_countAndErase 11 = .ok (.iload_n 3, 1) := by decide +kernel
theorem dX5_countAndErase_12 : decode cX5_countAndErase 12 = .ok (.iconst 5, 1) := by decide +kernel
theorem dX5_countAndErase_13 : decode cX5_countAndErase 13 = .ok (.if_icmp .ge 34, 3) := by decide +kernel
theorem dX5_countAndErase_16 : decode cX5_countAndErase 16 = .ok (.aload_n 0, 1) := by decide +kernel
theorem dX5_countAndErase_17 : decode cX5_countAndErase 17 = .ok (.getfield 11, 3) := by decide +kernel
theorem dX5_countAndErase_20 : decode cX5_countAndErase 20 = .ok (.iload_n 2, 1) := by decide +kernel
theorem dX5_countAndErase_21 : decode cX5_countAndErase 21 = .ok (.aaload, 1) := by decide +kernel
theorem dX5_countAndErase_22 : decode cX5_countAndErase 22 = .ok (.iload_n 3, 1) := by decide +kernel
theorem dX5_countAndErase_23 : decode cX5_countAndErase 23 = .ok (.laload, 1) := by decide +kernel
theorem dX5_countAndErase_24 : decode cX5_countAndErase 24 = .ok (.lconst 0, 1) := by decide +kernel
theorem dX5_countAndErase_25 : decode cX5_countAndErase 25 = .ok (.lcmp, 1) := by decide +kernel
theorem dX5_countAndErase_26 : decode cX5_countAndErase 26 = .ok (.ifCond .eq 15, 3) := by decide +kernel
theorem dX5_countAndErase_29 : decode cX5_countAndErase 29 = .ok (.iinc 1 1, 3) := by decide +kernel
theorem dX5_countAndErase_32 : decode cX5_countAndErase 32 = .ok (.aload_n 0, 1) := by decide +kernel
theorem dX5_countAndErase_33 : decode cX5_countAndErase 33 = .ok (.getfield 11, 3) := by decide +kernel
theorem dX5_countAndErase_36 : decode cX5_countAndErase 36 = .ok (.iload_n 2, 1) := by decide +kernel
theorem dX5_countAndErase_37 : decode cX5_countAndErase 37 = .ok (.aaload, 1) := by decide +kernel
theorem dX5_countAndErase_38 : decode cX5_countAndErase 38 = .ok (.iload_n 3, 1) := by decide +kernel
theorem dX5_countAndErase_39 : decode cX5_countAndErase 39 = .ok (.lconst 0, 1) := by decide +kernel
theorem dX5_countAndErase_40 : decode cX5_countAndErase 40 = .ok (.lastore, 1) := by decide +kernel
theorem dX5_countAndErase_41 : decode cX5_countAndErase 41 = .ok (.iinc 3 1, 3) := by decide +kernel
theorem dX5_countAndErase_44 : decode cX5_countAndErase 44 = .ok (.goto (-33), 3) := by decide +kernel
theorem dX5_countAndErase_47 : decode cX5_countAndErase 47 = .ok (.iinc 2 1, 3) := by decide +kernel
theorem dX5_countAndErase_50 : decode cX5_countAndErase 50 = .ok (.goto (-46), 3) := by decide +kernel
theorem dX5_countAndErase_53 : decode cX5_countAndErase 53 = .ok (.iload_n 1, 1) := by decide +kernel
theorem dX5_countAndErase_54 : decode cX5_countAndErase 54 = .ok (.ireturn, 1) := by decide +kernel
set_option maxHeartbeats 4000000 in
set_option maxRecDepth 100000 in
theorem ct_X5_countAndErase (l : Launch) (D : va_G) (ce : Nat → ClassId) (h pl ar : Nat → Nat) (G : Nat → Int) (L : Nat → Nat → Int64) (B : Nat → Int) (J : Nat → Nat → Int64)  : Ct l yX5_countAndErase cX5_countAndErase 4 (some .int) { frames := 0, cells := 0, slots := 0, locals := 0 } 0 0 D (TY ce) [.ref (h 1)] (cW ce h pl ar G L B J) (QI D (TY ce) (fun r w1 => ∃ z : Int, ∃ L2 : Nat → Nat → Int64, r = zI z ∧ w1 = cW ce h pl ar G L2 B J ∧ (z = cntB (fun q => L (q / 5) (q % 5)) 15) ∧ (∀ q : Int, 0 ≤ q → q < 15 → L2 (q.toNat / 5) (q.toNat % 5) = 0) ∧ (∀ k, k ≠ 0 → k ≠ 1 → k ≠ 2 → L2 k = L k))) := by
  refine Ct.ofI (by decide) (Nat.le_of_ble_eq_true rfl) ?_
  intro p e s m args below meth c A Q hX hnm hR
  refine Z.pick (lv' := [(0, .ref (h 1))]) [0] rfl ?_
  refine Z.iconst hX dX5_countAndErase_0 ?_
  refine Z.istore_n (lv' := [(1, .int (zI 0)), (0, .ref (h 1))]) hX dX5_countAndErase_1 rfl (by decide) rfl ?_
  refine Z.iconst hX dX5_countAndErase_2 ?_
  refine Z.istore_n (lv' := [(2, .int (zI 0)), (1, .int (zI 0)), (0, .ref (h 1))]) hX dX5_countAndErase_3 rfl (by decide) rfl ?_
  have key_4 : ∀ (N : Nat), ∀ (w_ n : Int) (M : Nat → Nat → Int64), (3 - w_).toNat < N → (hw : 0 ≤ w_ ∧ w_ ≤ 3) → (hn : n = cntB (fun q => L (q / 5) (q % 5)) (5 * w_).toNat) → (hM : erI L M (5 * w_)) → (hf : ∀ k, k ≠ 0 → k ≠ 1 → k ≠ 2 → M k = L k) → (hn2 : 0 ≤ n ∧ n ≤ 5 * w_) → Z p l e { frames := 0, cells := 0, slots := 0, locals := 0 } s m args below meth c D A 4 0 0 Q 4 [(2, .int (zI w_)), (1, .int (zI n)), (0, .ref (h 1))] [] (cW ce h pl ar G M B J) := by
    intro N
    induction N with
    | zero => intro w_ n M hm; exact absurd hm (Nat.not_lt_zero _)
    | succ N ih_4 =>
      intro w_ n M hm hw hn hM hf hn2
      refine Z.iload_n hX dX5_countAndErase_4 rfl rfl ?_
      refine Z.iconst hX dX5_countAndErase_5 ?_
      refine Z.icmp_ge hX 53 dX5_countAndErase_6 (by decide) ⟨by omega, by omega⟩ ⟨by omega, by omega⟩ ?_ ?_
      · intro c1
        refine Z.iload_n hX dX5_countAndErase_53 rfl rfl ?_
        exact hR _ _ _ _ dX5_countAndErase_54 ⟨n, M, rfl, rfl, (by rw [hn, show 5 * w_ = 15 by omega]; rfl), (er_e (by rw [show (15 : Int) = 5 * w_ by omega]; exact hM)), hf⟩
      · intro c1
        refine Z.iconst hX dX5_countAndErase_9 ?_
        refine Z.istore_n (lv' := [(3, .int (zI 0)), (2, .int (zI w_)), (1, .int (zI n)), (0, .ref (h 1))]) hX dX5_countAndErase_10 rfl (by decide) rfl ?_
        have key_11 : ∀ (N : Nat), ∀ (i n : Int) (M : Nat → Nat → Int64), (5 - i).toNat < N → (hi : 0 ≤ i ∧ i ≤ 5) → (hn : n = cntB (fun q => L (q / 5) (q % 5)) (5 * w_ + i).toNat) → (hM : erI L M (5 * w_ + i)) → (hf : ∀ k, k ≠ 0 → k ≠ 1 → k ≠ 2 → M k = L k) → (hn2 : 0 ≤ n ∧ n ≤ 5 * w_ + i) → Z p l e { frames := 0, cells := 0, slots := 0, locals := 0 } s m args below meth c D A 4 0 0 Q 11 [(3, .int (zI i)), (2, .int (zI w_)), (1, .int (zI n)), (0, .ref (h 1))] [] (cW ce h pl ar G M B J) := by
          intro N
          induction N with
          | zero => intro i n M hm; exact absurd hm (Nat.not_lt_zero _)
          | succ N ih_11 =>
            intro i n M hm hi hn hM hf hn2
            refine Z.iload_n hX dX5_countAndErase_11 rfl rfl ?_
            refine Z.iconst hX dX5_countAndErase_12 ?_
            refine Z.icmp_ge hX 47 dX5_countAndErase_13 (by decide) ⟨by omega, by omega⟩ ⟨by omega, by omega⟩ ?_ ?_
            · intro c2
              refine Z.iinc (lv' := [(2, .int (zI (w_ + 1))), (3, .int (zI i)), (1, .int (zI n)), (0, .ref (h 1))]) hX dX5_countAndErase_47 rfl (by decide) rfl ?_
              refine Z.goto hX 4 dX5_countAndErase_50 (by decide) ?_
              refine Z.pick [0, 2, 3] rfl ?_
              exact ih_4 _ _ _ (by omega) (by omega) (by rw [hn, show 5 * (w_ + 1) = 5 * w_ + i by omega]) (by rw [show 5 * (w_ + 1) = 5 * w_ + i by omega]; exact hM) hf (by omega)
            · intro c2
              refine Z.aload_n hX dX5_countAndErase_16 rfl rfl ?_
              refine Z.getf hX 5 1 0 dX5_countAndErase_17 rfl rfl inX5 (by decide) fl_X5_11 rfl rfl ?_
              refine Z.iload_n hX dX5_countAndErase_20 rfl rfl ?_
              refine Z.aaload hX 9 3 dX5_countAndErase_21 rfl rfl rfl (by omega) (by omega) (by decide) rfl ?_
              refine Z.iload_n hX dX5_countAndErase_22 rfl rfl ?_
              refine Z.laload hX (18 + (w_ : Int).toNat) 1 dX5_countAndErase_23 (cW_in (by omega)) rfl (by omega) (by omega) (by decide) ?_
              refine Z.lconst (v := 0) hX dX5_countAndErase_24 rfl ?_
              refine Z.lcmp_eq hX 41 dX5_countAndErase_25 dX5_countAndErase_26 (by decide) ?_ ?_
              · intro c3
                refine Z.iinc (lv' := [(3, .int (zI (i + 1))), (2, .int (zI w_)), (1, .int (zI n)), (0, .ref (h 1))]) hX dX5_countAndErase_41 rfl (by decide) rfl ?_
                refine Z.goto hX 11 dX5_countAndErase_44 (by decide) ?_
                refine Z.pick [0, 1, 2, 3] rfl ?_
                exact ih_11 _ _ _ (by omega) (by omega) (cntB_s hw.1 hi.1 (by omega) hn hM (Or.inl ⟨by assumption, rfl⟩)) (erI_z hw.1 hi.1 (by omega) hM (by assumption)) hf (by omega)
              · intro c3
                refine Z.iinc (lv' := [(1, .int (zI (n + 1))), (3, .int (zI i)), (2, .int (zI w_)), (0, .ref (h 1))]) hX dX5_countAndErase_29 rfl (by decide) rfl ?_
                refine Z.aload_n hX dX5_countAndErase_32 rfl rfl ?_
                refine Z.getf hX 5 1 0 dX5_countAndErase_33 rfl rfl inX5 (by decide) fl_X5_11 rfl rfl ?_
                refine Z.iload_n hX dX5_countAndErase_36 rfl rfl ?_
                refine Z.aaload hX 9 3 dX5_countAndErase_37 rfl rfl rfl (by omega) (by omega) (by decide) rfl ?_
                refine Z.iload_n hX dX5_countAndErase_38 rfl rfl ?_
                refine Z.lconst (v := 0) hX dX5_countAndErase_39 rfl ?_
                refine Z.lastore hX (18 + (w_ : Int).toNat) 1 dX5_countAndErase_40 (cW_in (by omega)) rfl (by omega) (by omega) (by decide) ?_
                obtain ⟨L4, eL4⟩ : ∃ J' : Nat → Nat → Int64, J' = va_up M ((w_ : Int).toNat) (vp_updL (M ((w_ : Int).toNat)) (i : Int).toNat (0)) := ⟨_, rfl⟩
                refine Z.toW (w' := cW ce h pl ar G L4 B J) (by rw [eL4]; exact cW_setL (by omega)) ?_
                have gL4 : L4 ((w_ : Int).toNat) = vp_updL (M ((w_ : Int).toNat)) (i : Int).toNat (0) := by rw [eL4]; exact up_eq
                have fL4 : ∀ j_, j_ ≠ (w_ : Int).toNat → L4 j_ = M j_ := fun j_ hj_ => by rw [eL4]; exact up_ne hj_
                refine Z.iinc (lv' := [(3, .int (zI (i + 1))), (1, .int (zI (n + 1))), (2, .int (zI w_)), (0, .ref (h 1))]) hX dX5_countAndErase_41 rfl (by decide) rfl ?_
                refine Z.goto hX 11 dX5_countAndErase_44 (by decide) ?_
                refine Z.pick [0, 2, 1, 3] rfl ?_
                exact ih_11 _ _ _ (by omega) (by omega) (cntB_s hw.1 hi.1 (by omega) hn hM (Or.inr ⟨by assumption, rfl⟩)) (erI_s hw.1 hi.1 (by omega) hM gL4 fL4) (er_f (by omega) fL4 hf) (by omega)
        refine Z.pick [0, 1, 2, 3] rfl ?_
        exact key_11 _ _ _ _ (Nat.lt_succ_self _) (by omega) (by rw [Int.add_zero]; exact hn) (by rw [Int.add_zero]; exact hM) hf (by omega)
  refine Z.pick [0, 1, 2] rfl ?_
  exact key_4 _ _ _ _ (Nat.lt_succ_self _) (by omega) rfl (erI_0 L) (fun _ _ _ _ => rfl) (by omega)

