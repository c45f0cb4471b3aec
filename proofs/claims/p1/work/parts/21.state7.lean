theorem dX7_term_0 : decode cX7_term 0 = .ok (.iload_n 1, 1) := by decide +kernel
theorem dX7_term_1 : decode cX7_term 1 = .ok (.ifCond .lt 29, 3) := by decide +kernel
theorem dX7_term_4 : decode cX7_term 4 = .ok (.iload_n 1, 1) := by decide +kernel
theorem dX7_term_5 : decode cX7_term 5 = .ok (.iconst 2, 1) := by decide +kernel
theorem dX7_term_6 : decode cX7_term 6 = .ok (.if_icmp .gt 24, 3) := by decide +kernel
theorem dX7_term_9 : decode cX7_term 9 = .ok (.iload_n 2, 1) := by decide +kernel
theorem dX7_term_10 : decode cX7_term 10 = .ok (.ifCond .lt 20, 3) := by decide +kernel
theorem dX7_term_13 : decode cX7_term 13 = .ok (.iload_n 2, 1) := by decide +kernel
theorem dX7_term_14 : decode cX7_term 14 = .ok (.iconst 4, 1) := by decide +kernel
theorem dX7_term_15 : decode cX7_term 15 = .ok (.if_icmp .gt 15, 3) := by decide +kernel
theorem dX7_term_18 : decode cX7_term 18 = .ok (.iload_n 3, 1) := by decide +kernel
theorem dX7_term_19 : decode cX7_term 19 = .ok (.bipush (-7), 2) := by decide +kernel
theorem dX7_term_21 : decode cX7_term 21 = .ok (.if_icmp .lt 9, 3) := by decide +kernel
theorem dX7_term_24 : decode cX7_term 24 = .ok (.iload_n 3, 1) := by decide +kernel
theorem dX7_term_25 : decode cX7_term 25 = .ok (.bipush 7, 2) := by decide +kernel
theorem dX7_term_27 : decode cX7_term 27 = .ok (.if_icmp .le 6, 3) := by decide +kernel
theorem dX7_term_30 : decode cX7_term 30 = .ok (.bipush (-100), 2) := by decide +kernel
theorem dX7_term_32 : decode cX7_term 32 = .ok (.ireturn, 1) := by decide +kernel
theorem dX7_term_33 : decode cX7_term 33 = .ok (.aload_n 0, 1) := by decide +kernel
theorem dX7_term_34 : decode cX7_term 34 = .ok (.getfield 7, 3) := by decide +kernel
theorem dX7_term_37 : decode cX7_term 37 = .ok (.iconst 5, 1) := by decide +kernel
theorem dX7_term_38 : decode cX7_term 38 = .ok (.iload_n 1, 1) := by decide +kernel
theorem dX7_term_39 : decode cX7_term 39 = .ok (.imul, 1) := by decide +kernel
theorem dX7_term_40 : decode cX7_term 40 = .ok (.iload_n 2, 1) := by decide +kernel
theorem dX7_term_41 : decode cX7_term 41 = .ok (.iadd, 1) := by decide +kernel
theorem dX7_term_42 : decode cX7_term 42 = .ok (.iaload, 1) := by decide +kernel
theorem dX7_term_43 : decode cX7_term 43 = .ok (.istore 4, 2) := by decide +kernel
theorem dX7_term_45 : decode cX7_term 45 = .ok (.aload_n 0, 1) := by decide +kernel
theorem dX7_term_46 : decode cX7_term 46 = .ok (.getfield 7, 3) := by decide +kernel
theorem dX7_term_49 : decode cX7_term 49 = .ok (.iconst 5, 1) := by decide +kernel
theorem dX7_term_50 : decode cX7_term 50 = .ok (.iload_n 1, 1) := by decide +kernel
theorem dX7_term_51 : decode cX7_term 51 = .ok (.imul, 1) := by decide +kernel
theorem dX7_term_52 : decode cX7_term 52 = .ok (.iload_n 2, 1) := by decide +kernel
theorem dX7_term_53 : decode cX7_term 53 = .ok (.iadd, 1) := by decide +kernel
theorem dX7_term_54 : decode cX7_term 54 = .ok (.iload_n 3, 1) := by decide +kernel
theorem dX7_term_55 : decode cX7_term 55 = .ok (.iastore, 1) := by decide +kernel
theorem dX7_term_56 : decode cX7_term 56 = .ok (.aload_n 0, 1) := by decide +kernel
theorem dX7_term_57 : decode cX7_term 57 = .ok (.iconst 0, 1) := by decide +kernel
theorem dX7_term_58 : decode cX7_term 58 = .ok (.putfield 54, 3) := by decide +kernel
theorem dX7_term_61 : decode cX7_term 61 = .ok (.iload 4, 2) := by decide +kernel
theorem dX7_term_63 : decode cX7_term 63 = .ok (.ireturn, 1) := by decide +kernel
set_option maxHeartbeats 4000000 in
set_option maxRecDepth 100000 in
theorem ct_X7_term (l : Launch) (D : va_G) (ce : Nat → ClassId) (h : Nat → Nat) (F : Nat → Int) (I : Nat → Nat → Int32) (J : Nat → Nat → Int64) (wh i v : Int) (hok : rOK F I) (hw : -2147483648 ≤ wh ∧ wh < 2147483648) (hi : -2147483648 ≤ i ∧ i < 2147483648) (hv : -2147483648 ≤ v ∧ v < 2147483648) : Ct l yX7_term cX7_term 5 (some .int) { frames := 0, cells := 0, slots := 0, locals := 0 } 0 0 D (TY ce) [.ref (h 0), .int (zI wh), .int (zI i), .int (zI v)] (rW ce h F I J) (QI D (TY ce) (fun r w1 => ∃ z : Int, ∃ F2 : Nat → Int, ∃ I2 : Nat → Nat → Int32, ∃ J2 : Nat → Nat → Int64, r = zI z ∧ w1 = rW ce h F2 I2 J2 ∧ (rOK F2 I2) ∧ (¬ (0 ≤ wh ∧ wh ≤ 2 ∧ 0 ≤ i ∧ i ≤ 4 ∧ -7 ≤ v ∧ v ≤ 7) → z = -100 ∧ I2 0 = I 0) ∧ ((0 ≤ wh ∧ wh ≤ 2 ∧ 0 ≤ i ∧ i ≤ 4 ∧ -7 ≤ v ∧ v ≤ 7) → I 0 (5 * wh + i).toNat = zI z ∧ I2 0 = upd (I 0) (5 * wh + i).toNat (zI v)))) := by
  refine Ct.ofI (by decide) (Nat.le_of_ble_eq_true rfl) ?_
  intro p e s m args below meth c A Q hX hnm hR
  refine Z.pick (lv' := [(0, .ref (h 0)), (1, .int (zI wh)), (2, .int (zI i)), (3, .int (zI v))]) [0, 1, 2, 3] rfl ?_
  obtain ⟨hF, hF2, hkn, hdg⟩ := id hok
  refine Z.iload_n hX dX7_term_0 rfl rfl ?_
  refine Z.if_lt hX 30 dX7_term_1 (by decide) ⟨by omega, by omega⟩ ?_ ?_
  · intro c1
    refine Z.bipush hX dX7_term_30 (by decide) ?_
    exact hR _ _ _ _ dX7_term_32 ⟨(-100), F, I, J, rfl, rfl, hok, (fun _ => ⟨rfl, rfl⟩), (fun q => by omega)⟩
  · intro c1
    refine Z.iload_n hX dX7_term_4 rfl rfl ?_
    refine Z.iconst hX dX7_term_5 ?_
    refine Z.icmp_gt hX 30 dX7_term_6 (by decide) ⟨by omega, by omega⟩ ⟨by omega, by omega⟩ ?_ ?_
    · intro c2
      refine Z.bipush hX dX7_term_30 (by decide) ?_
      exact hR _ _ _ _ dX7_term_32 ⟨(-100), F, I, J, rfl, rfl, hok, (fun _ => ⟨rfl, rfl⟩), (fun q => by omega)⟩
    · intro c2
      refine Z.iload_n hX dX7_term_9 rfl rfl ?_
      refine Z.if_lt hX 30 dX7_term_10 (by decide) ⟨by omega, by omega⟩ ?_ ?_
      · intro c3
        refine Z.bipush hX dX7_term_30 (by decide) ?_
        exact hR _ _ _ _ dX7_term_32 ⟨(-100), F, I, J, rfl, rfl, hok, (fun _ => ⟨rfl, rfl⟩), (fun q => by omega)⟩
      · intro c3
        refine Z.iload_n hX dX7_term_13 rfl rfl ?_
        refine Z.iconst hX dX7_term_14 ?_
        refine Z.icmp_gt hX 30 dX7_term_15 (by decide) ⟨by omega, by omega⟩ ⟨by omega, by omega⟩ ?_ ?_
        · intro c4
          refine Z.bipush hX dX7_term_30 (by decide) ?_
          exact hR _ _ _ _ dX7_term_32 ⟨(-100), F, I, J, rfl, rfl, hok, (fun _ => ⟨rfl, rfl⟩), (fun q => by omega)⟩
        · intro c4
          refine Z.iload_n hX dX7_term_18 rfl rfl ?_
          refine Z.bipush hX dX7_term_19 (by decide) ?_
          refine Z.icmp_lt hX 30 dX7_term_21 (by decide) ⟨by omega, by omega⟩ ⟨by omega, by omega⟩ ?_ ?_
          · intro c5
            refine Z.bipush hX dX7_term_30 (by decide) ?_
            exact hR _ _ _ _ dX7_term_32 ⟨(-100), F, I, J, rfl, rfl, hok, (fun _ => ⟨rfl, rfl⟩), (fun q => by omega)⟩
          · intro c5
            refine Z.iload_n hX dX7_term_24 rfl rfl ?_
            refine Z.bipush hX dX7_term_25 (by decide) ?_
            refine Z.icmp_le hX 33 dX7_term_27 (by decide) ⟨by omega, by omega⟩ ⟨by omega, by omega⟩ ?_ ?_
            · intro c6
              refine Z.aload_n hX dX7_term_33 rfl rfl ?_
              refine Z.getf hX 7 0 0 dX7_term_34 rfl rfl inX7 (by decide) fl_X7_7 rfl rfl ?_
              refine Z.iconst hX dX7_term_37 ?_
              refine Z.iload_n hX dX7_term_38 rfl rfl ?_
              refine Z.imul hX dX7_term_39 ?_
              refine Z.iload_n hX dX7_term_40 rfl rfl ?_
              refine Z.iadd hX dX7_term_41 ?_
              refine Z.iaload hX 1 0 dX7_term_42 rfl rfl (by omega) (by omega) (by decide) ?_
              refine Z.topi (fun z7 hz7 kz7 ez7 => ?_)
              refine Z.istore (lv' := [(4, .int (zI z7)), (0, .ref (h 0)), (1, .int (zI wh)), (2, .int (zI i)), (3, .int (zI v))]) hX dX7_term_43 (by decide) rfl ?_
              refine Z.aload_n hX dX7_term_45 rfl rfl ?_
              refine Z.getf hX 7 0 0 dX7_term_46 rfl rfl inX7 (by decide) fl_X7_7 rfl rfl ?_
              refine Z.iconst hX dX7_term_49 ?_
              refine Z.iload_n hX dX7_term_50 rfl rfl ?_
              refine Z.imul hX dX7_term_51 ?_
              refine Z.iload_n hX dX7_term_52 rfl rfl ?_
              refine Z.iadd hX dX7_term_53 ?_
              refine Z.iload_n hX dX7_term_54 rfl rfl ?_
              refine Z.iastore hX 1 0 dX7_term_55 rfl rfl (by omega) (by omega) (by decide) ?_
              obtain ⟨I8, eI8⟩ : ∃ J' : Nat → Nat → Int32, J' = va_up I 0 (upd (I 0) ((5 * wh) + i : Int).toNat (zI (v))) := ⟨_, rfl⟩
              refine Z.toW (w' := rW ce h F I8 J) (by rw [eI8]; rfl) ?_
              have gI8 : I8 0 = upd (I 0) ((5 * wh) + i : Int).toNat (zI (v)) := by rw [eI8]; exact up_eq
              have fI8 : ∀ k, k ≠ 0 → I8 k = I k := fun k hk => by rw [eI8]; exact up_ne hk
              refine Z.aload_n hX dX7_term_56 rfl rfl ?_
              refine Z.iconst hX dX7_term_57 ?_
              refine Z.putf (ty := .boolean) hX 7 0 4 tyX7 dX7_term_58 rfl rfl inX7 tyX7_ok nmX7 (by decide) fl_X7_54 rfl rfl (by decide +kernel) rfl rfl (Nat.le_of_ble_eq_true rfl) ?_
              obtain ⟨F9, eF9⟩ : ∃ F' : Nat → Int, F' = va_up F 2 (0) := ⟨_, rfl⟩
              refine Z.toW (w' := rW ce h F9 I8 J) (by rw [eF9]; rfl) ?_
              have eF9_0 : F9 0 = F 0 := by rw [eF9]; rfl
              have eF9_1 : F9 1 = F 1 := by rw [eF9]; rfl
              have eF9_2 : F9 2 = 0 := by rw [eF9]; rfl
              refine Z.iload hX dX7_term_61 rfl ?_
              exact hR _ _ _ _ dX7_term_63 ⟨z7, F9, I8, J, rfl, rfl, (rOK_u (by omega) (by omega) (by rw [fI8 2 (by decide)]; exact hdg)), (fun q => absurd (by omega) q), (fun _ => ⟨by assumption, gI8⟩)⟩
            · intro c6
              refine Z.bipush hX dX7_term_30 (by decide) ?_
              exact hR _ _ _ _ dX7_term_32 ⟨(-100), F, I, J, rfl, rfl, hok, (fun _ => ⟨rfl, rfl⟩), (fun q => by omega)⟩

theorem dX7_clear_0 : decode cX7_clear 0 = .ok (.iconst 0, 1) := by decide +kernel
theorem dX7_clear_1 : decode cX7_clear 1 = .ok (.istore_n 1, 1) := by decide +kernel
theorem dX7_clear_2 : decode cX7_clear 2 = .ok (.iconst 0, 1) := by decide +kernel
theorem dX7_clear_3 : decode cX7_clear 3 = .ok (.istore_n 2, 1) := by decide +kernel
theorem dX7_clear_4 : decode cX7_clear 4 = .ok (.iload_n 2, 1) := by decide +kernel
theorem dX7_clear_5 : decode cX7_clear 5 = .ok (.bipush 15, 2) := by decide +kernel
theorem dX7_clear_7 : decode cX7_clear 7 = .ok (.if_icmp .ge 33, 3) := by decide +kernel
theorem dX7_clear_10 : decode cX7_clear 10 = .ok (.iload_n 1, 1) := by decide +kernel
theorem dX7_clear_11 : decode cX7_clear 11 = .ok (.aload_n 0, 1) := by decide +kernel
theorem dX7_clear_12 : decode cX7_clear 12 = .ok (.getfield 7, 3) := by decide +kernel
theorem dX7_clear_15 : decode cX7_clear 15 = .ok (.iload_n 2, 1) := by decide +kernel
theorem dX7_clear_16 : decode cX7_clear 16 = .ok (.iaload, 1) := by decide +kernel
theorem dX7_clear_17 : decode cX7_clear 17 = .ok (.ifCond .eq 7, 3) := by decide +kernel
theorem dX7_clear_20 : decode cX7_clear 20 = .ok (.iconst 1, 1) := by decide +kernel
theorem dX7_clear_21 : decode cX7_clear 21 = .ok (.goto 4, 3) := by decide +kernel
theorem dX7_clear_24 : decode cX7_clear 24 = .ok (.iconst 0, 1) := by decide +kernel
theorem dX7_clear_25 : decode cX7_clear 25 = .ok (.iadd, 1) := by decide +kernel
theorem dX7_clear_26 : decode cX7_clear 26 = .ok (.istore_n 1, 1) := by decide +kernel
theorem dX7_clear_27 : decode cX7_clear 27 = .ok (.aload_n 0, 1) := by decide +kernel
theorem dX7_clear_28 : decode cX7_clear 28 = .ok (.getfield 7, 3) := by decide +kernel
theorem dX7_clear_31 : decode cX7_clear 31 = .ok (.iload_n 2, 1) := by decide +kernel
theorem dX7_clear_32 : decode cX7_clear 32 = .ok (.iconst 0, 1) := by decide +kernel
theorem dX7_clear_33 : decode cX7_clear 33 = .ok (.iastore, 1) := by decide +kernel
theorem dX7_clear_34 : decode cX7_clear 34 = .ok (.iinc 2 1, 3) := by decide +kernel
theorem dX7_clear_37 : decode cX7_clear 37 = .ok (.goto (-33), 3) := by decide +kernel
theorem dX7_clear_40 : decode cX7_clear 40 = .ok (.aload_n 0, 1) := by decide +kernel
theorem dX7_clear_41 : decode cX7_clear 41 = .ok (.iconst 0, 1) := by decide +kernel
theorem dX7_clear_42 : decode cX7_clear 42 = .ok (.putfield 54, 3) := by decide +kernel
theorem dX7_clear_45 : decode cX7_clear 45 = .ok (.iload_n 1, 1) := by decide +kernel
theorem dX7_clear_46 : decode cX7_clear 46 = .ok (.ireturn, 1) := by decide +kernel
set_option maxHeartbeats 4000000 in
set_option maxRecDepth 100000 in
theorem ct_X7_clear (l : Launch) (D : va_G) (ce : Nat → ClassId) (h : Nat → Nat) (F : Nat → Int) (I : Nat → Nat → Int32) (J : Nat → Nat → Int64) (hok : rOK F I) : Ct l yX7_clear cX7_clear 3 (some .int) { frames := 0, cells := 0, slots := 0, locals := 0 } 0 0 D (TY ce) [.ref (h 0)] (rW ce h F I J) (QI D (TY ce) (fun r w1 => ∃ z : Int, ∃ F2 : Nat → Int, ∃ I2 : Nat → Nat → Int32, ∃ J2 : Nat → Nat → Int64, r = zI z ∧ w1 = rW ce h F2 I2 J2 ∧ (rOK F2 I2) ∧ (z = cntK (I 0) 15) ∧ (∀ q : Int, 0 ≤ q → q < 15 → I2 0 q.toNat = 0))) := by
  refine Ct.ofI (by decide) (Nat.le_of_ble_eq_true rfl) ?_
  intro p e s m args below meth c A Q hX hnm hR
  refine Z.pick (lv' := [(0, .ref (h 0))]) [0] rfl ?_
  obtain ⟨hF, hF2, hkn, hdg⟩ := id hok
  refine Z.iconst hX dX7_clear_0 ?_
  refine Z.istore_n (lv' := [(1, .int (zI 0)), (0, .ref (h 0))]) hX dX7_clear_1 rfl (by decide) rfl ?_
  refine Z.iconst hX dX7_clear_2 ?_
  refine Z.istore_n (lv' := [(2, .int (zI 0)), (1, .int (zI 0)), (0, .ref (h 0))]) hX dX7_clear_3 rfl (by decide) rfl ?_
  have key_4 : ∀ (N : Nat), ∀ (k n : Int) (K : Nat → Nat → Int32), (15 - k).toNat < N → (hk : 0 ≤ k ∧ k ≤ 15) → (hn : n = cntK (I 0) k.toNat) → (hn2 : 0 ≤ n ∧ n ≤ k) → (hK : ∀ q : Int, 0 ≤ q → K 0 q.toNat = if q < k then 0 else I 0 q.toNat) → (hfr : ∀ k, k ≠ 0 → K k = I k) → Z p l e { frames := 0, cells := 0, slots := 0, locals := 0 } s m args below meth c D A 3 0 0 Q 4 [(2, .int (zI k)), (1, .int (zI n)), (0, .ref (h 0))] [] (rW ce h F K J) := by
    intro N
    induction N with
    | zero => intro k n K hm; exact absurd hm (Nat.not_lt_zero _)
    | succ N ih_4 =>
      intro k n K hm hk hn hn2 hK hfr
      refine Z.iload_n hX dX7_clear_4 rfl rfl ?_
      refine Z.bipush hX dX7_clear_5 (by decide) ?_
      refine Z.icmp_ge hX 40 dX7_clear_7 (by decide) ⟨by omega, by omega⟩ ⟨by omega, by omega⟩ ?_ ?_
      · intro c1
        refine Z.aload_n hX dX7_clear_40 rfl rfl ?_
        refine Z.iconst hX dX7_clear_41 ?_
        refine Z.putf (ty := .boolean) hX 7 0 4 tyX7 dX7_clear_42 rfl rfl inX7 tyX7_ok nmX7 (by decide) fl_X7_54 rfl rfl (by decide +kernel) rfl rfl (Nat.le_of_ble_eq_true rfl) ?_
        obtain ⟨F2, eF2⟩ : ∃ F' : Nat → Int, F' = va_up F 2 (0) := ⟨_, rfl⟩
        refine Z.toW (w' := rW ce h F2 K J) (by rw [eF2]; rfl) ?_
        have eF2_0 : F2 0 = F 0 := by rw [eF2]; rfl
        have eF2_1 : F2 1 = F 1 := by rw [eF2]; rfl
        have eF2_2 : F2 2 = 0 := by rw [eF2]; rfl
        refine Z.iload_n hX dX7_clear_45 rfl rfl ?_
        exact hR _ _ _ _ dX7_clear_46 ⟨n, F2, K, J, rfl, rfl, (rOK_u (by omega) (by omega) (by rw [hfr 2 (by decide)]; exact hdg)), (by rw [hn, show k = 15 by omega]; rfl), (fun q h1 h2 => by rw [hK q h1, if_pos (by omega)])⟩
      · intro c1
        refine Z.iload_n hX dX7_clear_10 rfl rfl ?_
        refine Z.aload_n hX dX7_clear_11 rfl rfl ?_
        refine Z.getf hX 7 0 0 dX7_clear_12 rfl rfl inX7 (by decide) fl_X7_7 rfl rfl ?_
        refine Z.iload_n hX dX7_clear_15 rfl rfl ?_
        refine Z.iaload hX 1 0 dX7_clear_16 rfl rfl (by omega) (by omega) (by decide) ?_
        refine Z.topi (fun z3 hz3 kz3 ez3 => ?_)
        refine Z.if_eq hX 24 dX7_clear_17 (by decide) ⟨by omega, by omega⟩ ?_ ?_
        · intro c4
          refine Z.iconst hX dX7_clear_24 ?_
          refine Z.iadd hX dX7_clear_25 ?_
          refine Z.istore_n (lv' := [(1, .int (zI (n + 0))), (2, .int (zI k)), (0, .ref (h 0))]) hX dX7_clear_26 rfl (by decide) rfl ?_
          refine Z.aload_n hX dX7_clear_27 rfl rfl ?_
          refine Z.getf hX 7 0 0 dX7_clear_28 rfl rfl inX7 (by decide) fl_X7_7 rfl rfl ?_
          refine Z.iload_n hX dX7_clear_31 rfl rfl ?_
          refine Z.iconst hX dX7_clear_32 ?_
          refine Z.iastore hX 1 0 dX7_clear_33 rfl rfl (by omega) (by omega) (by decide) ?_
          obtain ⟨I5, eI5⟩ : ∃ J' : Nat → Nat → Int32, J' = va_up K 0 (upd (K 0) (k : Int).toNat (zI (0))) := ⟨_, rfl⟩
          refine Z.toW (w' := rW ce h F I5 J) (by rw [eI5]; rfl) ?_
          have gI5 : I5 0 = upd (K 0) (k : Int).toNat (zI (0)) := by rw [eI5]; exact up_eq
          have fI5 : ∀ k, k ≠ 0 → I5 k = K k := fun k hk => by rw [eI5]; exact up_ne hk
          refine Z.iinc (lv' := [(2, .int (zI (k + 1))), (1, .int (zI (n + 0))), (0, .ref (h 0))]) hX dX7_clear_34 rfl (by decide) rfl ?_
          refine Z.goto hX 4 dX7_clear_37 (by decide) ?_
          refine Z.pick [0, 1, 2] rfl ?_
          exact ih_4 _ _ _ (by omega) (by omega) (cnt_s hk.1 hn (by rw [hK k hk.1, if_neg (by omega)] at *; assumption) ⟨by assumption, by assumption⟩ (by first | exact Or.inl ⟨by assumption, rfl⟩ | exact Or.inr ⟨by assumption, rfl⟩)) (by omega) (clr_s hk.1 gI5 hK) (fun k h0 => ((fI5 k h0).trans (hfr k h0)))
        · intro c4
          refine Z.iconst hX dX7_clear_20 ?_
          refine Z.goto hX 25 dX7_clear_21 (by decide) ?_
          refine Z.iadd hX dX7_clear_25 ?_
          refine Z.istore_n (lv' := [(1, .int (zI (n + 1))), (2, .int (zI k)), (0, .ref (h 0))]) hX dX7_clear_26 rfl (by decide) rfl ?_
          refine Z.aload_n hX dX7_clear_27 rfl rfl ?_
          refine Z.getf hX 7 0 0 dX7_clear_28 rfl rfl inX7 (by decide) fl_X7_7 rfl rfl ?_
          refine Z.iload_n hX dX7_clear_31 rfl rfl ?_
          refine Z.iconst hX dX7_clear_32 ?_
          refine Z.iastore hX 1 0 dX7_clear_33 rfl rfl (by omega) (by omega) (by decide) ?_
          obtain ⟨I6, eI6⟩ : ∃ J' : Nat → Nat → Int32, J' = va_up K 0 (upd (K 0) (k : Int).toNat (zI (0))) := ⟨_, rfl⟩
          refine Z.toW (w' := rW ce h F I6 J) (by rw [eI6]; rfl) ?_
          have gI6 : I6 0 = upd (K 0) (k : Int).toNat (zI (0)) := by rw [eI6]; exact up_eq
          have fI6 : ∀ k, k ≠ 0 → I6 k = K k := fun k hk => by rw [eI6]; exact up_ne hk
          refine Z.iinc (lv' := [(2, .int (zI (k + 1))), (1, .int (zI (n + 1))), (0, .ref (h 0))]) hX dX7_clear_34 rfl (by decide) rfl ?_
          refine Z.goto hX 4 dX7_clear_37 (by decide) ?_
          refine Z.pick [0, 1, 2] rfl ?_
          exact ih_4 _ _ _ (by omega) (by omega) (cnt_s hk.1 hn (by rw [hK k hk.1, if_neg (by omega)] at *; assumption) ⟨by assumption, by assumption⟩ (by first | exact Or.inl ⟨by assumption, rfl⟩ | exact Or.inr ⟨by assumption, rfl⟩)) (by omega) (clr_s hk.1 gI6 hK) (fun k h0 => ((fI6 k h0).trans (hfr k h0)))
  refine Z.pick [0, 1, 2] rfl ?_
  exact key_4 _ _ _ _ (Nat.lt_succ_self _) (by omega) rfl (by omega) (fun q h1 => (if_neg (by omega)).symm) (fun k h0 => rfl)

set_option maxRecDepth 100000 in
theorem im_obj : Cond.instanceMethod objectInit ∈ lw_g := z_mem (k := 49) rfl rfl
set_option maxRecDepth 100000 in
theorem mc_obj : Cond.code objectInit ⟨#[0xb1]⟩ 1 none ∈ lw_g := z_mem (k := 50) rfl rfl
theorem ac_0 : Cond.arrayClass .int ∈ lw_g := z_memD (by decide +kernel) rfl
theorem ac_1 : Cond.arrayClass .long ∈ lw_g := z_memD (by decide +kernel) rfl
theorem ac_2 : Cond.arrayClass .boolean ∈ lw_g := z_memD (by decide +kernel) rfl
set_option maxRecDepth 100000 in
theorem ml_X7_1 : Cond.methodLink RX7 1 objectInit ∈ lw_g := z_mem (k := 460) rfl rfl
theorem dX7_init_0 : decode cX7_init 0 = .ok (.aload_n 0, 1) := by decide +kernel
theorem dX7_init_1 : decode cX7_init 1 = .ok (.invokespecial 1, 3) := by decide +kernel
theorem dX7_init_4 : decode cX7_init 4 = .ok (.aload_n 0, 1) := by decide +kernel
theorem dX7_init_5 : decode cX7_init 5 = .ok (.bipush 15, 2) := by decide +kernel
theorem dX7_init_7 : decode cX7_init 7 = .ok (.newarray .int, 2) := by decide +kernel
theorem dX7_init_9 : decode cX7_init 9 = .ok (.putfield 7, 3) := by decide +kernel
theorem dX7_init_12 : decode cX7_init 12 = .ok (.aload_n 0, 1) := by decide +kernel
theorem dX7_init_13 : decode cX7_init 13 = .ok (.bipush 15, 2) := by decide +kernel
theorem dX7_init_15 : decode cX7_init 15 = .ok (.newarray .long, 2) := by decide +kernel
theorem dX7_init_17 : decode cX7_init 17 = .ok (.putfield 13, 3) := by decide +kernel
theorem dX7_init_20 : decode cX7_init 20 = .ok (.aload_n 0, 1) := by decide +kernel
theorem dX7_init_21 : decode cX7_init 21 = .ok (.iconst 2, 1) := by decide +kernel
theorem dX7_init_22 : decode cX7_init 22 = .ok (.newarray .boolean, 2) := by decide +kernel
theorem dX7_init_24 : decode cX7_init 24 = .ok (.putfield 17, 3) := by decide +kernel
theorem dX7_init_27 : decode cX7_init 27 = .ok (.aload_n 0, 1) := by decide +kernel
theorem dX7_init_28 : decode cX7_init 28 = .ok (.bipush 98, 2) := by decide +kernel
theorem dX7_init_30 : decode cX7_init 30 = .ok (.newarray .long, 2) := by decide +kernel
theorem dX7_init_32 : decode cX7_init 32 = .ok (.putfield 21, 3) := by decide +kernel
theorem dX7_init_35 : decode cX7_init 35 = .ok (.aload_n 0, 1) := by decide +kernel
theorem dX7_init_36 : decode cX7_init 36 = .ok (.iconst 2, 1) := by decide +kernel
theorem dX7_init_37 : decode cX7_init 37 = .ok (.newarray .int, 2) := by decide +kernel
theorem dX7_init_39 : decode cX7_init 39 = .ok (.putfield 24, 3) := by decide +kernel
theorem dX7_init_42 : decode cX7_init 42 = .ok (.aload_n 0, 1) := by decide +kernel
theorem dX7_init_43 : decode cX7_init 43 = .ok (.iconst 2, 1) := by decide +kernel
theorem dX7_init_44 : decode cX7_init 44 = .ok (.newarray .int, 2) := by decide +kernel
theorem dX7_init_46 : decode cX7_init 46 = .ok (.putfield 27, 3) := by decide +kernel
theorem dX7_init_49 : decode cX7_init 49 = .ok (.aload_n 0, 1) := by decide +kernel
theorem dX7_init_50 : decode cX7_init 50 = .ok (.iconst 5, 1) := by decide +kernel
theorem dX7_init_51 : decode cX7_init 51 = .ok (.newarray .long, 2) := by decide +kernel
theorem dX7_init_53 : decode cX7_init 53 = .ok (.putfield 30, 3) := by decide +kernel
theorem dX7_init_56 : decode cX7_init 56 = .ok (.aload_n 0, 1) := by decide +kernel
theorem dX7_init_57 : decode cX7_init 57 = .ok (.iconst 5, 1) := by decide +kernel
theorem dX7_init_58 : decode cX7_init 58 = .ok (.newarray .long, 2) := by decide +kernel
theorem dX7_init_60 : decode cX7_init 60 = .ok (.putfield 33, 3) := by decide +kernel
theorem dX7_init_63 : decode cX7_init 63 = .ok (.aload_n 0, 1) := by decide +kernel
theorem dX7_init_64 : decode cX7_init 64 = .ok (.sipush 192, 3) := by decide +kernel
theorem dX7_init_67 : decode cX7_init 67 = .ok (.newarray .long, 2) := by decide +kernel
theorem dX7_init_69 : decode cX7_init 69 = .ok (.putfield 36, 3) := by decide +kernel
theorem dX7_init_72 : decode cX7_init 72 = .ok (.aload_n 0, 1) := by decide +kernel
theorem dX7_init_73 : decode cX7_init 73 = .ok (.sipush 12544, 3) := by decide +kernel
theorem dX7_init_76 : decode cX7_init 76 = .ok (.newarray .long, 2) := by decide +kernel
theorem dX7_init_78 : decode cX7_init 78 = .ok (.putfield 39, 3) := by decide +kernel
theorem dX7_init_81 : decode cX7_init 81 = .ok (.aload_n 0, 1) := by decide +kernel
theorem dX7_init_82 : decode cX7_init 82 = .ok (.bipush 49, 2) := by decide +kernel
theorem dX7_init_84 : decode cX7_init 84 = .ok (.newarray .long, 2) := by decide +kernel
theorem dX7_init_86 : decode cX7_init 86 = .ok (.putfield 42, 3) := by decide +kernel
theorem dX7_init_89 : decode cX7_init 89 = .ok (.aload_n 0, 1) := by decide +kernel
theorem dX7_init_90 : decode cX7_init 90 = .ok (.bipush 49, 2) := by decide +kernel
theorem dX7_init_92 : decode cX7_init 92 = .ok (.newarray .long, 2) := by decide +kernel
theorem dX7_init_94 : decode cX7_init 94 = .ok (.putfield 45, 3) := by decide +kernel
theorem dX7_init_97 : decode cX7_init 97 = .ok (.aload_n 0, 1) := by decide +kernel
theorem dX7_init_98 : decode cX7_init 98 = .ok (.bipush 49, 2) := by decide +kernel
theorem dX7_init_100 : decode cX7_init 100 = .ok (.newarray .long, 2) := by decide +kernel
theorem dX7_init_102 : decode cX7_init 102 = .ok (.putfield 48, 3) := by decide +kernel
theorem dX7_init_105 : decode cX7_init 105 = .ok (.aload_n 0, 1) := by decide +kernel
theorem dX7_init_106 : decode cX7_init 106 = .ok (.bipush 49, 2) := by decide +kernel
theorem dX7_init_108 : decode cX7_init 108 = .ok (.newarray .long, 2) := by decide +kernel
theorem dX7_init_110 : decode cX7_init 110 = .ok (.putfield 51, 3) := by decide +kernel
theorem dX7_init_113 : decode cX7_init 113 = .ok (.return_, 1) := by decide +kernel
set_option maxHeartbeats 4000000 in
set_option maxRecDepth 100000 in
theorem ct_X7_init (l : Launch) (D : va_G) (ce : Nat → ClassId) (h0 : Nat) : Ct l yX7_init cX7_init 1 none { frames := 1, cells := 14, slots := 13076, locals := 12 } 14 13076 D (TY ce) [.ref h0] ([(h0, .inr (7, [.null, .null, .int (zI 0), .int (zI 0), .int (zI 0), .null, .null, .null, .null, .null, .null, .null, .null, .null, .null, .null, .null]))]) (QV D (TY ce) (fun w1 => ∃ h : Nat → Nat, w1 = rW ce h (fun _ => 0) (fun _ _ => 0) (fun _ _ => 0) ∧ h 0 = h0)) := by
  refine Ct.ofV (by decide) (Nat.le_of_ble_eq_true rfl) ?_
  intro p e s m args below meth c A Q hX hnm hR
  refine Z.pick (lv' := [(0, .ref h0)]) [0] rfl ?_
  refine Z.aload_n hX dX7_init_0 rfl rfl ?_
  refine Z.objI hX dX7_init_1 ml_X7_1 im_obj mc_obj (by decide) (by decide) ?_
  refine Z.aload_n hX dX7_init_4 rfl rfl ?_
  refine Z.bipush hX dX7_init_5 (by decide) ?_
  refine Z.newi (N := 15) hX 0 dX7_init_7 rfl ac_0 rfl (by decide) (by decide) (by decide) ?_
  intro q1
  refine Z.putF (ty := tyX7 0) hX 7 0 0 tyX7 hnm dX7_init_9 rfl rfl inX7 tyX7_ok nmX7 (by decide) fl_X7_7 rfl rfl rfl (by decide +kernel) rfl rfl (Nat.le_of_ble_eq_true rfl) ?_
  refine Z.toW (w' := [(h0, .inr (7, [.ref q1, .null, .int (zI 0), .int (zI 0), .int (zI 0), .null, .null, .null, .null, .null, .null, .null, .null, .null, .null, .null, .null])), (q1, .inl (ce 0, 15, .inl (fun _ => 0)))]) rfl ?_
  refine Z.aload_n hX dX7_init_12 rfl rfl ?_
  refine Z.bipush hX dX7_init_13 (by decide) ?_
  refine Z.newl (N := 15) hX 1 dX7_init_15 rfl ac_1 rfl (by decide) (by decide) (by decide) ?_
  intro q2
  refine Z.putF (ty := tyX7 1) hX 7 0 1 tyX7 hnm dX7_init_17 rfl rfl inX7 tyX7_ok nmX7 (by decide) fl_X7_13 rfl rfl rfl (by decide +kernel) rfl rfl (Nat.le_of_ble_eq_true rfl) ?_
  refine Z.toW (w' := [(h0, .inr (7, [.ref q1, .ref q2, .int (zI 0), .int (zI 0), .int (zI 0), .null, .null, .null, .null, .null, .null, .null, .null, .null, .null, .null, .null])), (q1, .inl (ce 0, 15, .inl (fun _ => 0))), (q2, .inl (ce 1, 15, .inr (.inl (fun _ => 0))))]) rfl ?_
  refine Z.aload_n hX dX7_init_20 rfl rfl ?_
  refine Z.iconst hX dX7_init_21 ?_
  refine Z.newz (N := 2) hX 2 dX7_init_22 rfl ac_2 rfl (by decide) (by decide) (by decide) ?_
  intro q3
  refine Z.putF (ty := tyX7 5) hX 7 0 5 tyX7 hnm dX7_init_24 rfl rfl inX7 tyX7_ok nmX7 (by decide) fl_X7_17 rfl rfl rfl (by decide +kernel) rfl rfl (Nat.le_of_ble_eq_true rfl) ?_
  refine Z.toW (w' := [(h0, .inr (7, [.ref q1, .ref q2, .int (zI 0), .int (zI 0), .int (zI 0), .ref q3, .null, .null, .null, .null, .null, .null, .null, .null, .null, .null, .null])), (q1, .inl (ce 0, 15, .inl (fun _ => 0))), (q2, .inl (ce 1, 15, .inr (.inl (fun _ => 0)))), (q3, .inl (ce 2, 2, .inl (fun _ => 0)))]) rfl ?_
  refine Z.aload_n hX dX7_init_27 rfl rfl ?_
  refine Z.bipush hX dX7_init_28 (by decide) ?_
  refine Z.newl (N := 98) hX 1 dX7_init_30 rfl ac_1 rfl (by decide) (by decide) (by decide) ?_
  intro q4
  refine Z.putF (ty := tyX7 6) hX 7 0 6 tyX7 hnm dX7_init_32 rfl rfl inX7 tyX7_ok nmX7 (by decide) fl_X7_21 rfl rfl rfl (by decide +kernel) rfl rfl (Nat.le_of_ble_eq_true rfl) ?_
  refine Z.toW (w' := [(h0, .inr (7, [.ref q1, .ref q2, .int (zI 0), .int (zI 0), .int (zI 0), .ref q3, .ref q4, .null, .null, .null, .null, .null, .null, .null, .null, .null, .null])), (q1, .inl (ce 0, 15, .inl (fun _ => 0))), (q2, .inl (ce 1, 15, .inr (.inl (fun _ => 0)))), (q3, .inl (ce 2, 2, .inl (fun _ => 0))), (q4, .inl (ce 1, 98, .inr (.inl (fun _ => 0))))]) rfl ?_
  refine Z.aload_n hX dX7_init_35 rfl rfl ?_
  refine Z.iconst hX dX7_init_36 ?_
  refine Z.newi (N := 2) hX 0 dX7_init_37 rfl ac_0 rfl (by decide) (by decide) (by decide) ?_
  intro q5
  refine Z.putF (ty := tyX7 7) hX 7 0 7 tyX7 hnm dX7_init_39 rfl rfl inX7 tyX7_ok nmX7 (by decide) fl_X7_24 rfl rfl rfl (by decide +kernel) rfl rfl (Nat.le_of_ble_eq_true rfl) ?_
  refine Z.toW (w' := [(h0, .inr (7, [.ref q1, .ref q2, .int (zI 0), .int (zI 0), .int (zI 0), .ref q3, .ref q4, .ref q5, .null, .null, .null, .null, .null, .null, .null, .null, .null])), (q1, .inl (ce 0, 15, .inl (fun _ => 0))), (q2, .inl (ce 1, 15, .inr (.inl (fun _ => 0)))), (q3, .inl (ce 2, 2, .inl (fun _ => 0))), (q4, .inl (ce 1, 98, .inr (.inl (fun _ => 0)))), (q5, .inl (ce 0, 2, .inl (fun _ => 0)))]) rfl ?_
  refine Z.aload_n hX dX7_init_42 rfl rfl ?_
  refine Z.iconst hX dX7_init_43 ?_
  refine Z.newi (N := 2) hX 0 dX7_init_44 rfl ac_0 rfl (by decide) (by decide) (by decide) ?_
  intro q6
  refine Z.putF (ty := tyX7 8) hX 7 0 8 tyX7 hnm dX7_init_46 rfl rfl inX7 tyX7_ok nmX7 (by decide) fl_X7_27 rfl rfl rfl (by decide +kernel) rfl rfl (Nat.le_of_ble_eq_true rfl) ?_
  refine Z.toW (w' := [(h0, .inr (7, [.ref q1, .ref q2, .int (zI 0), .int (zI 0), .int (zI 0), .ref q3, .ref q4, .ref q5, .ref q6, .null, .null, .null, .null, .null, .null, .null, .null])), (q1, .inl (ce 0, 15, .inl (fun _ => 0))), (q2, .inl (ce 1, 15, .inr (.inl (fun _ => 0)))), (q3, .inl (ce 2, 2, .inl (fun _ => 0))), (q4, .inl (ce 1, 98, .inr (.inl (fun _ => 0)))), (q5, .inl (ce 0, 2, .inl (fun _ => 0))), (q6, .inl (ce 0, 2, .inl (fun _ => 0)))]) rfl ?_
  refine Z.aload_n hX dX7_init_49 rfl rfl ?_
  refine Z.iconst hX dX7_init_50 ?_
  refine Z.newl (N := 5) hX 1 dX7_init_51 rfl ac_1 rfl (by decide) (by decide) (by decide) ?_
  intro q7
  refine Z.putF (ty := tyX7 9) hX 7 0 9 tyX7 hnm dX7_init_53 rfl rfl inX7 tyX7_ok nmX7 (by decide) fl_X7_30 rfl rfl rfl (by decide +kernel) rfl rfl (Nat.le_of_ble_eq_true rfl) ?_
  refine Z.toW (w' := [(h0, .inr (7, [.ref q1, .ref q2, .int (zI 0), .int (zI 0), .int (zI 0), .ref q3, .ref q4, .ref q5, .ref q6, .ref q7, .null, .null, .null, .null, .null, .null, .null])), (q1, .inl (ce 0, 15, .inl (fun _ => 0))), (q2, .inl (ce 1, 15, .inr (.inl (fun _ => 0)))), (q3, .inl (ce 2, 2, .inl (fun _ => 0))), (q4, .inl (ce 1, 98, .inr (.inl (fun _ => 0)))), (q5, .inl (ce 0, 2, .inl (fun _ => 0))), (q6, .inl (ce 0, 2, .inl (fun _ => 0))), (q7, .inl (ce 1, 5, .inr (.inl (fun _ => 0))))]) rfl ?_
  refine Z.aload_n hX dX7_init_56 rfl rfl ?_
  refine Z.iconst hX dX7_init_57 ?_
  refine Z.newl (N := 5) hX 1 dX7_init_58 rfl ac_1 rfl (by decide) (by decide) (by decide) ?_
  intro q8
  refine Z.putF (ty := tyX7 10) hX 7 0 10 tyX7 hnm dX7_init_60 rfl rfl inX7 tyX7_ok nmX7 (by decide) fl_X7_33 rfl rfl rfl (by decide +kernel) rfl rfl (Nat.le_of_ble_eq_true rfl) ?_
  refine Z.toW (w' := [(h0, .inr (7, [.ref q1, .ref q2, .int (zI 0), .int (zI 0), .int (zI 0), .ref q3, .ref q4, .ref q5, .ref q6, .ref q7, .ref q8, .null, .null, .null, .null, .null, .null])), (q1, .inl (ce 0, 15, .inl (fun _ => 0))), (q2, .inl (ce 1, 15, .inr (.inl (fun _ => 0)))), (q3, .inl (ce 2, 2, .inl (fun _ => 0))), (q4, .inl (ce 1, 98, .inr (.inl (fun _ => 0)))), (q5, .inl (ce 0, 2, .inl (fun _ => 0))), (q6, .inl (ce 0, 2, .inl (fun _ => 0))), (q7, .inl (ce 1, 5, .inr (.inl (fun _ => 0)))), (q8, .inl (ce 1, 5, .inr (.inl (fun _ => 0))))]) rfl ?_
  refine Z.aload_n hX dX7_init_63 rfl rfl ?_
  refine Z.sipush hX dX7_init_64 (by decide) ?_
  refine Z.newl (N := 192) hX 1 dX7_init_67 rfl ac_1 rfl (by decide) (by decide) (by decide) ?_
  intro q9
  refine Z.putF (ty := tyX7 11) hX 7 0 11 tyX7 hnm dX7_init_69 rfl rfl inX7 tyX7_ok nmX7 (by decide) fl_X7_36 rfl rfl rfl (by decide +kernel) rfl rfl (Nat.le_of_ble_eq_true rfl) ?_
  refine Z.toW (w' := [(h0, .inr (7, [.ref q1, .ref q2, .int (zI 0), .int (zI 0), .int (zI 0), .ref q3, .ref q4, .ref q5, .ref q6, .ref q7, .ref q8, .ref q9, .null, .null, .null, .null, .null])), (q1, .inl (ce 0, 15, .inl (fun _ => 0))), (q2, .inl (ce 1, 15, .inr (.inl (fun _ => 0)))), (q3, .inl (ce 2, 2, .inl (fun _ => 0))), (q4, .inl (ce 1, 98, .inr (.inl (fun _ => 0)))), (q5, .inl (ce 0, 2, .inl (fun _ => 0))), (q6, .inl (ce 0, 2, .inl (fun _ => 0))), (q7, .inl (ce 1, 5, .inr (.inl (fun _ => 0)))), (q8, .inl (ce 1, 5, .inr (.inl (fun _ => 0)))), (q9, .inl (ce 1, 192, .inr (.inl (fun _ => 0))))]) rfl ?_
  refine Z.aload_n hX dX7_init_72 rfl rfl ?_
  refine Z.sipush hX dX7_init_73 (by decide) ?_
  refine Z.newl (N := 12544) hX 1 dX7_init_76 rfl ac_1 rfl (by decide) (by decide) (by decide) ?_
  intro q10
  refine Z.putF (ty := tyX7 12) hX 7 0 12 tyX7 hnm dX7_init_78 rfl rfl inX7 tyX7_ok nmX7 (by decide) fl_X7_39 rfl rfl rfl (by decide +kernel) rfl rfl (Nat.le_of_ble_eq_true rfl) ?_
  refine Z.toW (w' := [(h0, .inr (7, [.ref q1, .ref q2, .int (zI 0), .int (zI 0), .int (zI 0), .ref q3, .ref q4, .ref q5, .ref q6, .ref q7, .ref q8, .ref q9, .ref q10, .null, .null, .null, .null])), (q1, .inl (ce 0, 15, .inl (fun _ => 0))), (q2, .inl (ce 1, 15, .inr (.inl (fun _ => 0)))), (q3, .inl (ce 2, 2, .inl (fun _ => 0))), (q4, .inl (ce 1, 98, .inr (.inl (fun _ => 0)))), (q5, .inl (ce 0, 2, .inl (fun _ => 0))), (q6, .inl (ce 0, 2, .inl (fun _ => 0))), (q7, .inl (ce 1, 5, .inr (.inl (fun _ => 0)))), (q8, .inl (ce 1, 5, .inr (.inl (fun _ => 0)))), (q9, .inl (ce 1, 192, .inr (.inl (fun _ => 0)))), (q10, .inl (ce 1, 12544, .inr (.inl (fun _ => 0))))]) rfl ?_
  refine Z.aload_n hX dX7_init_81 rfl rfl ?_
  refine Z.bipush hX dX7_init_82 (by decide) ?_
  refine Z.newl (N := 49) hX 1 dX7_init_84 rfl ac_1 rfl (by decide) (by decide) (by decide) ?_
  intro q11
  refine Z.putF (ty := tyX7 13) hX 7 0 13 tyX7 hnm dX7_init_86 rfl rfl inX7 tyX7_ok nmX7 (by decide) fl_X7_42 rfl rfl rfl (by decide +kernel) rfl rfl (Nat.le_of_ble_eq_true rfl) ?_
  refine Z.toW (w' := [(h0, .inr (7, [.ref q1, .ref q2, .int (zI 0), .int (zI 0), .int (zI 0), .ref q3, .ref q4, .ref q5, .ref q6, .ref q7, .ref q8, .ref q9, .ref q10, .ref q11, .null, .null, .null])), (q1, .inl (ce 0, 15, .inl (fun _ => 0))), (q2, .inl (ce 1, 15, .inr (.inl (fun _ => 0)))), (q3, .inl (ce 2, 2, .inl (fun _ => 0))), (q4, .inl (ce 1, 98, .inr (.inl (fun _ => 0)))), (q5, .inl (ce 0, 2, .inl (fun _ => 0))), (q6, .inl (ce 0, 2, .inl (fun _ => 0))), (q7, .inl (ce 1, 5, .inr (.inl (fun _ => 0)))), (q8, .inl (ce 1, 5, .inr (.inl (fun _ => 0)))), (q9, .inl (ce 1, 192, .inr (.inl (fun _ => 0)))), (q10, .inl (ce 1, 12544, .inr (.inl (fun _ => 0)))), (q11, .inl (ce 1, 49, .inr (.inl (fun _ => 0))))]) rfl ?_
  refine Z.aload_n hX dX7_init_89 rfl rfl ?_
  refine Z.bipush hX dX7_init_90 (by decide) ?_
  refine Z.newl (N := 49) hX 1 dX7_init_92 rfl ac_1 rfl (by decide) (by decide) (by decide) ?_
  intro q12
  refine Z.putF (ty := tyX7 14) hX 7 0 14 tyX7 hnm dX7_init_94 rfl rfl inX7 tyX7_ok nmX7 (by decide) fl_X7_45 rfl rfl rfl (by decide +kernel) rfl rfl (Nat.le_of_ble_eq_true rfl) ?_
  refine Z.toW (w' := [(h0, .inr (7, [.ref q1, .ref q2, .int (zI 0), .int (zI 0), .int (zI 0), .ref q3, .ref q4, .ref q5, .ref q6, .ref q7, .ref q8, .ref q9, .ref q10, .ref q11, .ref q12, .null, .null])), (q1, .inl (ce 0, 15, .inl (fun _ => 0))), (q2, .inl (ce 1, 15, .inr (.inl (fun _ => 0)))), (q3, .inl (ce 2, 2, .inl (fun _ => 0))), (q4, .inl (ce 1, 98, .inr (.inl (fun _ => 0)))), (q5, .inl (ce 0, 2, .inl (fun _ => 0))), (q6, .inl (ce 0, 2, .inl (fun _ => 0))), (q7, .inl (ce 1, 5, .inr (.inl (fun _ => 0)))), (q8, .inl (ce 1, 5, .inr (.inl (fun _ => 0)))), (q9, .inl (ce 1, 192, .inr (.inl (fun _ => 0)))), (q10, .inl (ce 1, 12544, .inr (.inl (fun _ => 0)))), (q11, .inl (ce 1, 49, .inr (.inl (fun _ => 0)))), (q12, .inl (ce 1, 49, .inr (.inl (fun _ => 0))))]) rfl ?_
  refine Z.aload_n hX dX7_init_97 rfl rfl ?_
  refine Z.bipush hX dX7_init_98 (by decide) ?_
  refine Z.newl (N := 49) hX 1 dX7_init_100 rfl ac_1 rfl (by decide) (by decide) (by decide) ?_
  intro q13
  refine Z.putF (ty := tyX7 15) hX 7 0 15 tyX7 hnm dX7_init_102 rfl rfl inX7 tyX7_ok nmX7 (by decide) fl_X7_48 rfl rfl rfl (by decide +kernel) rfl rfl (Nat.le_of_ble_eq_true rfl) ?_
  refine Z.toW (w' := [(h0, .inr (7, [.ref q1, .ref q2, .int (zI 0), .int (zI 0), .int (zI 0), .ref q3, .ref q4, .ref q5, .ref q6, .ref q7, .ref q8, .ref q9, .ref q10, .ref q11, .ref q12, .ref q13, .null])), (q1, .inl (ce 0, 15, .inl (fun _ => 0))), (q2, .inl (ce 1, 15, .inr (.inl (fun _ => 0)))), (q3, .inl (ce 2, 2, .inl (fun _ => 0))), (q4, .inl (ce 1, 98, .inr (.inl (fun _ => 0)))), (q5, .inl (ce 0, 2, .inl (fun _ => 0))), (q6, .inl (ce 0, 2, .inl (fun _ => 0))), (q7, .inl (ce 1, 5, .inr (.inl (fun _ => 0)))), (q8, .inl (ce 1, 5, .inr (.inl (fun _ => 0)))), (q9, .inl (ce 1, 192, .inr (.inl (fun _ => 0)))), (q10, .inl (ce 1, 12544, .inr (.inl (fun _ => 0)))), (q11, .inl (ce 1, 49, .inr (.inl (fun _ => 0)))), (q12, .inl (ce 1, 49, .inr (.inl (fun _ => 0)))), (q13, .inl (ce 1, 49, .inr (.inl (fun _ => 0))))]) rfl ?_
  refine Z.aload_n hX dX7_init_105 rfl rfl ?_
  refine Z.bipush hX dX7_init_106 (by decide) ?_
  refine Z.newl (N := 49) hX 1 dX7_init_108 rfl ac_1 rfl (by decide) (by decide) (by decide) ?_
  intro q14
  refine Z.putF (ty := tyX7 16) hX 7 0 16 tyX7 hnm dX7_init_110 rfl rfl inX7 tyX7_ok nmX7 (by decide) fl_X7_51 rfl rfl rfl (by decide +kernel) rfl rfl (Nat.le_of_ble_eq_true rfl) ?_
  refine Z.toW (w' := [(h0, .inr (7, [.ref q1, .ref q2, .int (zI 0), .int (zI 0), .int (zI 0), .ref q3, .ref q4, .ref q5, .ref q6, .ref q7, .ref q8, .ref q9, .ref q10, .ref q11, .ref q12, .ref q13, .ref q14])), (q1, .inl (ce 0, 15, .inl (fun _ => 0))), (q2, .inl (ce 1, 15, .inr (.inl (fun _ => 0)))), (q3, .inl (ce 2, 2, .inl (fun _ => 0))), (q4, .inl (ce 1, 98, .inr (.inl (fun _ => 0)))), (q5, .inl (ce 0, 2, .inl (fun _ => 0))), (q6, .inl (ce 0, 2, .inl (fun _ => 0))), (q7, .inl (ce 1, 5, .inr (.inl (fun _ => 0)))), (q8, .inl (ce 1, 5, .inr (.inl (fun _ => 0)))), (q9, .inl (ce 1, 192, .inr (.inl (fun _ => 0)))), (q10, .inl (ce 1, 12544, .inr (.inl (fun _ => 0)))), (q11, .inl (ce 1, 49, .inr (.inl (fun _ => 0)))), (q12, .inl (ce 1, 49, .inr (.inl (fun _ => 0)))), (q13, .inl (ce 1, 49, .inr (.inl (fun _ => 0)))), (q14, .inl (ce 1, 49, .inr (.inl (fun _ => 0))))]) rfl ?_
  exact hR _ _ _ dX7_init_113 ⟨fun k => ([h0, q1, q2, q3, q4, q5, q6, q7, q8, q9, q10, q11, q12, q13, q14] : List Nat).getD k 0, rfl, rfl⟩

