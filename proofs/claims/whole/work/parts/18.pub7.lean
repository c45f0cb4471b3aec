theorem dX7_degree_0 : decode cX7_degree 0 = .ok (.iload_n 1, 1) := by decide +kernel
theorem dX7_degree_1 : decode cX7_degree 1 = .ok (.ifCond .lt 8, 3) := by decide +kernel
theorem dX7_degree_4 : decode cX7_degree 4 = .ok (.iload_n 1, 1) := by decide +kernel
theorem dX7_degree_5 : decode cX7_degree 5 = .ok (.iconst 2, 1) := by decide +kernel
theorem dX7_degree_6 : decode cX7_degree 6 = .ok (.if_icmp .le 5, 3) := by decide +kernel
theorem dX7_degree_9 : decode cX7_degree 9 = .ok (.iconst (-1), 1) := by decide +kernel
theorem dX7_degree_10 : decode cX7_degree 10 = .ok (.ireturn, 1) := by decide +kernel
theorem dX7_degree_11 : decode cX7_degree 11 = .ok (.aload_n 0, 1) := by decide +kernel
theorem dX7_degree_12 : decode cX7_degree 12 = .ok (.invokevirtual 130, 3) := by decide +kernel
theorem dX7_degree_15 : decode cX7_degree 15 = .ok (.iload_n 1, 1) := by decide +kernel
theorem dX7_degree_16 : decode cX7_degree 16 = .ok (.ifCond .ne 10, 3) := by decide +kernel
theorem dX7_degree_19 : decode cX7_degree 19 = .ok (.aload_n 0, 1) := by decide +kernel
theorem dX7_degree_20 : decode cX7_degree 20 = .ok (.getfield 70, 3) := by decide +kernel
theorem dX7_degree_23 : decode cX7_degree 23 = .ok (.goto 24, 3) := by decide +kernel
theorem dX7_degree_26 : decode cX7_degree 26 = .ok (.iload_n 1, 1) := by decide +kernel
theorem dX7_degree_27 : decode cX7_degree 27 = .ok (.iconst 1, 1) := by decide +kernel
theorem dX7_degree_28 : decode cX7_degree 28 = .ok (.if_icmp .ne 10, 3) := by decide +kernel
theorem dX7_degree_31 : decode cX7_degree 31 = .ok (.aload_n 0, 1) := by decide +kernel
theorem dX7_degree_32 : decode cX7_degree 32 = .ok (.getfield 77, 3) := by decide +kernel
theorem dX7_degree_35 : decode cX7_degree 35 = .ok (.goto 12, 3) := by decide +kernel
theorem dX7_degree_38 : decode cX7_degree 38 = .ok (.aload_n 0, 1) := by decide +kernel
theorem dX7_degree_39 : decode cX7_degree 39 = .ok (.getfield 70, 3) := by decide +kernel
theorem dX7_degree_42 : decode cX7_degree 42 = .ok (.aload_n 0, 1) := by decide +kernel
theorem dX7_degree_43 : decode cX7_degree 43 = .ok (.getfield 77, 3) := by decide +kernel
theorem dX7_degree_46 : decode cX7_degree 46 = .ok (.isub, 1) := by decide +kernel
theorem dX7_degree_47 : decode cX7_degree 47 = .ok (.ireturn, 1) := by decide +kernel
set_option maxHeartbeats 4000000 in
set_option maxRecDepth 100000 in
theorem ct_X7_degree (l : Launch) (D : va_G) (ce : Nat → ClassId) (h : Nat → Nat) (F : Nat → Int) (I : Nat → Nat → Int32) (J : Nat → Nat → Int64) (what : Int) (hok : rOK F I) (hw : -2147483648 ≤ what ∧ what < 2147483648) : Ct l yX7_degree cX7_degree 2 (some .int) { frames := 6, cells := 0, slots := 0, locals := 174 } 0 0 D (TY ce) [.ref (h 0), .int (zI what)] (rW ce h F I J) (QI D (TY ce) (fun r w1 => ∃ z : Int, ∃ F2 : Nat → Int, ∃ I2 : Nat → Nat → Int32, ∃ J2 : Nat → Nat → Int64, r = zI z ∧ w1 = rW ce h F2 I2 J2 ∧ (rOK F2 I2) ∧ (I2 0 = I 0) ∧ (¬ (0 ≤ what ∧ what ≤ 2) → z = -1) ∧ (what = 0 → z = moK (I 0) 5))) := by
  refine Ct.ofI (by decide) (Nat.le_of_ble_eq_true rfl) ?_
  intro p e s m args below meth c A Q hX hnm hR
  refine Z.pick (lv' := [(0, .ref (h 0)), (1, .int (zI what))]) [0, 1] rfl ?_
  refine Z.iload_n hX dX7_degree_0 rfl rfl ?_
  refine Z.if_lt hX 9 dX7_degree_1 (by decide) ⟨by omega, by omega⟩ ?_ ?_
  · intro c1
    refine Z.iconst hX dX7_degree_9 ?_
    exact hR _ _ _ _ dX7_degree_10 ⟨(-1), F, I, J, rfl, rfl, hok, rfl, (fun _ => rfl), (fun q => by omega)⟩
  · intro c1
    refine Z.iload_n hX dX7_degree_4 rfl rfl ?_
    refine Z.iconst hX dX7_degree_5 ?_
    refine Z.icmp_le hX 11 dX7_degree_6 (by decide) ⟨by omega, by omega⟩ ⟨by omega, by omega⟩ ?_ ?_
    · intro c2
      refine Z.aload_n hX dX7_degree_11 rfl rfl ?_
      refine Z.callVfv (As := []) (rest := []) hX 7 0 rfl rfl (ct_X7_work l D ce h F I J hok) mc_X7_work ml_X7_130 im_X7_work se_X7_work ini_X7 nd_X7_work ⟨Nat.le_of_ble_eq_true rfl, Nat.le_of_ble_eq_true rfl⟩ ⟨rfl, rfl⟩ ⟨Nat.le_refl _, Nat.le_refl _⟩ rfl (Nat.le_of_ble_eq_true rfl) dX7_degree_12 ?_
      rintro w1 ⟨Fw, Iw, Jw, hw_, hokw, hfw, hmow, hIw, hdgw⟩
      subst hw_
      refine Z.iload_n hX dX7_degree_15 rfl rfl ?_
      refine Z.if_ne hX 26 dX7_degree_16 (by decide) ⟨by omega, by omega⟩ ?_ ?_
      · intro c4
        refine Z.iload_n hX dX7_degree_26 rfl rfl ?_
        refine Z.iconst hX dX7_degree_27 ?_
        refine Z.icmp_ne hX 38 dX7_degree_28 (by decide) ⟨by omega, by omega⟩ ⟨by omega, by omega⟩ ?_ ?_
        · intro c5
          refine Z.aload_n hX dX7_degree_38 rfl rfl ?_
          refine Z.getf hX 7 0 2 dX7_degree_39 rfl rfl inX7 (by decide) fl_X7_70 rfl rfl ?_
          refine Z.aload_n hX dX7_degree_42 rfl rfl ?_
          refine Z.getf hX 7 0 3 dX7_degree_43 rfl rfl inX7 (by decide) fl_X7_77 rfl rfl ?_
          refine Z.isub hX dX7_degree_46 ?_
          exact hR _ _ _ _ dX7_degree_47 ⟨((Fw 0) - (Fw 1)), Fw, Iw, Jw, rfl, rfl, hokw, hIw, (fun q => by omega), (fun q => by first | omega | exact hmow)⟩
        · intro c5
          refine Z.aload_n hX dX7_degree_31 rfl rfl ?_
          refine Z.getf hX 7 0 3 dX7_degree_32 rfl rfl inX7 (by decide) fl_X7_77 rfl rfl ?_
          refine Z.goto hX 47 dX7_degree_35 (by decide) ?_
          exact hR _ _ _ _ dX7_degree_47 ⟨(Fw 1), Fw, Iw, Jw, rfl, rfl, hokw, hIw, (fun q => by omega), (fun q => by first | omega | exact hmow)⟩
      · intro c4
        refine Z.aload_n hX dX7_degree_19 rfl rfl ?_
        refine Z.getf hX 7 0 2 dX7_degree_20 rfl rfl inX7 (by decide) fl_X7_70 rfl rfl ?_
        refine Z.goto hX 47 dX7_degree_23 (by decide) ?_
        exact hR _ _ _ _ dX7_degree_47 ⟨(Fw 0), Fw, Iw, Jw, rfl, rfl, hokw, hIw, (fun q => by omega), (fun q => by first | omega | exact hmow)⟩
    · intro c2
      refine Z.iconst hX dX7_degree_9 ?_
      exact hR _ _ _ _ dX7_degree_10 ⟨(-1), F, I, J, rfl, rfl, hok, rfl, (fun _ => rfl), (fun q => by omega)⟩

theorem dX7_freed_0 : decode cX7_freed 0 = .ok (.iload_n 1, 1) := by decide +kernel
theorem dX7_freed_1 : decode cX7_freed 1 = .ok (.ifCond .lt 17, 3) := by decide +kernel
theorem dX7_freed_4 : decode cX7_freed 4 = .ok (.iload_n 1, 1) := by decide +kernel
theorem dX7_freed_5 : decode cX7_freed 5 = .ok (.iconst 2, 1) := by decide +kernel
theorem dX7_freed_6 : decode cX7_freed 6 = .ok (.if_icmp .gt 12, 3) := by decide +kernel
theorem dX7_freed_9 : decode cX7_freed 9 = .ok (.iload_n 2, 1) := by decide +kernel
theorem dX7_freed_10 : decode cX7_freed 10 = .ok (.ifCond .lt 8, 3) := by decide +kernel
theorem dX7_freed_13 : decode cX7_freed 13 = .ok (.iload_n 2, 1) := by decide +kernel
theorem dX7_freed_14 : decode cX7_freed 14 = .ok (.iconst 4, 1) := by decide +kernel
theorem dX7_freed_15 : decode cX7_freed 15 = .ok (.if_icmp .le 6, 3) := by decide +kernel
theorem dX7_freed_18 : decode cX7_freed 18 = .ok (.ldc 133, 2) := by decide +kernel
theorem dX7_freed_20 : decode cX7_freed 20 = .ok (.ireturn, 1) := by decide +kernel
theorem dX7_freed_21 : decode cX7_freed 21 = .ok (.aload_n 0, 1) := by decide +kernel
theorem dX7_freed_22 : decode cX7_freed 22 = .ok (.invokevirtual 130, 3) := by decide +kernel
theorem dX7_freed_25 : decode cX7_freed 25 = .ok (.aload_n 0, 1) := by decide +kernel
theorem dX7_freed_26 : decode cX7_freed 26 = .ok (.getfield 13, 3) := by decide +kernel
theorem dX7_freed_29 : decode cX7_freed 29 = .ok (.iconst 5, 1) := by decide +kernel
theorem dX7_freed_30 : decode cX7_freed 30 = .ok (.iload_n 1, 1) := by decide +kernel
theorem dX7_freed_31 : decode cX7_freed 31 = .ok (.imul, 1) := by decide +kernel
theorem dX7_freed_32 : decode cX7_freed 32 = .ok (.iload_n 2, 1) := by decide +kernel
theorem dX7_freed_33 : decode cX7_freed 33 = .ok (.iadd, 1) := by decide +kernel
theorem dX7_freed_34 : decode cX7_freed 34 = .ok (.laload, 1) := by decide +kernel
theorem dX7_freed_35 : decode cX7_freed 35 = .ok (.l2i, 1) := by decide +kernel
theorem dX7_freed_36 : decode cX7_freed 36 = .ok (.ireturn, 1) := by decide +kernel
set_option maxHeartbeats 4000000 in
set_option maxRecDepth 100000 in
theorem ct_X7_freed (l : Launch) (D : va_G) (ce : Nat → ClassId) (h : Nat → Nat) (F : Nat → Int) (I : Nat → Nat → Int32) (J : Nat → Nat → Int64) (wh i : Int) (hok : rOK F I) (hw : -2147483648 ≤ wh ∧ wh < 2147483648) (hi : -2147483648 ≤ i ∧ i < 2147483648) : Ct l yX7_freed cX7_freed 3 (some .int) { frames := 6, cells := 0, slots := 0, locals := 174 } 0 0 D (TY ce) [.ref (h 0), .int (zI wh), .int (zI i)] (rW ce h F I J) (QI D (TY ce) (fun r w1 => ∃ z : Int, ∃ F2 : Nat → Int, ∃ I2 : Nat → Nat → Int32, ∃ J2 : Nat → Nat → Int64, r = zI z ∧ w1 = rW ce h F2 I2 J2 ∧ (rOK F2 I2) ∧ (I2 0 = I 0) ∧ (¬ (0 ≤ wh ∧ wh ≤ 2 ∧ 0 ≤ i ∧ i ≤ 4) → z = -1000000))) := by
  refine Ct.ofI (by decide) (Nat.le_of_ble_eq_true rfl) ?_
  intro p e s m args below meth c A Q hX hnm hR
  refine Z.pick (lv' := [(0, .ref (h 0)), (1, .int (zI wh)), (2, .int (zI i))]) [0, 1, 2] rfl ?_
  refine Z.iload_n hX dX7_freed_0 rfl rfl ?_
  refine Z.if_lt hX 18 dX7_freed_1 (by decide) ⟨by omega, by omega⟩ ?_ ?_
  · intro c1
    refine Z.ldc hX (-1000000) dX7_freed_18 co_X7_133 rfl ?_
    exact hR _ _ _ _ dX7_freed_20 ⟨((-1000000)), F, I, J, rfl, rfl, hok, rfl, (fun _ => rfl)⟩
  · intro c1
    refine Z.iload_n hX dX7_freed_4 rfl rfl ?_
    refine Z.iconst hX dX7_freed_5 ?_
    refine Z.icmp_gt hX 18 dX7_freed_6 (by decide) ⟨by omega, by omega⟩ ⟨by omega, by omega⟩ ?_ ?_
    · intro c2
      refine Z.ldc hX (-1000000) dX7_freed_18 co_X7_133 rfl ?_
      exact hR _ _ _ _ dX7_freed_20 ⟨((-1000000)), F, I, J, rfl, rfl, hok, rfl, (fun _ => rfl)⟩
    · intro c2
      refine Z.iload_n hX dX7_freed_9 rfl rfl ?_
      refine Z.if_lt hX 18 dX7_freed_10 (by decide) ⟨by omega, by omega⟩ ?_ ?_
      · intro c3
        refine Z.ldc hX (-1000000) dX7_freed_18 co_X7_133 rfl ?_
        exact hR _ _ _ _ dX7_freed_20 ⟨((-1000000)), F, I, J, rfl, rfl, hok, rfl, (fun _ => rfl)⟩
      · intro c3
        refine Z.iload_n hX dX7_freed_13 rfl rfl ?_
        refine Z.iconst hX dX7_freed_14 ?_
        refine Z.icmp_le hX 21 dX7_freed_15 (by decide) ⟨by omega, by omega⟩ ⟨by omega, by omega⟩ ?_ ?_
        · intro c4
          refine Z.aload_n hX dX7_freed_21 rfl rfl ?_
          refine Z.callVfv (As := []) (rest := []) hX 7 0 rfl rfl (ct_X7_work l D ce h F I J hok) mc_X7_work ml_X7_130 im_X7_work se_X7_work ini_X7 nd_X7_work ⟨Nat.le_of_ble_eq_true rfl, Nat.le_of_ble_eq_true rfl⟩ ⟨rfl, rfl⟩ ⟨Nat.le_refl _, Nat.le_refl _⟩ rfl (Nat.le_of_ble_eq_true rfl) dX7_freed_22 ?_
          rintro w1 ⟨Fw, Iw, Jw, hw_, hokw, hfw, hmow, hIw, hdgw⟩
          subst hw_
          refine Z.aload_n hX dX7_freed_25 rfl rfl ?_
          refine Z.getf hX 7 0 1 dX7_freed_26 rfl rfl inX7 (by decide) fl_X7_13 rfl rfl ?_
          refine Z.iconst hX dX7_freed_29 ?_
          refine Z.iload_n hX dX7_freed_30 rfl rfl ?_
          refine Z.imul hX dX7_freed_31 ?_
          refine Z.iload_n hX dX7_freed_32 rfl rfl ?_
          refine Z.iadd hX dX7_freed_33 ?_
          refine Z.laload hX 2 1 dX7_freed_34 rfl rfl (by omega) (by omega) (by decide) ?_
          refine Z.l2i hX dX7_freed_35 ?_
          refine Z.topi (fun z6 hz6 kz6 ez6 => ?_)
          exact hR _ _ _ _ dX7_freed_36 ⟨z6, Fw, Iw, Jw, rfl, rfl, hokw, hIw, (fun q => by omega)⟩
        · intro c4
          refine Z.ldc hX (-1000000) dX7_freed_18 co_X7_133 rfl ?_
          exact hR _ _ _ _ dX7_freed_20 ⟨((-1000000)), F, I, J, rfl, rfl, hok, rfl, (fun _ => rfl)⟩

theorem dX7_valueOf_0 : decode cX7_valueOf 0 = .ok (.aload_n 0, 1) := by decide +kernel
theorem dX7_valueOf_1 : decode cX7_valueOf 1 = .ok (.invokevirtual 130, 3) := by decide +kernel
theorem dX7_valueOf_4 : decode cX7_valueOf 4 = .ok (.lconst 0, 1) := by decide +kernel
theorem dX7_valueOf_5 : decode cX7_valueOf 5 = .ok (.lstore 4, 2) := by decide +kernel
theorem dX7_valueOf_7 : decode cX7_valueOf 7 = .ok (.iconst 0, 1) := by decide +kernel
theorem dX7_valueOf_8 : decode cX7_valueOf 8 = .ok (.istore 6, 2) := by decide +kernel
theorem dX7_valueOf_10 : decode cX7_valueOf 10 = .ok (.iload 6, 2) := by decide +kernel
theorem dX7_valueOf_12 : decode cX7_valueOf 12 = .ok (.aload_n 0, 1) := by decide +kernel
theorem dX7_valueOf_13 : decode cX7_valueOf 13 = .ok (.getfield 70, 3) := by decide +kernel
theorem dX7_valueOf_16 : decode cX7_valueOf 16 = .ok (.if_icmp .gt 47, 3) := by decide +kernel
theorem dX7_valueOf_19 : decode cX7_valueOf 19 = .ok (.lload 4, 2) := by decide +kernel
theorem dX7_valueOf_21 : decode cX7_valueOf 21 = .ok (.aload_n 0, 1) := by decide +kernel
theorem dX7_valueOf_22 : decode cX7_valueOf 22 = .ok (.getfield 7, 3) := by decide +kernel
theorem dX7_valueOf_25 : decode cX7_valueOf 25 = .ok (.iconst 5, 1) := by decide +kernel
theorem dX7_valueOf_26 : decode cX7_valueOf 26 = .ok (.iload_n 1, 1) := by decide +kernel
theorem dX7_valueOf_27 : decode cX7_valueOf 27 = .ok (.imul, 1) := by decide +kernel
theorem dX7_valueOf_28 : decode cX7_valueOf 28 = .ok (.iload 6, 2) := by decide +kernel
theorem dX7_valueOf_30 : decode cX7_valueOf 30 = .ok (.iadd, 1) := by decide +kernel
theorem dX7_valueOf_31 : decode cX7_valueOf 31 = .ok (.iaload, 1) := by decide +kernel
theorem dX7_valueOf_32 : decode cX7_valueOf 32 = .ok (.i2l, 1) := by decide +kernel
theorem dX7_valueOf_33 : decode cX7_valueOf 33 = .ok (.iload_n 2, 1) := by decide +kernel
theorem dX7_valueOf_34 : decode cX7_valueOf 34 = .ok (.i2l, 1) := by decide +kernel
theorem dX7_valueOf_35 : decode cX7_valueOf 35 = .ok (.iload 6, 2) := by decide +kernel
theorem dX7_valueOf_37 : decode cX7_valueOf 37 = .ok (.invokestatic 134, 3) := by decide +kernel
theorem dX7_valueOf_40 : decode cX7_valueOf 40 = .ok (.lmul, 1) := by decide +kernel
theorem dX7_valueOf_41 : decode cX7_valueOf 41 = .ok (.iload_n 3, 1) := by decide +kernel
theorem dX7_valueOf_42 : decode cX7_valueOf 42 = .ok (.i2l, 1) := by decide +kernel
theorem dX7_valueOf_43 : decode cX7_valueOf 43 = .ok (.aload_n 0, 1) := by decide +kernel
theorem dX7_valueOf_44 : decode cX7_valueOf 44 = .ok (.getfield 70, 3) := by decide +kernel
theorem dX7_valueOf_47 : decode cX7_valueOf 47 = .ok (.iload 6, 2) := by decide +kernel
theorem dX7_valueOf_49 : decode cX7_valueOf 49 = .ok (.isub, 1) := by decide +kernel
theorem dX7_valueOf_50 : decode cX7_valueOf 50 = .ok (.invokestatic 134, 3) := by decide +kernel
theorem dX7_valueOf_53 : decode cX7_valueOf 53 = .ok (.lmul, 1) := by decide +kernel
theorem dX7_valueOf_54 : decode cX7_valueOf 54 = .ok (.ladd, 1) := by decide +kernel
theorem dX7_valueOf_55 : decode cX7_valueOf 55 = .ok (.lstore 4, 2) := by decide +kernel
theorem dX7_valueOf_57 : decode cX7_valueOf 57 = .ok (.iinc 6 1, 3) := by decide +kernel
theorem dX7_valueOf_60 : decode cX7_valueOf 60 = .ok (.goto (-50), 3) := by decide +kernel
theorem dX7_valueOf_63 : decode cX7_valueOf 63 = .ok (.lload 4, 2) := by decide +kernel
theorem dX7_valueOf_65 : decode cX7_valueOf 65 = .ok (.lreturn, 1) := by decide +kernel
set_option maxHeartbeats 4000000 in
set_option maxRecDepth 100000 in
theorem ct_X7_valueOf (l : Launch) (D : va_G) (ce : Nat → ClassId) (h : Nat → Nat) (F : Nat → Int) (I : Nat → Nat → Int32) (J : Nat → Nat → Int64) (wh u v : Int) (hok : rOK F I) (hw : 0 ≤ wh ∧ wh ≤ 2) (hu : -2147483648 ≤ u ∧ u < 2147483648) (hv : -2147483648 ≤ v ∧ v < 2147483648) : Ct l yX7_valueOf cX7_valueOf 7 (some .long) { frames := 6, cells := 0, slots := 0, locals := 174 } 0 0 D (TY ce) [.ref (h 0), .int (zI wh), .int (zI u), .int (zI v)] (rW ce h F I J) (QL D (TY ce) (fun r w1 => ∃ r0 : Int64, ∃ F2 : Nat → Int, ∃ I2 : Nat → Nat → Int32, ∃ J2 : Nat → Nat → Int64, r = r0 ∧ w1 = rW ce h F2 I2 J2 ∧ (rOK F2 I2) ∧ (I2 0 = I 0) ∧ (r0 = vOf (I 0) wh u v) ∧ (F2 2 = 1))) := by
  refine Ct.ofL (by decide) (Nat.le_of_ble_eq_true rfl) ?_
  intro p e s m args below meth c A Q hX hnm hR
  refine Z.pick (lv' := [(0, .ref (h 0)), (1, .int (zI wh)), (2, .int (zI u)), (3, .int (zI v))]) [0, 1, 2, 3] rfl ?_
  refine Z.aload_n hX dX7_valueOf_0 rfl rfl ?_
  refine Z.callVfv (As := []) (rest := []) hX 7 0 rfl rfl (ct_X7_work l D ce h F I J hok) mc_X7_work ml_X7_130 im_X7_work se_X7_work ini_X7 nd_X7_work ⟨Nat.le_of_ble_eq_true rfl, Nat.le_of_ble_eq_true rfl⟩ ⟨rfl, rfl⟩ ⟨Nat.le_refl _, Nat.le_refl _⟩ rfl (Nat.le_of_ble_eq_true rfl) dX7_valueOf_1 ?_
  rintro w1 ⟨Fw, Iw, Jw, hw_, hokw, hfw, hmow, hIw, hdgw⟩
  subst hw_
  refine Z.lconst (v := 0) hX dX7_valueOf_4 rfl ?_
  refine Z.lstore (lv' := [(4, .long 0), (0, .ref (h 0)), (1, .int (zI wh)), (2, .int (zI u)), (3, .int (zI v))]) hX dX7_valueOf_5 (by decide) rfl ?_
  refine Z.iconst hX dX7_valueOf_7 ?_
  refine Z.istore (lv' := [(6, .int (zI 0)), (4, .long 0), (0, .ref (h 0)), (1, .int (zI wh)), (2, .int (zI u)), (3, .int (zI v))]) hX dX7_valueOf_8 (by decide) rfl ?_
  have key_10 : ∀ (N : Nat), ∀ (k : Int) (x : Int64), (Fw 0 + 1 - k).toNat < N → (hk : 0 ≤ k ∧ k ≤ Fw 0 + 1) → (hx : x = vsum (I 0) wh (zL u) (zL v) (moK (I 0) 5) k.toNat) → Z p l e { frames := 6, cells := 0, slots := 0, locals := 174 } s m args below meth c D A 7 0 0 Q 10 [(6, .int (zI k)), (4, .long x), (1, .int (zI wh)), (2, .int (zI u)), (3, .int (zI v)), (0, .ref (h 0))] [] (rW ce h Fw Iw Jw) := by
    intro N
    induction N with
    | zero => intro k x hm; exact absurd hm (Nat.not_lt_zero _)
    | succ N ih_10 =>
      intro k x hm hk hx
      refine Z.iload hX dX7_valueOf_10 rfl ?_
      refine Z.aload_n hX dX7_valueOf_12 rfl rfl ?_
      refine Z.getf hX 7 0 2 dX7_valueOf_13 rfl rfl inX7 (by decide) fl_X7_70 rfl rfl ?_
      refine Z.icmp_gt hX 63 dX7_valueOf_16 (by decide) ⟨by omega, by omega⟩ ⟨by omega, by omega⟩ ?_ ?_
      · intro c2
        refine Z.lload hX dX7_valueOf_63 rfl ?_
        exact hR _ _ _ _ dX7_valueOf_65 ⟨x, Fw, Iw, Jw, rfl, rfl, hokw, hIw, (by rw [hx]; unfold vOf; congr 1; omega), hfw.1⟩
      · intro c2
        refine Z.lload hX dX7_valueOf_19 rfl ?_
        refine Z.aload_n hX dX7_valueOf_21 rfl rfl ?_
        refine Z.getf hX 7 0 0 dX7_valueOf_22 rfl rfl inX7 (by decide) fl_X7_7 rfl rfl ?_
        refine Z.iconst hX dX7_valueOf_25 ?_
        refine Z.iload_n hX dX7_valueOf_26 rfl rfl ?_
        refine Z.imul hX dX7_valueOf_27 ?_
        refine Z.iload hX dX7_valueOf_28 rfl ?_
        refine Z.iadd hX dX7_valueOf_30 ?_
        refine Z.iaload hX 1 0 dX7_valueOf_31 rfl rfl (by omega) (by omega) (by decide) ?_
        refine Z.topi (fun z3 hz3 kz3 ez3 => ?_)
        refine Z.i2l hX dX7_valueOf_32 ⟨by omega, by omega⟩ ?_
        refine Z.iload_n hX dX7_valueOf_33 rfl rfl ?_
        refine Z.i2l hX dX7_valueOf_34 ⟨by omega, by omega⟩ ?_
        refine Z.iload hX dX7_valueOf_35 rfl ?_
        refine Z.callS0l (As := [.long (zL u), .int (zI k)]) (rest := [.long (zL z3), .long x]) hX (ct_X7_raised l D ce (zL u) k (by omega)) mc_X7_raised ml_X7_134 st_X7_raised ini_X7 nd_X7_raised ⟨Nat.le_of_ble_eq_true rfl, Nat.le_of_ble_eq_true rfl⟩ ⟨rfl, rfl⟩ ⟨Nat.le_refl _, Nat.le_refl _⟩ rfl (Nat.le_of_ble_eq_true rfl) dX7_valueOf_37 ?_
        rintro ra w1 ⟨r05, hr_, hw_, hra⟩
        subst hr_
        refine ⟨hw_, ?_⟩
        refine Z.lmul hX dX7_valueOf_40 ?_
        refine Z.iload_n hX dX7_valueOf_41 rfl rfl ?_
        refine Z.i2l hX dX7_valueOf_42 ⟨by omega, by omega⟩ ?_
        refine Z.aload_n hX dX7_valueOf_43 rfl rfl ?_
        refine Z.getf hX 7 0 2 dX7_valueOf_44 rfl rfl inX7 (by decide) fl_X7_70 rfl rfl ?_
        refine Z.iload hX dX7_valueOf_47 rfl ?_
        refine Z.isub hX dX7_valueOf_49 ?_
        refine Z.callS0l (As := [.long (zL v), .int (zI ((Fw 0) - k))]) (rest := [.long ((zL z3) * ra), .long x]) hX (ct_X7_raised l D ce (zL v) ((Fw 0) - k) (by omega)) mc_X7_raised ml_X7_134 st_X7_raised ini_X7 nd_X7_raised ⟨Nat.le_of_ble_eq_true rfl, Nat.le_of_ble_eq_true rfl⟩ ⟨rfl, rfl⟩ ⟨Nat.le_refl _, Nat.le_refl _⟩ rfl (Nat.le_of_ble_eq_true rfl) dX7_valueOf_50 ?_
        rintro rb w1 ⟨r07, hr_, hw_, hrb⟩
        subst hr_
        refine ⟨hw_, ?_⟩
        refine Z.lmul hX dX7_valueOf_53 ?_
        refine Z.ladd hX dX7_valueOf_54 ?_
        refine Z.lstore (lv' := [(4, .long (x + (((zL z3) * ra) * rb))), (6, .int (zI k)), (1, .int (zI wh)), (2, .int (zI u)), (3, .int (zI v)), (0, .ref (h 0))]) hX dX7_valueOf_55 (by decide) rfl ?_
        refine Z.iinc (lv' := [(6, .int (zI (k + 1))), (4, .long (x + (((zL z3) * ra) * rb))), (1, .int (zI wh)), (2, .int (zI u)), (3, .int (zI v)), (0, .ref (h 0))]) hX dX7_valueOf_57 rfl (by decide) rfl ?_
        refine Z.goto hX 10 dX7_valueOf_60 (by decide) ?_
        refine Z.pick [0, 1, 2, 3, 4, 5] rfl ?_
        exact ih_10 _ _ (by omega) (by omega) (vsum_s hk.1 hx (by rw [← hIw]; assumption) ⟨by assumption, by assumption⟩ hra (by rw [hrb, hmow]))
  refine Z.pick [0, 1, 3, 4, 5, 2] rfl ?_
  exact key_10 _ _ _ (Nat.lt_succ_self _) (by omega) rfl

