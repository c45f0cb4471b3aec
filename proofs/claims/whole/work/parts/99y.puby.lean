def FOL (P : Prop) (w : Int64) (z : Int) : Prop := (P ∧ ¬ w = 0 → z = 1) ∧ (¬ (P ∧ ¬ w = 0) → z = -2)
theorem fo_has {F : Nat → Int} {I : Nat → Nat → Int32} {J : Nat → Nat → Int64} {z : Int} (h : HT F I J) (e : I 1 (0 : Int).toNat = zI z) (b1 : -2147483648 ≤ z) (b2 : z < 2147483648) : (z = 0 → ¬ HS (fP (J 0)) (F 1)) ∧ (¬ z = 0 → HS (fP (J 0)) (F 1)) := by
  constructor
  · intro z0 hs
    have h1 := (h.1 hs).1
    have e : I 1 0 = zI z := e
    rw [h1, z0] at e
    exact absurd e (by decide)
  · intro z0
    apply Classical.byContradiction
    intro hs
    have h1 := h.2 hs
    have e : I 1 0 = zI z := e
    rw [h1] at e
    exact z0 ((zI_eq ⟨by decide, by decide⟩ ⟨b1, b2⟩).mp (show zI 0 = zI z from e)).symm
theorem HS_c {f f' : Nat → Nat → Int64} {n n' : Int} (h : ∀ a, a < 3 → ti (f a) = ti (f' a)) (hn : n = n') (hs : HS f n) : HS f' n' := by
  unfold HS at *
  rw [← h 0 (by decide), ← h 1 (by decide), ← h 2 (by decide), ← hn]
  exact hs
theorem foK_c {f f' : Nat → Int64} (h : ∀ k, k < 15 → f k = f' k) : ∀ N : Nat, N ≤ 5 → foK f N = foK f' N
  | 0, _ => rfl
  | N + 1, hN => by
    show (if f N ≠ 0 ∨ f (5 + N) ≠ 0 ∨ f (10 + N) ≠ 0 then (N : Int) else foK f N) = (if f' N ≠ 0 ∨ f' (5 + N) ≠ 0 ∨ f' (10 + N) ≠ 0 then (N : Int) else foK f' N)
    rw [h N (by omega), h (5 + N) (by omega), h (10 + N) (by omega), foK_c h N (by omega)]
theorem HS_uq {r : Nat → Int32} {F F' : Nat → Int} {f f' : Nat → Int64} (h1 : FQ r F f) (h2 : FQ r F' f') (hs : HS (fP f) (F 1)) : HS (fP f') (F' 1) := by
  have e := FRs_uq (fun _ _ _ _ => rfl) h1.1 h2.1
  have ee : ∀ k, k < 15 → f k = f' k := fun k hk => by
    have := e (k / 5) (by omega) (k % 5 : Nat) (by omega) (by omega)
    rw [Int.toNat_natCast] at this
    have t : f (5 * (k / 5) + k % 5) = f' (5 * (k / 5) + k % 5) := this
    rw [show 5 * (k / 5) + k % 5 = k by omega] at t
    exact t
  refine HS_c (fun a ha => ti_ext (fun j x y => e a ha j x (by omega))) ?_ hs
  rw [h1.2, h2.2, foK_c ee 5 (Nat.le_refl _)]
set_option maxHeartbeats 4000000 in
set_option maxRecDepth 100000 in
theorem ct_X7_degree_y (l : Launch) (D : va_G) (ce : Nat → ClassId) (h : Nat → Nat) (F : Nat → Int) (I : Nat → Nat → Int32) (J : Nat → Nat → Int64) (what : Int) (hok : rOK F I) (hbr : bR (I 0)) (hri : RI F (I 0) (J 0)) (hti : TI F I J) (hw : -2147483648 ≤ what ∧ what < 2147483648) : Ct l yX7_degree cX7_degree 2 (some .int) { frames := 6, cells := 0, slots := 0, locals := 174 } 0 0 D (TY ce) [.ref (h 0), .int (zI what)] (rW ce h F I J) (QI D (TY ce) (fun r w1 => ∃ z : Int, ∃ F2 : Nat → Int, ∃ I2 : Nat → Nat → Int32, ∃ J2 : Nat → Nat → Int64, r = zI z ∧ w1 = rW ce h F2 I2 J2 ∧ (rOK F2 I2) ∧ (I2 0 = I 0) ∧ (¬ (0 ≤ what ∧ what ≤ 2) → z = -1) ∧ (what = 0 → z = moK (I 0) 5) ∧ (RI F2 (I2 0) (J2 0)) ∧ (TI F2 I2 J2))) := by
  refine Ct.ofI (by decide) (Nat.le_of_ble_eq_true rfl) ?_
  intro p e s m args below meth c A Q hX hnm hR
  refine Z.pick (lv' := [(0, .ref (h 0)), (1, .int (zI what))]) [0, 1] rfl ?_
  refine Z.iload_n hX dX7_degree_0 rfl rfl ?_
  refine Z.if_lt hX 9 dX7_degree_1 (by decide) ⟨by omega, by omega⟩ ?_ ?_
  · intro c1
    refine Z.iconst hX dX7_degree_9 ?_
    exact hR _ _ _ _ dX7_degree_10 ⟨(-1), F, I, J, rfl, rfl, hok, rfl, (fun _ => rfl), (fun q => by omega), hri, hti⟩
  · intro c1
    refine Z.iload_n hX dX7_degree_4 rfl rfl ?_
    refine Z.iconst hX dX7_degree_5 ?_
    refine Z.icmp_le hX 11 dX7_degree_6 (by decide) ⟨by omega, by omega⟩ ⟨by omega, by omega⟩ ?_ ?_
    · intro c2
      refine Z.aload_n hX dX7_degree_11 rfl rfl ?_
      refine Z.callVfv (As := []) (rest := []) hX 7 0 rfl rfl (ct_X7_work_y l D ce h F I J hok hbr hri hti) mc_X7_work ml_X7_130 im_X7_work se_X7_work ini_X7 nd_X7_work ⟨Nat.le_of_ble_eq_true rfl, Nat.le_of_ble_eq_true rfl⟩ ⟨rfl, rfl⟩ ⟨Nat.le_refl _, Nat.le_refl _⟩ rfl (Nat.le_of_ble_eq_true rfl) dX7_degree_12 ?_
      rintro w1 ⟨Fw, Iw, Jw, hw_, hokw, hfw, hmow, hIw, hdgw, hfqw, hhtw⟩
      subst hw_
      have hriw : RI Fw (Iw 0) (Jw 0) := fun _ => by rw [hIw]; exact hfqw
      have htiw : TI Fw Iw Jw := fun _ => hhtw
      refine Z.iload_n hX dX7_degree_15 rfl rfl ?_
      refine Z.if_ne hX 26 dX7_degree_16 (by decide) ⟨by omega, by omega⟩ ?_ ?_
      · intro c4
        refine Z.iload_n hX dX7_degree_26 rfl rfl ?_
        refine Z.iconst hX dX7_degree_27 ?_
        refine Z.icmp_ne hX 38 dX7_degree_28 (by decide) ⟨by omega, by omega⟩ ⟨by omega, by omega⟩ ?_ ?_
        · intro c5
          refine Z.aload_n hX dX7_degree_38 rfl rfl ?_
          refine Z.getf hX 7 0 2 dX7_degree_39 rfl rfl inX7 (by decide) fl_X7_70 rfl rfl ?_
          refine Z.aload_n hX dX7_degree_42 rfl rfl ?_
          refine Z.getf hX 7 0 3 dX7_degree_43 rfl rfl inX7 (by decide) fl_X7_77 rfl rfl ?_
          refine Z.isub hX dX7_degree_46 ?_
          exact hR _ _ _ _ dX7_degree_47 ⟨((Fw 0) - (Fw 1)), Fw, Iw, Jw, rfl, rfl, hokw, hIw, (fun q => by omega), (fun q => by first | omega | exact hmow), hriw, htiw⟩
        · intro c5
          refine Z.aload_n hX dX7_degree_31 rfl rfl ?_
          refine Z.getf hX 7 0 3 dX7_degree_32 rfl rfl inX7 (by decide) fl_X7_77 rfl rfl ?_
          refine Z.goto hX 47 dX7_degree_35 (by decide) ?_
          exact hR _ _ _ _ dX7_degree_47 ⟨(Fw 1), Fw, Iw, Jw, rfl, rfl, hokw, hIw, (fun q => by omega), (fun q => by first | omega | exact hmow), hriw, htiw⟩
      · intro c4
        refine Z.aload_n hX dX7_degree_19 rfl rfl ?_
        refine Z.getf hX 7 0 2 dX7_degree_20 rfl rfl inX7 (by decide) fl_X7_70 rfl rfl ?_
        refine Z.goto hX 47 dX7_degree_23 (by decide) ?_
        exact hR _ _ _ _ dX7_degree_47 ⟨(Fw 0), Fw, Iw, Jw, rfl, rfl, hokw, hIw, (fun q => by omega), (fun q => by first | omega | exact hmow), hriw, htiw⟩
    · intro c2
      refine Z.iconst hX dX7_degree_9 ?_
      exact hR _ _ _ _ dX7_degree_10 ⟨(-1), F, I, J, rfl, rfl, hok, rfl, (fun _ => rfl), (fun q => by omega), hri, hti⟩

set_option maxHeartbeats 4000000 in
set_option maxRecDepth 100000 in
theorem ct_X7_freed_y (l : Launch) (D : va_G) (ce : Nat → ClassId) (h : Nat → Nat) (F : Nat → Int) (I : Nat → Nat → Int32) (J : Nat → Nat → Int64) (wh i : Int) (hok : rOK F I) (hbr : bR (I 0)) (hri : RI F (I 0) (J 0)) (hti : TI F I J) (hw : -2147483648 ≤ wh ∧ wh < 2147483648) (hi : -2147483648 ≤ i ∧ i < 2147483648) : Ct l yX7_freed cX7_freed 3 (some .int) { frames := 6, cells := 0, slots := 0, locals := 174 } 0 0 D (TY ce) [.ref (h 0), .int (zI wh), .int (zI i)] (rW ce h F I J) (QI D (TY ce) (fun r w1 => ∃ z : Int, ∃ F2 : Nat → Int, ∃ I2 : Nat → Nat → Int32, ∃ J2 : Nat → Nat → Int64, r = zI z ∧ w1 = rW ce h F2 I2 J2 ∧ (rOK F2 I2) ∧ (I2 0 = I 0) ∧ (¬ (0 ≤ wh ∧ wh ≤ 2 ∧ 0 ≤ i ∧ i ≤ 4) → z = -1000000) ∧ (RI F2 (I2 0) (J2 0)) ∧ (TI F2 I2 J2))) := by
  refine Ct.ofI (by decide) (Nat.le_of_ble_eq_true rfl) ?_
  intro p e s m args below meth c A Q hX hnm hR
  refine Z.pick (lv' := [(0, .ref (h 0)), (1, .int (zI wh)), (2, .int (zI i))]) [0, 1, 2] rfl ?_
  refine Z.iload_n hX dX7_freed_0 rfl rfl ?_
  refine Z.if_lt hX 18 dX7_freed_1 (by decide) ⟨by omega, by omega⟩ ?_ ?_
  · intro c1
    refine Z.ldc hX (-1000000) dX7_freed_18 co_X7_133 rfl ?_
    exact hR _ _ _ _ dX7_freed_20 ⟨((-1000000)), F, I, J, rfl, rfl, hok, rfl, (fun _ => rfl), hri, hti⟩
  · intro c1
    refine Z.iload_n hX dX7_freed_4 rfl rfl ?_
    refine Z.iconst hX dX7_freed_5 ?_
    refine Z.icmp_gt hX 18 dX7_freed_6 (by decide) ⟨by omega, by omega⟩ ⟨by omega, by omega⟩ ?_ ?_
    · intro c2
      refine Z.ldc hX (-1000000) dX7_freed_18 co_X7_133 rfl ?_
      exact hR _ _ _ _ dX7_freed_20 ⟨((-1000000)), F, I, J, rfl, rfl, hok, rfl, (fun _ => rfl), hri, hti⟩
    · intro c2
      refine Z.iload_n hX dX7_freed_9 rfl rfl ?_
      refine Z.if_lt hX 18 dX7_freed_10 (by decide) ⟨by omega, by omega⟩ ?_ ?_
      · intro c3
        refine Z.ldc hX (-1000000) dX7_freed_18 co_X7_133 rfl ?_
        exact hR _ _ _ _ dX7_freed_20 ⟨((-1000000)), F, I, J, rfl, rfl, hok, rfl, (fun _ => rfl), hri, hti⟩
      · intro c3
        refine Z.iload_n hX dX7_freed_13 rfl rfl ?_
        refine Z.iconst hX dX7_freed_14 ?_
        refine Z.icmp_le hX 21 dX7_freed_15 (by decide) ⟨by omega, by omega⟩ ⟨by omega, by omega⟩ ?_ ?_
        · intro c4
          refine Z.aload_n hX dX7_freed_21 rfl rfl ?_
          refine Z.callVfv (As := []) (rest := []) hX 7 0 rfl rfl (ct_X7_work_y l D ce h F I J hok hbr hri hti) mc_X7_work ml_X7_130 im_X7_work se_X7_work ini_X7 nd_X7_work ⟨Nat.le_of_ble_eq_true rfl, Nat.le_of_ble_eq_true rfl⟩ ⟨rfl, rfl⟩ ⟨Nat.le_refl _, Nat.le_refl _⟩ rfl (Nat.le_of_ble_eq_true rfl) dX7_freed_22 ?_
          rintro w1 ⟨Fw, Iw, Jw, hw_, hokw, hfw, hmow, hIw, hdgw, hfqw, hhtw⟩
          subst hw_
          have hriw : RI Fw (Iw 0) (Jw 0) := fun _ => by rw [hIw]; exact hfqw
          have htiw : TI Fw Iw Jw := fun _ => hhtw
          refine Z.aload_n hX dX7_freed_25 rfl rfl ?_
          refine Z.getf hX 7 0 1 dX7_freed_26 rfl rfl inX7 (by decide) fl_X7_13 rfl rfl ?_
          refine Z.iconst hX dX7_freed_29 ?_
          refine Z.iload_n hX dX7_freed_30 rfl rfl ?_
          refine Z.imul hX dX7_freed_31 ?_
          refine Z.iload_n hX dX7_freed_32 rfl rfl ?_
          refine Z.iadd hX dX7_freed_33 ?_
          refine Z.laload hX 2 1 dX7_freed_34 rfl rfl (by omega) (by omega) (by decide) ?_
          refine Z.l2i hX dX7_freed_35 ?_
          refine Z.topi (fun z6 hz6 kz6 ez6 => ?_)
          exact hR _ _ _ _ dX7_freed_36 ⟨z6, Fw, Iw, Jw, rfl, rfl, hokw, hIw, (fun q => by omega), hriw, htiw⟩
        · intro c4
          refine Z.ldc hX (-1000000) dX7_freed_18 co_X7_133 rfl ?_
          exact hR _ _ _ _ dX7_freed_20 ⟨((-1000000)), F, I, J, rfl, rfl, hok, rfl, (fun _ => rfl), hri, hti⟩

set_option maxHeartbeats 4000000 in
set_option maxRecDepth 100000 in
theorem ct_X7_valueOf_y (l : Launch) (D : va_G) (ce : Nat → ClassId) (h : Nat → Nat) (F : Nat → Int) (I : Nat → Nat → Int32) (J : Nat → Nat → Int64) (wh u v : Int) (hok : rOK F I) (hbr : bR (I 0)) (hri : RI F (I 0) (J 0)) (hti : TI F I J) (hw : 0 ≤ wh ∧ wh ≤ 2) (hu : -2147483648 ≤ u ∧ u < 2147483648) (hv : -2147483648 ≤ v ∧ v < 2147483648) : Ct l yX7_valueOf cX7_valueOf 7 (some .long) { frames := 6, cells := 0, slots := 0, locals := 174 } 0 0 D (TY ce) [.ref (h 0), .int (zI wh), .int (zI u), .int (zI v)] (rW ce h F I J) (QL D (TY ce) (fun r w1 => ∃ r0 : Int64, ∃ F2 : Nat → Int, ∃ I2 : Nat → Nat → Int32, ∃ J2 : Nat → Nat → Int64, r = r0 ∧ w1 = rW ce h F2 I2 J2 ∧ (rOK F2 I2) ∧ (I2 0 = I 0) ∧ (r0 = vOf (I 0) wh u v) ∧ (F2 2 = 1) ∧ (RI F2 (I2 0) (J2 0)) ∧ (TI F2 I2 J2))) := by
  refine Ct.ofL (by decide) (Nat.le_of_ble_eq_true rfl) ?_
  intro p e s m args below meth c A Q hX hnm hR
  refine Z.pick (lv' := [(0, .ref (h 0)), (1, .int (zI wh)), (2, .int (zI u)), (3, .int (zI v))]) [0, 1, 2, 3] rfl ?_
  refine Z.aload_n hX dX7_valueOf_0 rfl rfl ?_
  refine Z.callVfv (As := []) (rest := []) hX 7 0 rfl rfl (ct_X7_work_y l D ce h F I J hok hbr hri hti) mc_X7_work ml_X7_130 im_X7_work se_X7_work ini_X7 nd_X7_work ⟨Nat.le_of_ble_eq_true rfl, Nat.le_of_ble_eq_true rfl⟩ ⟨rfl, rfl⟩ ⟨Nat.le_refl _, Nat.le_refl _⟩ rfl (Nat.le_of_ble_eq_true rfl) dX7_valueOf_1 ?_
  rintro w1 ⟨Fw, Iw, Jw, hw_, hokw, hfw, hmow, hIw, hdgw, hfqw, hhtw⟩
  subst hw_
  have hriw : RI Fw (Iw 0) (Jw 0) := fun _ => by rw [hIw]; exact hfqw
  have htiw : TI Fw Iw Jw := fun _ => hhtw
  refine Z.lconst (v := 0) hX dX7_valueOf_4 rfl ?_
  refine Z.lstore (lv' := [(4, .long 0), (0, .ref (h 0)), (1, .int (zI wh)), (2, .int (zI u)), (3, .int (zI v))]) hX dX7_valueOf_5 (by decide) rfl ?_
  refine Z.iconst hX dX7_valueOf_7 ?_
  refine Z.istore (lv' := [(6, .int (zI 0)), (4, .long 0), (0, .ref (h 0)), (1, .int (zI wh)), (2, .int (zI u)), (3, .int (zI v))]) hX dX7_valueOf_8 (by decide) rfl ?_
  have key_10 : ∀ (N : Nat), ∀ (k : Int) (x : Int64), (Fw 0 + 1 - k).toNat < N → (hk : 0 ≤ k ∧ k ≤ Fw 0 + 1) → (hx : x = vsum (I 0) wh (zL u) (zL v) (moK (I 0) 5) k.toNat) → Z p l e { frames := 6, cells := 0, slots := 0, locals := 174 } s m args below meth c D A 7 0 0 Q 10 [(6, .int (zI k)), (4, .long x), (1, .int (zI wh)), (2, .int (zI u)), (3, .int (zI v)), (0, .ref (h 0))] [] (rW ce h Fw Iw Jw) := by
    intro N
    induction N with
    | zero => intro k x hm; exact absurd hm (Nat.not_lt_zero _)
    | succ N ih_10 =>
      intro k x hm hk hx
      refine Z.iload hX dX7_valueOf_10 rfl ?_
      refine Z.aload_n hX dX7_valueOf_12 rfl rfl ?_
      refine Z.getf hX 7 0 2 dX7_valueOf_13 rfl rfl inX7 (by decide) fl_X7_70 rfl rfl ?_
      refine Z.icmp_gt hX 63 dX7_valueOf_16 (by decide) ⟨by omega, by omega⟩ ⟨by omega, by omega⟩ ?_ ?_
      · intro c2
        refine Z.lload hX dX7_valueOf_63 rfl ?_
        exact hR _ _ _ _ dX7_valueOf_65 ⟨x, Fw, Iw, Jw, rfl, rfl, hokw, hIw, (by rw [hx]; unfold vOf; congr 1; omega), hfw.1, hriw, htiw⟩
      · intro c2
        refine Z.lload hX dX7_valueOf_19 rfl ?_
        refine Z.aload_n hX dX7_valueOf_21 rfl rfl ?_
        refine Z.getf hX 7 0 0 dX7_valueOf_22 rfl rfl inX7 (by decide) fl_X7_7 rfl rfl ?_
        refine Z.iconst hX dX7_valueOf_25 ?_
        refine Z.iload_n hX dX7_valueOf_26 rfl rfl ?_
        refine Z.imul hX dX7_valueOf_27 ?_
        refine Z.iload hX dX7_valueOf_28 rfl ?_
        refine Z.iadd hX dX7_valueOf_30 ?_
        refine Z.iaload hX 1 0 dX7_valueOf_31 rfl rfl (by omega) (by omega) (by decide) ?_
        refine Z.topi (fun z3 hz3 kz3 ez3 => ?_)
        refine Z.i2l hX dX7_valueOf_32 ⟨by omega, by omega⟩ ?_
        refine Z.iload_n hX dX7_valueOf_33 rfl rfl ?_
        refine Z.i2l hX dX7_valueOf_34 ⟨by omega, by omega⟩ ?_
        refine Z.iload hX dX7_valueOf_35 rfl ?_
        refine Z.callS0l (As := [.long (zL u), .int (zI k)]) (rest := [.long (zL z3), .long x]) hX (ct_X7_raised l D ce (zL u) k (by omega)) mc_X7_raised ml_X7_134 st_X7_raised ini_X7 nd_X7_raised ⟨Nat.le_of_ble_eq_true rfl, Nat.le_of_ble_eq_true rfl⟩ ⟨rfl, rfl⟩ ⟨Nat.le_refl _, Nat.le_refl _⟩ rfl (Nat.le_of_ble_eq_true rfl) dX7_valueOf_37 ?_
        rintro ra w1 ⟨r05, hr_, hw_, hra⟩
        subst hr_
        refine ⟨hw_, ?_⟩
        refine Z.lmul hX dX7_valueOf_40 ?_
        refine Z.iload_n hX dX7_valueOf_41 rfl rfl ?_
        refine Z.i2l hX dX7_valueOf_42 ⟨by omega, by omega⟩ ?_
        refine Z.aload_n hX dX7_valueOf_43 rfl rfl ?_
        refine Z.getf hX 7 0 2 dX7_valueOf_44 rfl rfl inX7 (by decide) fl_X7_70 rfl rfl ?_
        refine Z.iload hX dX7_valueOf_47 rfl ?_
        refine Z.isub hX dX7_valueOf_49 ?_
        refine Z.callS0l (As := [.long (zL v), .int (zI ((Fw 0) - k))]) (rest := [.long ((zL z3) * ra), .long x]) hX (ct_X7_raised l D ce (zL v) ((Fw 0) - k) (by omega)) mc_X7_raised ml_X7_134 st_X7_raised ini_X7 nd_X7_raised ⟨Nat.le_of_ble_eq_true rfl, Nat.le_of_ble_eq_true rfl⟩ ⟨rfl, rfl⟩ ⟨Nat.le_refl _, Nat.le_refl _⟩ rfl (Nat.le_of_ble_eq_true rfl) dX7_valueOf_50 ?_
        rintro rb w1 ⟨r07, hr_, hw_, hrb⟩
        subst hr_
        refine ⟨hw_, ?_⟩
        refine Z.lmul hX dX7_valueOf_53 ?_
        refine Z.ladd hX dX7_valueOf_54 ?_
        refine Z.lstore (lv' := [(4, .long (x + (((zL z3) * ra) * rb))), (6, .int (zI k)), (1, .int (zI wh)), (2, .int (zI u)), (3, .int (zI v)), (0, .ref (h 0))]) hX dX7_valueOf_55 (by decide) rfl ?_
        refine Z.iinc (lv' := [(6, .int (zI (k + 1))), (4, .long (x + (((zL z3) * ra) * rb))), (1, .int (zI wh)), (2, .int (zI u)), (3, .int (zI v)), (0, .ref (h 0))]) hX dX7_valueOf_57 rfl (by decide) rfl ?_
        refine Z.goto hX 10 dX7_valueOf_60 (by decide) ?_
        refine Z.pick [0, 1, 2, 3, 4, 5] rfl ?_
        exact ih_10 _ _ (by omega) (by omega) (vsum_s hk.1 hx (by rw [← hIw]; assumption) ⟨by assumption, by assumption⟩ hra (by rw [hrb, hmow]))
  refine Z.pick [0, 1, 3, 4, 5, 2] rfl ?_
  exact key_10 _ _ _ (Nat.lt_succ_self _) (by omega) rfl

set_option maxHeartbeats 4000000 in
set_option maxRecDepth 100000 in
theorem ct_X7_value_y (l : Launch) (D : va_G) (ce : Nat → ClassId) (h : Nat → Nat) (F : Nat → Int) (I : Nat → Nat → Int32) (J : Nat → Nat → Int64) (u v part : Int) (hok : rOK F I) (hbr : bR (I 0)) (hri : RI F (I 0) (J 0)) (hti : TI F I J) (hu : -2147483648 ≤ u ∧ u < 2147483648) (hv : -2147483648 ≤ v ∧ v < 2147483648) (hp : -2147483648 ≤ part ∧ part < 2147483648) : Ct l yX7_value cX7_value 6 (some .int) { frames := 7, cells := 0, slots := 0, locals := 200 } 0 0 D (TY ce) [.ref (h 0), .int (zI u), .int (zI v), .int (zI part)] (rW ce h F I J) (QI D (TY ce) (fun r w1 => ∃ z : Int, ∃ F2 : Nat → Int, ∃ I2 : Nat → Nat → Int32, ∃ J2 : Nat → Nat → Int64, r = zI z ∧ w1 = rW ce h F2 I2 J2 ∧ (rOK F2 I2) ∧ (I2 0 = I 0) ∧ (¬ ((-9 ≤ u ∧ u ≤ 9 ∧ -9 ≤ v ∧ v ≤ 9 ∧ ¬ (u = 0 ∧ v = 0)) ∧ 0 ≤ part ∧ part ≤ 2) → z = -1000000) ∧ (((-9 ≤ u ∧ u ≤ 9 ∧ -9 ≤ v ∧ v ≤ 9 ∧ ¬ (u = 0 ∧ v = 0)) ∧ 0 ≤ part ∧ part ≤ 2) → ∃ c1 c2 : Int64, cgE (vOf (I 0) 1 u v) (vOf (I 0) 2 u v) c1 ∧ cgE (vOf (I 0) 0 u v) c1 c2 ∧ ((c2 = 0 ∧ z = 0) ∨ (¬ c2 = 0 ∧ (vOf (I 0) part u v / c2).toInt32 = zI z))) ∧ (RI F2 (I2 0) (J2 0)) ∧ (TI F2 I2 J2))) := by
  refine Ct.ofI (by decide) (Nat.le_of_ble_eq_true rfl) ?_
  intro p e s m args below meth c A Q hX hnm hR
  refine Z.pick (lv' := [(0, .ref (h 0)), (1, .int (zI u)), (2, .int (zI v)), (3, .int (zI part))]) [0, 1, 2, 3] rfl ?_
  refine Z.iload_n hX dX7_value_0 rfl rfl ?_
  refine Z.iload_n hX dX7_value_1 rfl rfl ?_
  refine Z.callS0i (As := [.int (zI u), .int (zI v)]) (rest := []) hX (ct_X7_isParameter l D ce u v (by omega) (by omega)) mc_X7_isParameter ml_X7_137 st_X7_isParameter ini_X7 nd_X7_isParameter ⟨Nat.le_of_ble_eq_true rfl, Nat.le_of_ble_eq_true rfl⟩ ⟨rfl, rfl⟩ ⟨Nat.le_refl _, Nat.le_refl _⟩ rfl (Nat.le_of_ble_eq_true rfl) dX7_value_2 ?_
  rintro r_1 w1 ⟨zp, hr_, hw_, hzp⟩
  subst hr_
  refine ⟨hw_, ?_⟩
  refine Z.if_eq hX 17 dX7_value_5 (by decide) ⟨by omega, by omega⟩ ?_ ?_
  · intro c2
    refine Z.ldc hX (-1000000) dX7_value_17 co_X7_133 rfl ?_
    exact hR _ _ _ _ dX7_value_19 ⟨((-1000000)), F, I, J, rfl, rfl, hok, rfl, (fun _ => rfl), (fun q => by omega), hri, hti⟩
  · intro c2
    refine Z.iload_n hX dX7_value_8 rfl rfl ?_
    refine Z.if_lt hX 17 dX7_value_9 (by decide) ⟨by omega, by omega⟩ ?_ ?_
    · intro c3
      refine Z.ldc hX (-1000000) dX7_value_17 co_X7_133 rfl ?_
      exact hR _ _ _ _ dX7_value_19 ⟨((-1000000)), F, I, J, rfl, rfl, hok, rfl, (fun _ => rfl), (fun q => by omega), hri, hti⟩
    · intro c3
      refine Z.iload_n hX dX7_value_12 rfl rfl ?_
      refine Z.iconst hX dX7_value_13 ?_
      refine Z.icmp_le hX 20 dX7_value_14 (by decide) ⟨by omega, by omega⟩ ⟨by omega, by omega⟩ ?_ ?_
      · intro c4
        refine Z.aload_n hX dX7_value_20 rfl rfl ?_
        refine Z.iconst hX dX7_value_21 ?_
        refine Z.iload_n hX dX7_value_22 rfl rfl ?_
        refine Z.iload_n hX dX7_value_23 rfl rfl ?_
        refine Z.callVfl (As := [.int (zI 0), .int (zI u), .int (zI v)]) (rest := []) hX 7 0 rfl rfl (ct_X7_valueOf_y l D ce h F I J 0 u v hok hbr hri hti (by omega) hu hv) mc_X7_valueOf ml_X7_140 im_X7_valueOf se_X7_valueOf ini_X7 nd_X7_valueOf ⟨Nat.le_of_ble_eq_true rfl, Nat.le_of_ble_eq_true rfl⟩ ⟨rfl, rfl⟩ ⟨Nat.le_refl _, Nat.le_refl _⟩ rfl (Nat.le_of_ble_eq_true rfl) dX7_value_24 ?_
        rintro xa w1 ⟨r06, Fa, Ia, Ja, hr_, hw_, hoka, hIa, hxa, hka, hria, htia⟩
        subst hr_
        subst hw_
        refine Z.aload_n hX dX7_value_27 rfl rfl ?_
        refine Z.iconst hX dX7_value_28 ?_
        refine Z.iload_n hX dX7_value_29 rfl rfl ?_
        refine Z.iload_n hX dX7_value_30 rfl rfl ?_
        refine Z.callVfl (As := [.int (zI 1), .int (zI u), .int (zI v)]) (rest := [.long xa]) hX 7 0 rfl rfl (ct_X7_valueOf_y l D ce h Fa Ia Ja 1 u v hoka (by rw [hIa]; exact hbr) hria htia (by omega) hu hv) mc_X7_valueOf ml_X7_140 im_X7_valueOf se_X7_valueOf ini_X7 nd_X7_valueOf ⟨Nat.le_of_ble_eq_true rfl, Nat.le_of_ble_eq_true rfl⟩ ⟨rfl, rfl⟩ ⟨Nat.le_refl _, Nat.le_refl _⟩ rfl (Nat.le_of_ble_eq_true rfl) dX7_value_31 ?_
        rintro xb w1 ⟨r08, Fb, Ib, Jb, hr_, hw_, hokb, hIb, hxb, hkb, hrib, htib⟩
        subst hr_
        subst hw_
        rw [hIa] at hxb
        refine Z.aload_n hX dX7_value_34 rfl rfl ?_
        refine Z.iconst hX dX7_value_35 ?_
        refine Z.iload_n hX dX7_value_36 rfl rfl ?_
        refine Z.iload_n hX dX7_value_37 rfl rfl ?_
        refine Z.callVfl (As := [.int (zI 2), .int (zI u), .int (zI v)]) (rest := [.long xb, .long xa]) hX 7 0 rfl rfl (ct_X7_valueOf_y l D ce h Fb Ib Jb 2 u v hokb (by rw [hIb, hIa]; exact hbr) hrib htib (by omega) hu hv) mc_X7_valueOf ml_X7_140 im_X7_valueOf se_X7_valueOf ini_X7 nd_X7_valueOf ⟨Nat.le_of_ble_eq_true rfl, Nat.le_of_ble_eq_true rfl⟩ ⟨rfl, rfl⟩ ⟨Nat.le_refl _, Nat.le_refl _⟩ rfl (Nat.le_of_ble_eq_true rfl) dX7_value_38 ?_
        rintro xd w1 ⟨r010, Fd, Id, Jd, hr_, hw_, hokd, hId, hxd, hkd, hrid, htid⟩
        subst hr_
        subst hw_
        rw [hIb, hIa] at hxd
        refine Z.callS0l (As := [.long xb, .long xd]) (rest := [.long xa]) hX (ct_X7_common l D ce xb xd ) mc_X7_common ml_X7_58 st_X7_common ini_X7 nd_X7_common ⟨Nat.le_of_ble_eq_true rfl, Nat.le_of_ble_eq_true rfl⟩ ⟨rfl, rfl⟩ ⟨Nat.le_refl _, Nat.le_refl _⟩ rfl (Nat.le_of_ble_eq_true rfl) dX7_value_41 ?_
        rintro c1 w1 ⟨r012, hr_, hw_, hc1⟩
        subst hr_
        refine ⟨hw_, ?_⟩
        refine Z.callS0l (As := [.long xa, .long c1]) (rest := []) hX (ct_X7_common l D ce xa c1 ) mc_X7_common ml_X7_58 st_X7_common ini_X7 nd_X7_common ⟨Nat.le_of_ble_eq_true rfl, Nat.le_of_ble_eq_true rfl⟩ ⟨rfl, rfl⟩ ⟨Nat.le_refl _, Nat.le_refl _⟩ rfl (Nat.le_of_ble_eq_true rfl) dX7_value_44 ?_
        rintro c2 w1 ⟨r014, hr_, hw_, hc2⟩
        subst hr_
        refine ⟨hw_, ?_⟩
        refine Z.lstore (lv' := [(4, .long c2), (0, .ref (h 0)), (1, .int (zI u)), (2, .int (zI v)), (3, .int (zI part))]) hX dX7_value_47 (by decide) rfl ?_
        refine Z.lload hX dX7_value_49 rfl ?_
        refine Z.lconst (v := 0) hX dX7_value_51 rfl ?_
        refine Z.lcmp_ne hX 60 dX7_value_52 dX7_value_53 (by decide) ?_ ?_
        · intro c15
          refine Z.aload_n hX dX7_value_60 rfl rfl ?_
          refine Z.iload_n hX dX7_value_61 rfl rfl ?_
          refine Z.iload_n hX dX7_value_62 rfl rfl ?_
          refine Z.iload_n hX dX7_value_63 rfl rfl ?_
          refine Z.callVfl (As := [.int (zI part), .int (zI u), .int (zI v)]) (rest := []) hX 7 0 rfl rfl (ct_X7_valueOf_y l D ce h Fd Id Jd part u v hokd (by rw [hId, hIb, hIa]; exact hbr) hrid htid (by omega) hu hv) mc_X7_valueOf ml_X7_140 im_X7_valueOf se_X7_valueOf ini_X7 nd_X7_valueOf ⟨Nat.le_of_ble_eq_true rfl, Nat.le_of_ble_eq_true rfl⟩ ⟨rfl, rfl⟩ ⟨Nat.le_refl _, Nat.le_refl _⟩ rfl (Nat.le_of_ble_eq_true rfl) dX7_value_64 ?_
          rintro xg w1 ⟨r017, Fg, Ig, Jg, hr_, hw_, hokg, hIg, hxg, hkg, hrig, htig⟩
          subst hr_
          subst hw_
          rw [hId, hIb, hIa] at hxg
          refine Z.lload hX dX7_value_67 rfl ?_
          refine Z.ldiv hX dX7_value_69 (by assumption) ?_
          refine Z.l2i hX dX7_value_70 ?_
          refine Z.topi (fun z18 hz18 kz18 ez18 => ?_)
          exact hR _ _ _ _ dX7_value_71 ⟨z18, Fg, Ig, Jg, rfl, rfl, hokg, (hIg.trans (hId.trans (hIb.trans hIa))), (fun q => absurd (by omega) q), (fun _ => ⟨c1, c2, by rw [← hxb, ← hxd]; exact hc1, by rw [← hxa]; exact hc2, Or.inr ⟨by assumption, by rw [← hxg]; assumption⟩⟩), hrig, htig⟩
        · intro c15
          refine Z.iconst hX dX7_value_56 ?_
          refine Z.goto hX 71 dX7_value_57 (by decide) ?_
          exact hR _ _ _ _ dX7_value_71 ⟨0, Fd, Id, Jd, rfl, rfl, hokd, (hId.trans (hIb.trans hIa)), (fun q => absurd (by omega) q), (fun _ => ⟨c1, c2, by rw [← hxb, ← hxd]; exact hc1, by rw [← hxa]; exact hc2, Or.inl ⟨by assumption, rfl⟩⟩), hrid, htid⟩
      · intro c4
        refine Z.ldc hX (-1000000) dX7_value_17 co_X7_133 rfl ?_
        exact hR _ _ _ _ dX7_value_19 ⟨((-1000000)), F, I, J, rfl, rfl, hok, rfl, (fun _ => rfl), (fun q => by omega), hri, hti⟩

set_option maxHeartbeats 4000000 in
set_option maxRecDepth 100000 in
theorem ct_X7_at_y (l : Launch) (D : va_G) (ce : Nat → ClassId) (h : Nat → Nat) (F : Nat → Int) (I : Nat → Nat → Int32) (J : Nat → Nat → Int64) (u v pp qq ss : Int) (hok : rOK F I) (hbr : bR (I 0)) (hri : RI F (I 0) (J 0)) (hti : TI F I J) (hu : -2147483648 ≤ u ∧ u < 2147483648) (hv : -2147483648 ≤ v ∧ v < 2147483648) (hp : -2147483648 ≤ pp ∧ pp < 2147483648) (hq : -2147483648 ≤ qq ∧ qq < 2147483648) (hs : -2147483648 ≤ ss ∧ ss < 2147483648) : Ct l yX7_at cX7_at 8 (some .int) { frames := 7, cells := 0, slots := 0, locals := 200 } 0 0 D (TY ce) [.ref (h 0), .int (zI u), .int (zI v), .int (zI pp), .int (zI qq), .int (zI ss)] (rW ce h F I J) (QI D (TY ce) (fun r w1 => ∃ z : Int, ∃ F2 : Nat → Int, ∃ I2 : Nat → Nat → Int32, ∃ J2 : Nat → Nat → Int64, r = zI z ∧ w1 = rW ce h F2 I2 J2 ∧ (rOK F2 I2) ∧ (I2 0 = I 0) ∧ (¬ ((-9 ≤ u ∧ u ≤ 9 ∧ -9 ≤ v ∧ v ≤ 9 ∧ ¬ (u = 0 ∧ v = 0)) ∧ (-20 ≤ pp ∧ pp ≤ 20 ∧ -20 ≤ qq ∧ qq ≤ 20 ∧ 1 ≤ ss ∧ ss ≤ 9)) → z = -9) ∧ (((-9 ≤ u ∧ u ≤ 9 ∧ -9 ≤ v ∧ v ≤ 9 ∧ ¬ (u = 0 ∧ v = 0)) ∧ (-20 ≤ pp ∧ pp ≤ 20 ∧ -20 ≤ qq ∧ qq ≤ 20 ∧ 1 ≤ ss ∧ ss ≤ 9)) → ((z = 1 ∧ (¬ vOf (I 0) 2 u v = 0 ∧ vOf (I 0) 0 u v * zL ss = zL pp * vOf (I 0) 2 u v ∧ vOf (I 0) 1 u v * zL ss = zL qq * vOf (I 0) 2 u v)) ∨ (z = 0 ∧ ¬ (¬ vOf (I 0) 2 u v = 0 ∧ vOf (I 0) 0 u v * zL ss = zL pp * vOf (I 0) 2 u v ∧ vOf (I 0) 1 u v * zL ss = zL qq * vOf (I 0) 2 u v)))) ∧ (RI F2 (I2 0) (J2 0)) ∧ (TI F2 I2 J2))) := by
  refine Ct.ofI (by decide) (Nat.le_of_ble_eq_true rfl) ?_
  intro p e s m args below meth c A Q hX hnm hR
  refine Z.pick (lv' := [(0, .ref (h 0)), (1, .int (zI u)), (2, .int (zI v)), (3, .int (zI pp)), (4, .int (zI qq)), (5, .int (zI ss))]) [0, 1, 2, 3, 4, 5] rfl ?_
  refine Z.iload_n hX dX7_at_0 rfl rfl ?_
  refine Z.iload_n hX dX7_at_1 rfl rfl ?_
  refine Z.callS0i (As := [.int (zI u), .int (zI v)]) (rest := []) hX (ct_X7_isParameter l D ce u v (by omega) (by omega)) mc_X7_isParameter ml_X7_137 st_X7_isParameter ini_X7 nd_X7_isParameter ⟨Nat.le_of_ble_eq_true rfl, Nat.le_of_ble_eq_true rfl⟩ ⟨rfl, rfl⟩ ⟨Nat.le_refl _, Nat.le_refl _⟩ rfl (Nat.le_of_ble_eq_true rfl) dX7_at_2 ?_
  rintro r_1 w1 ⟨zp, hr_, hw_, hzp⟩
  subst hr_
  refine ⟨hw_, ?_⟩
  refine Z.if_eq hX 19 dX7_at_5 (by decide) ⟨by omega, by omega⟩ ?_ ?_
  · intro c2
    refine Z.bipush hX dX7_at_19 (by decide) ?_
    exact hR _ _ _ _ dX7_at_21 ⟨(-9), F, I, J, rfl, rfl, hok, rfl, (fun _ => rfl), (fun q => by omega), hri, hti⟩
  · intro c2
    refine Z.iload_n hX dX7_at_8 rfl rfl ?_
    refine Z.iload hX dX7_at_9 rfl ?_
    refine Z.iload hX dX7_at_11 rfl ?_
    refine Z.callS0i (As := [.int (zI pp), .int (zI qq), .int (zI ss)]) (rest := []) hX (ct_X7_isPlace l D ce pp qq ss (by omega) (by omega) (by omega)) mc_X7_isPlace ml_X7_148 st_X7_isPlace ini_X7 nd_X7_isPlace ⟨Nat.le_of_ble_eq_true rfl, Nat.le_of_ble_eq_true rfl⟩ ⟨rfl, rfl⟩ ⟨Nat.le_refl _, Nat.le_refl _⟩ rfl (Nat.le_of_ble_eq_true rfl) dX7_at_13 ?_
    rintro r_3 w1 ⟨zq, hr_, hw_, hzq⟩
    subst hr_
    refine ⟨hw_, ?_⟩
    refine Z.if_ne hX 22 dX7_at_16 (by decide) ⟨by omega, by omega⟩ ?_ ?_
    · intro c4
      refine Z.aload_n hX dX7_at_22 rfl rfl ?_
      refine Z.iconst hX dX7_at_23 ?_
      refine Z.iload_n hX dX7_at_24 rfl rfl ?_
      refine Z.iload_n hX dX7_at_25 rfl rfl ?_
      refine Z.callVfl (As := [.int (zI 2), .int (zI u), .int (zI v)]) (rest := []) hX 7 0 rfl rfl (ct_X7_valueOf_y l D ce h F I J 2 u v hok hbr hri hti (by omega) hu hv) mc_X7_valueOf ml_X7_140 im_X7_valueOf se_X7_valueOf ini_X7 nd_X7_valueOf ⟨Nat.le_of_ble_eq_true rfl, Nat.le_of_ble_eq_true rfl⟩ ⟨rfl, rfl⟩ ⟨Nat.le_refl _, Nat.le_refl _⟩ rfl (Nat.le_of_ble_eq_true rfl) dX7_at_26 ?_
      rintro xa w1 ⟨r06, Fa, Ia, Ja, hr_, hw_, hoka, hIa, hxa, hka, hria, htia⟩
      subst hr_
      subst hw_
      refine Z.lstore (lv' := [(6, .long xa), (0, .ref (h 0)), (1, .int (zI u)), (2, .int (zI v)), (3, .int (zI pp)), (4, .int (zI qq)), (5, .int (zI ss))]) hX dX7_at_29 (by decide) rfl ?_
      refine Z.lload hX dX7_at_31 rfl ?_
      refine Z.lconst (v := 0) hX dX7_at_33 rfl ?_
      refine Z.lcmp_eq hX 83 dX7_at_34 dX7_at_35 (by decide) ?_ ?_
      · intro c7
        refine Z.iconst hX dX7_at_83 ?_
        exact hR _ _ _ _ dX7_at_84 ⟨0, Fa, Ia, Ja, rfl, rfl, hoka, hIa, (fun q => absurd (by omega) q), (fun _ => Or.inr ⟨rfl, fun q => q.1 (by rw [← hxa]; assumption)⟩), hria, htia⟩
      · intro c7
        refine Z.aload_n hX dX7_at_38 rfl rfl ?_
        refine Z.iconst hX dX7_at_39 ?_
        refine Z.iload_n hX dX7_at_40 rfl rfl ?_
        refine Z.iload_n hX dX7_at_41 rfl rfl ?_
        refine Z.callVfl (As := [.int (zI 0), .int (zI u), .int (zI v)]) (rest := []) hX 7 0 rfl rfl (ct_X7_valueOf_y l D ce h Fa Ia Ja 0 u v hoka (by rw [hIa]; exact hbr) hria htia (by omega) hu hv) mc_X7_valueOf ml_X7_140 im_X7_valueOf se_X7_valueOf ini_X7 nd_X7_valueOf ⟨Nat.le_of_ble_eq_true rfl, Nat.le_of_ble_eq_true rfl⟩ ⟨rfl, rfl⟩ ⟨Nat.le_refl _, Nat.le_refl _⟩ rfl (Nat.le_of_ble_eq_true rfl) dX7_at_42 ?_
        rintro xb w1 ⟨r09, Fb, Ib, Jb, hr_, hw_, hokb, hIb, hxb, hkb, hrib, htib⟩
        subst hr_
        subst hw_
        rw [hIa] at hxb
        refine Z.iload hX dX7_at_45 rfl ?_
        refine Z.i2l hX dX7_at_47 ⟨by omega, by omega⟩ ?_
        refine Z.lmul hX dX7_at_48 ?_
        refine Z.iload_n hX dX7_at_49 rfl rfl ?_
        refine Z.i2l hX dX7_at_50 ⟨by omega, by omega⟩ ?_
        refine Z.lload hX dX7_at_51 rfl ?_
        refine Z.lmul hX dX7_at_53 ?_
        refine Z.lcmp_ne hX 83 dX7_at_54 dX7_at_55 (by decide) ?_ ?_
        · intro c10
          refine Z.iconst hX dX7_at_83 ?_
          exact hR _ _ _ _ dX7_at_84 ⟨0, Fb, Ib, Jb, rfl, rfl, hokb, (hIb.trans hIa), (fun q => absurd (by omega) q), (fun _ => Or.inr ⟨rfl, fun q => by have h2 := q.2.1; rw [← hxa, ← hxb] at h2; exact absurd h2 (by assumption)⟩), hrib, htib⟩
        · intro c10
          refine Z.aload_n hX dX7_at_58 rfl rfl ?_
          refine Z.iconst hX dX7_at_59 ?_
          refine Z.iload_n hX dX7_at_60 rfl rfl ?_
          refine Z.iload_n hX dX7_at_61 rfl rfl ?_
          refine Z.callVfl (As := [.int (zI 1), .int (zI u), .int (zI v)]) (rest := []) hX 7 0 rfl rfl (ct_X7_valueOf_y l D ce h Fb Ib Jb 1 u v hokb (by rw [hIb, hIa]; exact hbr) hrib htib (by omega) hu hv) mc_X7_valueOf ml_X7_140 im_X7_valueOf se_X7_valueOf ini_X7 nd_X7_valueOf ⟨Nat.le_of_ble_eq_true rfl, Nat.le_of_ble_eq_true rfl⟩ ⟨rfl, rfl⟩ ⟨Nat.le_refl _, Nat.le_refl _⟩ rfl (Nat.le_of_ble_eq_true rfl) dX7_at_62 ?_
          rintro xd w1 ⟨r012, Fd, Id, Jd, hr_, hw_, hokd, hId, hxd, hkd, hrid, htid⟩
          subst hr_
          subst hw_
          rw [hIb, hIa] at hxd
          refine Z.iload hX dX7_at_65 rfl ?_
          refine Z.i2l hX dX7_at_67 ⟨by omega, by omega⟩ ?_
          refine Z.lmul hX dX7_at_68 ?_
          refine Z.iload hX dX7_at_69 rfl ?_
          refine Z.i2l hX dX7_at_71 ⟨by omega, by omega⟩ ?_
          refine Z.lload hX dX7_at_72 rfl ?_
          refine Z.lmul hX dX7_at_74 ?_
          refine Z.lcmp_ne hX 83 dX7_at_75 dX7_at_76 (by decide) ?_ ?_
          · intro c13
            refine Z.iconst hX dX7_at_83 ?_
            exact hR _ _ _ _ dX7_at_84 ⟨0, Fd, Id, Jd, rfl, rfl, hokd, (hId.trans (hIb.trans hIa)), (fun q => absurd (by omega) q), (fun _ => Or.inr ⟨rfl, fun q => by have h2 := q.2.2; rw [← hxa, ← hxd] at h2; exact absurd h2 (by assumption)⟩), hrid, htid⟩
          · intro c13
            refine Z.iconst hX dX7_at_79 ?_
            refine Z.goto hX 84 dX7_at_80 (by decide) ?_
            exact hR _ _ _ _ dX7_at_84 ⟨1, Fd, Id, Jd, rfl, rfl, hokd, (hId.trans (hIb.trans hIa)), (fun q => absurd (by omega) q), (fun _ => Or.inl ⟨rfl, by rw [← hxa]; assumption, by rw [← hxa, ← hxb]; assumption, by rw [← hxa, ← hxd]; assumption⟩), hrid, htid⟩
    · intro c4
      refine Z.bipush hX dX7_at_19 (by decide) ?_
      exact hR _ _ _ _ dX7_at_21 ⟨(-9), F, I, J, rfl, rfl, hok, rfl, (fun _ => rfl), (fun q => by omega), hri, hti⟩

set_option maxHeartbeats 4000000 in
set_option maxRecDepth 100000 in
theorem ct_X7_trace_y (l : Launch) (D : va_G) (ce : Nat → ClassId) (h : Nat → Nat) (F : Nat → Int) (I : Nat → Nat → Int32) (J : Nat → Nat → Int64) (sort : Int) (hok : rOK F I) (hbr : bR (I 0)) (hri : RI F (I 0) (J 0)) (hti : TI F I J) (hs : -2147483648 ≤ sort ∧ sort < 2147483648) : Ct l yX7_trace cX7_trace 2 (some .int) { frames := 6, cells := 0, slots := 0, locals := 174 } 0 0 D (TY ce) [.ref (h 0), .int (zI sort)] (rW ce h F I J) (QI D (TY ce) (fun r w1 => ∃ z : Int, ∃ F2 : Nat → Int, ∃ I2 : Nat → Nat → Int32, ∃ J2 : Nat → Nat → Int64, r = zI z ∧ w1 = rW ce h F2 I2 J2 ∧ (rOK F2 I2) ∧ (I2 0 = I 0) ∧ (¬ (sort = 0 ∨ sort = 1) → z = -1) ∧ (RI F2 (I2 0) (J2 0)) ∧ (TI F2 I2 J2))) := by
  refine Ct.ofI (by decide) (Nat.le_of_ble_eq_true rfl) ?_
  intro p e s m args below meth c A Q hX hnm hR
  refine Z.pick (lv' := [(0, .ref (h 0)), (1, .int (zI sort))]) [0, 1] rfl ?_
  refine Z.iload_n hX dX7_trace_0 rfl rfl ?_
  refine Z.callS0i (As := [.int (zI sort)]) (rest := []) hX (ct_X7_isSort l D ce sort (by omega)) mc_X7_isSort ml_X7_144 st_X7_isSort ini_X7 nd_X7_isSort ⟨Nat.le_of_ble_eq_true rfl, Nat.le_of_ble_eq_true rfl⟩ ⟨rfl, rfl⟩ ⟨Nat.le_refl _, Nat.le_refl _⟩ rfl (Nat.le_of_ble_eq_true rfl) dX7_trace_1 ?_
  rintro r_1 w1 ⟨zp, hr_, hw_, hzp⟩
  subst hr_
  refine ⟨hw_, ?_⟩
  refine Z.if_ne hX 9 dX7_trace_4 (by decide) ⟨by omega, by omega⟩ ?_ ?_
  · intro c2
    refine Z.aload_n hX dX7_trace_9 rfl rfl ?_
    refine Z.callVfv (As := []) (rest := []) hX 7 0 rfl rfl (ct_X7_work_y l D ce h F I J hok hbr hri hti) mc_X7_work ml_X7_130 im_X7_work se_X7_work ini_X7 nd_X7_work ⟨Nat.le_of_ble_eq_true rfl, Nat.le_of_ble_eq_true rfl⟩ ⟨rfl, rfl⟩ ⟨Nat.le_refl _, Nat.le_refl _⟩ rfl (Nat.le_of_ble_eq_true rfl) dX7_trace_10 ?_
    rintro w1 ⟨Fw, Iw, Jw, hw_, hokw, hfw, hmow, hIw, hdgw, hfqw, hhtw⟩
    subst hw_
    have hriw : RI Fw (Iw 0) (Jw 0) := fun _ => by rw [hIw]; exact hfqw
    have htiw : TI Fw Iw Jw := fun _ => hhtw
    refine Z.aload_n hX dX7_trace_13 rfl rfl ?_
    refine Z.getf hX 7 0 5 dX7_trace_14 rfl rfl inX7 (by decide) fl_X7_17 rfl rfl ?_
    refine Z.iload_n hX dX7_trace_17 rfl rfl ?_
    refine Z.zaload hX 3 2 dX7_trace_18 rfl rfl (by omega) (by omega) (by decide) ?_
    refine Z.topi (fun z4 hz4 kz4 ez4 => ?_)
    refine Z.if_eq hX 31 dX7_trace_19 (by decide) ⟨by omega, by omega⟩ ?_ ?_
    · intro c5
      refine Z.bipush hX dX7_trace_31 (by decide) ?_
      exact hR _ _ _ _ dX7_trace_33 ⟨(-2), Fw, Iw, Jw, rfl, rfl, hokw, hIw, (fun q => absurd (by omega) q), hriw, htiw⟩
    · intro c5
      refine Z.aload_n hX dX7_trace_22 rfl rfl ?_
      refine Z.getf hX 7 0 7 dX7_trace_23 rfl rfl inX7 (by decide) fl_X7_24 rfl rfl ?_
      refine Z.iload_n hX dX7_trace_26 rfl rfl ?_
      refine Z.iaload hX 5 0 dX7_trace_27 rfl rfl (by omega) (by omega) (by decide) ?_
      refine Z.topi (fun z6 hz6 kz6 ez6 => ?_)
      refine Z.goto hX 33 dX7_trace_28 (by decide) ?_
      exact hR _ _ _ _ dX7_trace_33 ⟨z6, Fw, Iw, Jw, rfl, rfl, hokw, hIw, (fun q => absurd (by omega) q), hriw, htiw⟩
  · intro c2
    refine Z.iconst hX dX7_trace_7 ?_
    exact hR _ _ _ _ dX7_trace_8 ⟨(-1), F, I, J, rfl, rfl, hok, rfl, (fun _ => rfl), hri, hti⟩

set_option maxHeartbeats 4000000 in
set_option maxRecDepth 100000 in
theorem ct_X7_times_y (l : Launch) (D : va_G) (ce : Nat → ClassId) (h : Nat → Nat) (F : Nat → Int) (I : Nat → Nat → Int32) (J : Nat → Nat → Int64) (sort : Int) (hok : rOK F I) (hbr : bR (I 0)) (hri : RI F (I 0) (J 0)) (hti : TI F I J) (hs : -2147483648 ≤ sort ∧ sort < 2147483648) : Ct l yX7_times cX7_times 2 (some .int) { frames := 6, cells := 0, slots := 0, locals := 174 } 0 0 D (TY ce) [.ref (h 0), .int (zI sort)] (rW ce h F I J) (QI D (TY ce) (fun r w1 => ∃ z : Int, ∃ F2 : Nat → Int, ∃ I2 : Nat → Nat → Int32, ∃ J2 : Nat → Nat → Int64, r = zI z ∧ w1 = rW ce h F2 I2 J2 ∧ (rOK F2 I2) ∧ (I2 0 = I 0) ∧ (¬ (sort = 0 ∨ sort = 1) → z = -1) ∧ (RI F2 (I2 0) (J2 0)) ∧ (TI F2 I2 J2))) := by
  refine Ct.ofI (by decide) (Nat.le_of_ble_eq_true rfl) ?_
  intro p e s m args below meth c A Q hX hnm hR
  refine Z.pick (lv' := [(0, .ref (h 0)), (1, .int (zI sort))]) [0, 1] rfl ?_
  refine Z.iload_n hX dX7_times_0 rfl rfl ?_
  refine Z.callS0i (As := [.int (zI sort)]) (rest := []) hX (ct_X7_isSort l D ce sort (by omega)) mc_X7_isSort ml_X7_144 st_X7_isSort ini_X7 nd_X7_isSort ⟨Nat.le_of_ble_eq_true rfl, Nat.le_of_ble_eq_true rfl⟩ ⟨rfl, rfl⟩ ⟨Nat.le_refl _, Nat.le_refl _⟩ rfl (Nat.le_of_ble_eq_true rfl) dX7_times_1 ?_
  rintro r_1 w1 ⟨zp, hr_, hw_, hzp⟩
  subst hr_
  refine ⟨hw_, ?_⟩
  refine Z.if_ne hX 9 dX7_times_4 (by decide) ⟨by omega, by omega⟩ ?_ ?_
  · intro c2
    refine Z.aload_n hX dX7_times_9 rfl rfl ?_
    refine Z.callVfv (As := []) (rest := []) hX 7 0 rfl rfl (ct_X7_work_y l D ce h F I J hok hbr hri hti) mc_X7_work ml_X7_130 im_X7_work se_X7_work ini_X7 nd_X7_work ⟨Nat.le_of_ble_eq_true rfl, Nat.le_of_ble_eq_true rfl⟩ ⟨rfl, rfl⟩ ⟨Nat.le_refl _, Nat.le_refl _⟩ rfl (Nat.le_of_ble_eq_true rfl) dX7_times_10 ?_
    rintro w1 ⟨Fw, Iw, Jw, hw_, hokw, hfw, hmow, hIw, hdgw, hfqw, hhtw⟩
    subst hw_
    have hriw : RI Fw (Iw 0) (Jw 0) := fun _ => by rw [hIw]; exact hfqw
    have htiw : TI Fw Iw Jw := fun _ => hhtw
    refine Z.aload_n hX dX7_times_13 rfl rfl ?_
    refine Z.getf hX 7 0 5 dX7_times_14 rfl rfl inX7 (by decide) fl_X7_17 rfl rfl ?_
    refine Z.iload_n hX dX7_times_17 rfl rfl ?_
    refine Z.zaload hX 3 2 dX7_times_18 rfl rfl (by omega) (by omega) (by decide) ?_
    refine Z.topi (fun z4 hz4 kz4 ez4 => ?_)
    refine Z.if_eq hX 31 dX7_times_19 (by decide) ⟨by omega, by omega⟩ ?_ ?_
    · intro c5
      refine Z.bipush hX dX7_times_31 (by decide) ?_
      exact hR _ _ _ _ dX7_times_33 ⟨(-2), Fw, Iw, Jw, rfl, rfl, hokw, hIw, (fun q => absurd (by omega) q), hriw, htiw⟩
    · intro c5
      refine Z.aload_n hX dX7_times_22 rfl rfl ?_
      refine Z.getf hX 7 0 8 dX7_times_23 rfl rfl inX7 (by decide) fl_X7_27 rfl rfl ?_
      refine Z.iload_n hX dX7_times_26 rfl rfl ?_
      refine Z.iaload hX 6 0 dX7_times_27 rfl rfl (by omega) (by omega) (by decide) ?_
      refine Z.topi (fun z6 hz6 kz6 ez6 => ?_)
      refine Z.goto hX 33 dX7_times_28 (by decide) ?_
      exact hR _ _ _ _ dX7_times_33 ⟨z6, Fw, Iw, Jw, rfl, rfl, hokw, hIw, (fun q => absurd (by omega) q), hriw, htiw⟩
  · intro c2
    refine Z.iconst hX dX7_times_7 ?_
    exact hR _ _ _ _ dX7_times_8 ⟨(-1), F, I, J, rfl, rfl, hok, rfl, (fun _ => rfl), hri, hti⟩

set_option maxHeartbeats 4000000 in
set_option maxRecDepth 100000 in
theorem ct_X7_coefficient_y (l : Launch) (D : va_G) (ce : Nat → ClassId) (h : Nat → Nat) (F : Nat → Int) (I : Nat → Nat → Int32) (J : Nat → Nat → Int64) (sort i j : Int) (hok : rOK F I) (hbr : bR (I 0)) (hri : RI F (I 0) (J 0)) (hti : TI F I J) (hs : -2147483648 ≤ sort ∧ sort < 2147483648) (hi : -2147483648 ≤ i ∧ i < 2147483648) (hj : -2147483648 ≤ j ∧ j < 2147483648) : Ct l yX7_coefficient cX7_coefficient 4 (some .long) { frames := 6, cells := 0, slots := 0, locals := 174 } 0 0 D (TY ce) [.ref (h 0), .int (zI sort), .int (zI i), .int (zI j)] (rW ce h F I J) (QL D (TY ce) (fun r w1 => ∃ r0 : Int64, ∃ F2 : Nat → Int, ∃ I2 : Nat → Nat → Int32, ∃ J2 : Nat → Nat → Int64, r = r0 ∧ w1 = rW ce h F2 I2 J2 ∧ (rOK F2 I2) ∧ (I2 0 = I 0) ∧ (¬ ((sort = 0 ∨ sort = 1) ∧ 0 ≤ i ∧ i ≤ 6 ∧ 0 ≤ j ∧ j ≤ 6) → r0 = 0) ∧ (RI F2 (I2 0) (J2 0)) ∧ (TI F2 I2 J2))) := by
  refine Ct.ofL (by decide) (Nat.le_of_ble_eq_true rfl) ?_
  intro p e s m args below meth c A Q hX hnm hR
  refine Z.pick (lv' := [(0, .ref (h 0)), (1, .int (zI sort)), (2, .int (zI i)), (3, .int (zI j))]) [0, 1, 2, 3] rfl ?_
  refine Z.iload_n hX dX7_coefficient_0 rfl rfl ?_
  refine Z.callS0i (As := [.int (zI sort)]) (rest := []) hX (ct_X7_isSort l D ce sort (by omega)) mc_X7_isSort ml_X7_144 st_X7_isSort ini_X7 nd_X7_isSort ⟨Nat.le_of_ble_eq_true rfl, Nat.le_of_ble_eq_true rfl⟩ ⟨rfl, rfl⟩ ⟨Nat.le_refl _, Nat.le_refl _⟩ rfl (Nat.le_of_ble_eq_true rfl) dX7_coefficient_1 ?_
  rintro r_1 w1 ⟨zp, hr_, hw_, hzp⟩
  subst hr_
  refine ⟨hw_, ?_⟩
  refine Z.if_eq hX 27 dX7_coefficient_4 (by decide) ⟨by omega, by omega⟩ ?_ ?_
  · intro c2
    refine Z.lconst (v := 0) hX dX7_coefficient_27 rfl ?_
    exact hR _ _ _ _ dX7_coefficient_28 ⟨0, F, I, J, rfl, rfl, hok, rfl, (fun _ => rfl), hri, hti⟩
  · intro c2
    refine Z.iload_n hX dX7_coefficient_7 rfl rfl ?_
    refine Z.if_lt hX 27 dX7_coefficient_8 (by decide) ⟨by omega, by omega⟩ ?_ ?_
    · intro c3
      refine Z.lconst (v := 0) hX dX7_coefficient_27 rfl ?_
      exact hR _ _ _ _ dX7_coefficient_28 ⟨0, F, I, J, rfl, rfl, hok, rfl, (fun _ => rfl), hri, hti⟩
    · intro c3
      refine Z.iload_n hX dX7_coefficient_11 rfl rfl ?_
      refine Z.bipush hX dX7_coefficient_12 (by decide) ?_
      refine Z.icmp_gt hX 27 dX7_coefficient_14 (by decide) ⟨by omega, by omega⟩ ⟨by omega, by omega⟩ ?_ ?_
      · intro c4
        refine Z.lconst (v := 0) hX dX7_coefficient_27 rfl ?_
        exact hR _ _ _ _ dX7_coefficient_28 ⟨0, F, I, J, rfl, rfl, hok, rfl, (fun _ => rfl), hri, hti⟩
      · intro c4
        refine Z.iload_n hX dX7_coefficient_17 rfl rfl ?_
        refine Z.if_lt hX 27 dX7_coefficient_18 (by decide) ⟨by omega, by omega⟩ ?_ ?_
        · intro c5
          refine Z.lconst (v := 0) hX dX7_coefficient_27 rfl ?_
          exact hR _ _ _ _ dX7_coefficient_28 ⟨0, F, I, J, rfl, rfl, hok, rfl, (fun _ => rfl), hri, hti⟩
        · intro c5
          refine Z.iload_n hX dX7_coefficient_21 rfl rfl ?_
          refine Z.bipush hX dX7_coefficient_22 (by decide) ?_
          refine Z.icmp_le hX 29 dX7_coefficient_24 (by decide) ⟨by omega, by omega⟩ ⟨by omega, by omega⟩ ?_ ?_
          · intro c6
            refine Z.aload_n hX dX7_coefficient_29 rfl rfl ?_
            refine Z.callVfv (As := []) (rest := []) hX 7 0 rfl rfl (ct_X7_work_y l D ce h F I J hok hbr hri hti) mc_X7_work ml_X7_130 im_X7_work se_X7_work ini_X7 nd_X7_work ⟨Nat.le_of_ble_eq_true rfl, Nat.le_of_ble_eq_true rfl⟩ ⟨rfl, rfl⟩ ⟨Nat.le_refl _, Nat.le_refl _⟩ rfl (Nat.le_of_ble_eq_true rfl) dX7_coefficient_30 ?_
            rintro w1 ⟨Fw, Iw, Jw, hw_, hokw, hfw, hmow, hIw, hdgw, hfqw, hhtw⟩
            subst hw_
            have hriw : RI Fw (Iw 0) (Jw 0) := fun _ => by rw [hIw]; exact hfqw
            have htiw : TI Fw Iw Jw := fun _ => hhtw
            refine Z.aload_n hX dX7_coefficient_33 rfl rfl ?_
            refine Z.getf hX 7 0 5 dX7_coefficient_34 rfl rfl inX7 (by decide) fl_X7_17 rfl rfl ?_
            refine Z.iload_n hX dX7_coefficient_37 rfl rfl ?_
            refine Z.zaload hX 3 2 dX7_coefficient_38 rfl rfl (by omega) (by omega) (by decide) ?_
            refine Z.topi (fun z8 hz8 kz8 ez8 => ?_)
            refine Z.if_eq hX 61 dX7_coefficient_39 (by decide) ⟨by omega, by omega⟩ ?_ ?_
            · intro c9
              refine Z.lconst (v := 0) hX dX7_coefficient_61 rfl ?_
              exact hR _ _ _ _ dX7_coefficient_62 ⟨0, Fw, Iw, Jw, rfl, rfl, hokw, hIw, (fun q => absurd (by omega) q), hriw, htiw⟩
            · intro c9
              refine Z.aload_n hX dX7_coefficient_42 rfl rfl ?_
              refine Z.getf hX 7 0 6 dX7_coefficient_43 rfl rfl inX7 (by decide) fl_X7_21 rfl rfl ?_
              refine Z.bipush hX dX7_coefficient_46 (by decide) ?_
              refine Z.iload_n hX dX7_coefficient_48 rfl rfl ?_
              refine Z.imul hX dX7_coefficient_49 ?_
              refine Z.bipush hX dX7_coefficient_50 (by decide) ?_
              refine Z.iload_n hX dX7_coefficient_52 rfl rfl ?_
              refine Z.imul hX dX7_coefficient_53 ?_
              refine Z.iadd hX dX7_coefficient_54 ?_
              refine Z.iload_n hX dX7_coefficient_55 rfl rfl ?_
              refine Z.iadd hX dX7_coefficient_56 ?_
              refine Z.laload hX 4 1 dX7_coefficient_57 rfl rfl (by omega) (by omega) (by decide) ?_
              refine Z.goto hX 62 dX7_coefficient_58 (by decide) ?_
              exact hR _ _ _ _ dX7_coefficient_62 ⟨(Jw 1 (((49 * sort) + (7 * i)) + j : Int).toNat), Fw, Iw, Jw, rfl, rfl, hokw, hIw, (fun q => absurd (by omega) q), hriw, htiw⟩
          · intro c6
            refine Z.lconst (v := 0) hX dX7_coefficient_27 rfl ?_
            exact hR _ _ _ _ dX7_coefficient_28 ⟨0, F, I, J, rfl, rfl, hok, rfl, (fun _ => rfl), hri, hti⟩

set_option maxHeartbeats 4000000 in
set_option maxRecDepth 100000 in
theorem ct_X7_side_y (l : Launch) (D : va_G) (ce : Nat → ClassId) (h : Nat → Nat) (F : Nat → Int) (I : Nat → Nat → Int32) (J : Nat → Nat → Int64) (sort pp qq ss : Int) (hok : rOK F I) (hbr : bR (I 0)) (hri : RI F (I 0) (J 0)) (hti : TI F I J) (hs : -2147483648 ≤ sort ∧ sort < 2147483648) (hp : -2147483648 ≤ pp ∧ pp < 2147483648) (hq : -2147483648 ≤ qq ∧ qq < 2147483648) (hss : -2147483648 ≤ ss ∧ ss < 2147483648) : Ct l yX7_side cX7_side 15 (some .int) { frames := 6, cells := 0, slots := 0, locals := 174 } 0 0 D (TY ce) [.ref (h 0), .int (zI sort), .int (zI pp), .int (zI qq), .int (zI ss)] (rW ce h F I J) (QI D (TY ce) (fun r w1 => ∃ z : Int, ∃ F2 : Nat → Int, ∃ I2 : Nat → Nat → Int32, ∃ J2 : Nat → Nat → Int64, r = zI z ∧ w1 = rW ce h F2 I2 J2 ∧ (rOK F2 I2) ∧ (I2 0 = I 0) ∧ (¬ ((sort = 0 ∨ sort = 1) ∧ (-20 ≤ pp ∧ pp ≤ 20 ∧ -20 ≤ qq ∧ qq ≤ 20 ∧ 1 ≤ ss ∧ ss ≤ 9)) → z = -9) ∧ (RI F2 (I2 0) (J2 0)) ∧ (TI F2 I2 J2))) := by
  refine Ct.ofI (by decide) (Nat.le_of_ble_eq_true rfl) ?_
  intro p e s m args below meth c A Q hX hnm hR
  refine Z.pick (lv' := [(0, .ref (h 0)), (1, .int (zI sort)), (2, .int (zI pp)), (3, .int (zI qq)), (4, .int (zI ss))]) [0, 1, 2, 3, 4] rfl ?_
  refine Z.iload_n hX dX7_side_0 rfl rfl ?_
  refine Z.callS0i (As := [.int (zI sort)]) (rest := []) hX (ct_X7_isSort l D ce sort (by omega)) mc_X7_isSort ml_X7_144 st_X7_isSort ini_X7 nd_X7_isSort ⟨Nat.le_of_ble_eq_true rfl, Nat.le_of_ble_eq_true rfl⟩ ⟨rfl, rfl⟩ ⟨Nat.le_refl _, Nat.le_refl _⟩ rfl (Nat.le_of_ble_eq_true rfl) dX7_side_1 ?_
  rintro r_1 w1 ⟨zp, hr_, hw_, hzp⟩
  subst hr_
  refine ⟨hw_, ?_⟩
  refine Z.if_eq hX 17 dX7_side_4 (by decide) ⟨by omega, by omega⟩ ?_ ?_
  · intro c2
    refine Z.bipush hX dX7_side_17 (by decide) ?_
    exact hR _ _ _ _ dX7_side_19 ⟨(-9), F, I, J, rfl, rfl, hok, rfl, (fun _ => rfl), hri, hti⟩
  · intro c2
    refine Z.iload_n hX dX7_side_7 rfl rfl ?_
    refine Z.iload_n hX dX7_side_8 rfl rfl ?_
    refine Z.iload hX dX7_side_9 rfl ?_
    refine Z.callS0i (As := [.int (zI pp), .int (zI qq), .int (zI ss)]) (rest := []) hX (ct_X7_isPlace l D ce pp qq ss (by omega) (by omega) (by omega)) mc_X7_isPlace ml_X7_148 st_X7_isPlace ini_X7 nd_X7_isPlace ⟨Nat.le_of_ble_eq_true rfl, Nat.le_of_ble_eq_true rfl⟩ ⟨rfl, rfl⟩ ⟨Nat.le_refl _, Nat.le_refl _⟩ rfl (Nat.le_of_ble_eq_true rfl) dX7_side_11 ?_
    rintro r_3 w1 ⟨zq, hr_, hw_, hzq⟩
    subst hr_
    refine ⟨hw_, ?_⟩
    refine Z.if_ne hX 20 dX7_side_14 (by decide) ⟨by omega, by omega⟩ ?_ ?_
    · intro c4
      refine Z.aload_n hX dX7_side_20 rfl rfl ?_
      refine Z.callVfv (As := []) (rest := []) hX 7 0 rfl rfl (ct_X7_work_y l D ce h F I J hok hbr hri hti) mc_X7_work ml_X7_130 im_X7_work se_X7_work ini_X7 nd_X7_work ⟨Nat.le_of_ble_eq_true rfl, Nat.le_of_ble_eq_true rfl⟩ ⟨rfl, rfl⟩ ⟨Nat.le_refl _, Nat.le_refl _⟩ rfl (Nat.le_of_ble_eq_true rfl) dX7_side_21 ?_
      rintro w1 ⟨Fw, Iw, Jw, hw_, hokw, hfw, hmow, hIw, hdgw, hfqw, hhtw⟩
      subst hw_
      have hriw : RI Fw (Iw 0) (Jw 0) := fun _ => by rw [hIw]; exact hfqw
      have htiw : TI Fw Iw Jw := fun _ => hhtw
      refine Z.aload_n hX dX7_side_24 rfl rfl ?_
      refine Z.getf hX 7 0 5 dX7_side_25 rfl rfl inX7 (by decide) fl_X7_17 rfl rfl ?_
      refine Z.iload_n hX dX7_side_28 rfl rfl ?_
      refine Z.zaload hX 3 2 dX7_side_29 rfl rfl (by omega) (by omega) (by decide) ?_
      refine Z.topi (fun z6 hz6 kz6 ez6 => ?_)
      refine Z.if_ne hX 36 dX7_side_30 (by decide) ⟨by omega, by omega⟩ ?_ ?_
      · intro c7
        refine Z.lconst (v := 0) hX dX7_side_36 rfl ?_
        refine Z.lstore (lv' := [(5, .long 0), (0, .ref (h 0)), (1, .int (zI sort)), (2, .int (zI pp)), (3, .int (zI qq)), (4, .int (zI ss))]) hX dX7_side_37 (by decide) rfl ?_
        refine Z.lconst (v := 0) hX dX7_side_39 rfl ?_
        refine Z.lstore (lv' := [(7, .long 0), (5, .long 0), (0, .ref (h 0)), (1, .int (zI sort)), (2, .int (zI pp)), (3, .int (zI qq)), (4, .int (zI ss))]) hX dX7_side_40 (by decide) rfl ?_
        refine Z.iconst hX dX7_side_42 ?_
        refine Z.istore (lv' := [(9, .int (zI 0)), (7, .long 0), (5, .long 0), (0, .ref (h 0)), (1, .int (zI sort)), (2, .int (zI pp)), (3, .int (zI qq)), (4, .int (zI ss))]) hX dX7_side_43 (by decide) rfl ?_
        have key_45 : ∀ (N : Nat), ∀ (i : Int) (hi_ lo_ : Int64), (7 - i).toNat < N → (hi1 : 0 ≤ i ∧ i ≤ 7) → Z p l e { frames := 6, cells := 0, slots := 0, locals := 174 } s m args below meth c D A 15 0 0 Q 45 [(9, .int (zI i)), (5, .long hi_), (7, .long lo_), (4, .int (zI ss)), (3, .int (zI qq)), (2, .int (zI pp)), (1, .int (zI sort)), (0, .ref (h 0))] [] (rW ce h Fw Iw Jw) := by
          intro N
          induction N with
          | zero => intro i hi_ lo_ hm; exact absurd hm (Nat.not_lt_zero _)
          | succ N ih_45 =>
            intro i hi_ lo_ hm hi1
            refine Z.iload hX dX7_side_45 rfl ?_
            refine Z.bipush hX dX7_side_47 (by decide) ?_
            refine Z.icmp_ge hX 164 dX7_side_49 (by decide) ⟨by omega, by omega⟩ ⟨by omega, by omega⟩ ?_ ?_
            · intro c8
              refine Z.lload hX dX7_side_164 rfl ?_
              refine Z.lload hX dX7_side_166 rfl ?_
              refine Z.bipush hX dX7_side_168 (by decide) ?_
              refine Z.lshr hX dX7_side_170 rfl ?_
              refine Z.topl (fun y9 ey9 => ?_)
              refine Z.ladd hX dX7_side_171 ?_
              refine Z.lstore (lv' := [(5, .long (hi_ + y9)), (9, .int (zI i)), (7, .long lo_), (4, .int (zI ss)), (3, .int (zI qq)), (2, .int (zI pp)), (1, .int (zI sort)), (0, .ref (h 0))]) hX dX7_side_172 (by decide) rfl ?_
              refine Z.lload hX dX7_side_174 rfl ?_
              refine Z.ldc2 hX dX7_side_176 co_X7_152 ?_
              refine Z.land hX dX7_side_179 ?_
              refine Z.lstore (lv' := [(7, .long (lo_ &&& 1073741823)), (5, .long (hi_ + y9)), (9, .int (zI i)), (4, .int (zI ss)), (3, .int (zI qq)), (2, .int (zI pp)), (1, .int (zI sort)), (0, .ref (h 0))]) hX dX7_side_180 (by decide) rfl ?_
              refine Z.lload hX dX7_side_182 rfl ?_
              refine Z.lconst (v := 0) hX dX7_side_184 rfl ?_
              refine Z.lcmp_le hX 193 dX7_side_185 dX7_side_186 (by decide) ?_ ?_
              · intro c10
                refine Z.lload hX dX7_side_193 rfl ?_
                refine Z.lconst (v := 0) hX dX7_side_195 rfl ?_
                refine Z.lcmp_ge hX 204 dX7_side_196 dX7_side_197 (by decide) ?_ ?_
                · intro c11
                  refine Z.lload hX dX7_side_204 rfl ?_
                  refine Z.lconst (v := 0) hX dX7_side_206 rfl ?_
                  refine Z.lcmp_le hX 215 dX7_side_207 dX7_side_208 (by decide) ?_ ?_
                  · intro c12
                    refine Z.iconst hX dX7_side_215 ?_
                    exact hR _ _ _ _ dX7_side_216 ⟨0, Fw, Iw, Jw, rfl, rfl, hokw, hIw, (fun q => absurd (by omega) q), hriw, htiw⟩
                  · intro c12
                    refine Z.iconst hX dX7_side_211 ?_
                    refine Z.goto hX 216 dX7_side_212 (by decide) ?_
                    exact hR _ _ _ _ dX7_side_216 ⟨1, Fw, Iw, Jw, rfl, rfl, hokw, hIw, (fun q => absurd (by omega) q), hriw, htiw⟩
                · intro c11
                  refine Z.iconst hX dX7_side_200 ?_
                  refine Z.goto hX 216 dX7_side_201 (by decide) ?_
                  exact hR _ _ _ _ dX7_side_216 ⟨(-1), Fw, Iw, Jw, rfl, rfl, hokw, hIw, (fun q => absurd (by omega) q), hriw, htiw⟩
              · intro c10
                refine Z.iconst hX dX7_side_189 ?_
                refine Z.goto hX 216 dX7_side_190 (by decide) ?_
                exact hR _ _ _ _ dX7_side_216 ⟨1, Fw, Iw, Jw, rfl, rfl, hokw, hIw, (fun q => absurd (by omega) q), hriw, htiw⟩
            · intro c8
              refine Z.iconst hX dX7_side_52 ?_
              refine Z.istore (lv' := [(10, .int (zI 0)), (9, .int (zI i)), (5, .long hi_), (7, .long lo_), (4, .int (zI ss)), (3, .int (zI qq)), (2, .int (zI pp)), (1, .int (zI sort)), (0, .ref (h 0))]) hX dX7_side_53 (by decide) rfl ?_
              have key_55 : ∀ (N : Nat), ∀ (j : Int) (hi_ lo_ : Int64), (7 - j).toNat < N → (hj1 : 0 ≤ j ∧ j ≤ 7) → Z p l e { frames := 6, cells := 0, slots := 0, locals := 174 } s m args below meth c D A 15 0 0 Q 55 [(10, .int (zI j)), (9, .int (zI i)), (5, .long hi_), (7, .long lo_), (4, .int (zI ss)), (3, .int (zI qq)), (2, .int (zI pp)), (1, .int (zI sort)), (0, .ref (h 0))] [] (rW ce h Fw Iw Jw) := by
                intro N
                induction N with
                | zero => intro j hi_ lo_ hm; exact absurd hm (Nat.not_lt_zero _)
                | succ N ih_55 =>
                  intro j hi_ lo_ hm hj1
                  refine Z.iload hX dX7_side_55 rfl ?_
                  refine Z.bipush hX dX7_side_57 (by decide) ?_
                  refine Z.icmp_ge hX 158 dX7_side_59 (by decide) ⟨by omega, by omega⟩ ⟨by omega, by omega⟩ ?_ ?_
                  · intro c13
                    refine Z.iinc (lv' := [(9, .int (zI (i + 1))), (10, .int (zI j)), (5, .long hi_), (7, .long lo_), (4, .int (zI ss)), (3, .int (zI qq)), (2, .int (zI pp)), (1, .int (zI sort)), (0, .ref (h 0))]) hX dX7_side_158 rfl (by decide) rfl ?_
                    refine Z.goto hX 45 dX7_side_161 (by decide) ?_
                    refine Z.pick [0, 2, 3, 4, 5, 6, 7, 8] rfl ?_
                    exact ih_45 _ _ _ (by omega) (by omega)
                  · intro c13
                    refine Z.aload_n hX dX7_side_62 rfl rfl ?_
                    refine Z.getf hX 7 0 6 dX7_side_63 rfl rfl inX7 (by decide) fl_X7_21 rfl rfl ?_
                    refine Z.bipush hX dX7_side_66 (by decide) ?_
                    refine Z.iload_n hX dX7_side_68 rfl rfl ?_
                    refine Z.imul hX dX7_side_69 ?_
                    refine Z.bipush hX dX7_side_70 (by decide) ?_
                    refine Z.iload hX dX7_side_72 rfl ?_
                    refine Z.imul hX dX7_side_74 ?_
                    refine Z.iadd hX dX7_side_75 ?_
                    refine Z.iload hX dX7_side_76 rfl ?_
                    refine Z.iadd hX dX7_side_78 ?_
                    refine Z.laload hX 4 1 dX7_side_79 rfl rfl (by omega) (by omega) (by decide) ?_
                    refine Z.lstore (lv' := [(11, .long (Jw 1 (((49 * sort) + (7 * i)) + j : Int).toNat)), (10, .int (zI j)), (9, .int (zI i)), (5, .long hi_), (7, .long lo_), (4, .int (zI ss)), (3, .int (zI qq)), (2, .int (zI pp)), (1, .int (zI sort)), (0, .ref (h 0))]) hX dX7_side_80 (by decide) rfl ?_
                    refine Z.lload hX dX7_side_82 rfl ?_
                    refine Z.lconst (v := 0) hX dX7_side_84 rfl ?_
                    refine Z.lcmp_eq hX 152 dX7_side_85 dX7_side_86 (by decide) ?_ ?_
                    · intro c14
                      refine Z.iinc (lv' := [(10, .int (zI (j + 1))), (11, .long (Jw 1 (((49 * sort) + (7 * i)) + j : Int).toNat)), (9, .int (zI i)), (5, .long hi_), (7, .long lo_), (4, .int (zI ss)), (3, .int (zI qq)), (2, .int (zI pp)), (1, .int (zI sort)), (0, .ref (h 0))]) hX dX7_side_152 rfl (by decide) rfl ?_
                      refine Z.goto hX 55 dX7_side_155 (by decide) ?_
                      refine Z.pick [0, 2, 3, 4, 5, 6, 7, 8, 9] rfl ?_
                      exact ih_55 _ _ _ (by omega) (by omega)
                    · intro c14
                      refine Z.iload_n hX dX7_side_89 rfl rfl ?_
                      refine Z.i2l hX dX7_side_90 ⟨by omega, by omega⟩ ?_
                      refine Z.iload hX dX7_side_91 rfl ?_
                      refine Z.callS0l (As := [.long (zL pp), .int (zI i)]) (rest := []) hX (ct_X7_raised l D ce (zL pp) i (by omega)) mc_X7_raised ml_X7_134 st_X7_raised ini_X7 nd_X7_raised ⟨Nat.le_of_ble_eq_true rfl, Nat.le_of_ble_eq_true rfl⟩ ⟨rfl, rfl⟩ ⟨Nat.le_refl _, Nat.le_refl _⟩ rfl (Nat.le_of_ble_eq_true rfl) dX7_side_93 ?_
                      rintro r_15 w1 ⟨r016, hr_, hw_, hq17⟩
                      subst hr_
                      refine ⟨hw_, ?_⟩
                      refine Z.iload_n hX dX7_side_96 rfl rfl ?_
                      refine Z.i2l hX dX7_side_97 ⟨by omega, by omega⟩ ?_
                      refine Z.iload hX dX7_side_98 rfl ?_
                      refine Z.callS0l (As := [.long (zL qq), .int (zI j)]) (rest := [.long r_15]) hX (ct_X7_raised l D ce (zL qq) j (by omega)) mc_X7_raised ml_X7_134 st_X7_raised ini_X7 nd_X7_raised ⟨Nat.le_of_ble_eq_true rfl, Nat.le_of_ble_eq_true rfl⟩ ⟨rfl, rfl⟩ ⟨Nat.le_refl _, Nat.le_refl _⟩ rfl (Nat.le_of_ble_eq_true rfl) dX7_side_100 ?_
                      rintro r_18 w1 ⟨r019, hr_, hw_, hq20⟩
                      subst hr_
                      refine ⟨hw_, ?_⟩
                      refine Z.lmul hX dX7_side_103 ?_
                      refine Z.iload hX dX7_side_104 rfl ?_
                      refine Z.i2l hX dX7_side_106 ⟨by omega, by omega⟩ ?_
                      refine Z.aload_n hX dX7_side_107 rfl rfl ?_
                      refine Z.getf hX 7 0 7 dX7_side_108 rfl rfl inX7 (by decide) fl_X7_24 rfl rfl ?_
                      refine Z.iload_n hX dX7_side_111 rfl rfl ?_
                      refine Z.iaload hX 5 0 dX7_side_112 rfl rfl (by omega) (by omega) (by decide) ?_
                      refine Z.topi (fun z21 hz21 kz21 ez21 => ?_)
                      have hdz := DG_z hdgw (by omega) ez21 hz21 kz21
                      refine Z.iload hX dX7_side_113 rfl ?_
                      refine Z.isub hX dX7_side_115 ?_
                      refine Z.iload hX dX7_side_116 rfl ?_
                      refine Z.isub hX dX7_side_118 ?_
                      refine Z.callS0l (As := [.long (zL ss), .int (zI ((z21 - i) - j))]) (rest := [.long (r_15 * r_18)]) hX (ct_X7_raised l D ce (zL ss) ((z21 - i) - j) (by omega)) mc_X7_raised ml_X7_134 st_X7_raised ini_X7 nd_X7_raised ⟨Nat.le_of_ble_eq_true rfl, Nat.le_of_ble_eq_true rfl⟩ ⟨rfl, rfl⟩ ⟨Nat.le_refl _, Nat.le_refl _⟩ rfl (Nat.le_of_ble_eq_true rfl) dX7_side_119 ?_
                      rintro r_22 w1 ⟨r023, hr_, hw_, hq24⟩
                      subst hr_
                      refine ⟨hw_, ?_⟩
                      refine Z.lmul hX dX7_side_122 ?_
                      refine Z.lstore (lv' := [(13, .long ((r_15 * r_18) * r_22)), (11, .long (Jw 1 (((49 * sort) + (7 * i)) + j : Int).toNat)), (10, .int (zI j)), (9, .int (zI i)), (5, .long hi_), (7, .long lo_), (4, .int (zI ss)), (3, .int (zI qq)), (2, .int (zI pp)), (1, .int (zI sort)), (0, .ref (h 0))]) hX dX7_side_123 (by decide) rfl ?_
                      refine Z.lload hX dX7_side_125 rfl ?_
                      refine Z.lload hX dX7_side_127 rfl ?_
                      refine Z.bipush hX dX7_side_129 (by decide) ?_
                      refine Z.lshr hX dX7_side_131 rfl ?_
                      refine Z.topl (fun y25 ey25 => ?_)
                      refine Z.lload hX dX7_side_132 rfl ?_
                      refine Z.lmul hX dX7_side_134 ?_
                      refine Z.ladd hX dX7_side_135 ?_
                      refine Z.lstore (lv' := [(5, .long (hi_ + (y25 * ((r_15 * r_18) * r_22)))), (13, .long ((r_15 * r_18) * r_22)), (11, .long (Jw 1 (((49 * sort) + (7 * i)) + j : Int).toNat)), (10, .int (zI j)), (9, .int (zI i)), (7, .long lo_), (4, .int (zI ss)), (3, .int (zI qq)), (2, .int (zI pp)), (1, .int (zI sort)), (0, .ref (h 0))]) hX dX7_side_136 (by decide) rfl ?_
                      refine Z.lload hX dX7_side_138 rfl ?_
                      refine Z.lload hX dX7_side_140 rfl ?_
                      refine Z.ldc2 hX dX7_side_142 co_X7_152 ?_
                      refine Z.land hX dX7_side_145 ?_
                      refine Z.lload hX dX7_side_146 rfl ?_
                      refine Z.lmul hX dX7_side_148 ?_
                      refine Z.ladd hX dX7_side_149 ?_
                      refine Z.lstore (lv' := [(7, .long (lo_ + (((Jw 1 (((49 * sort) + (7 * i)) + j : Int).toNat) &&& 1073741823) * ((r_15 * r_18) * r_22)))), (5, .long (hi_ + (y25 * ((r_15 * r_18) * r_22)))), (13, .long ((r_15 * r_18) * r_22)), (11, .long (Jw 1 (((49 * sort) + (7 * i)) + j : Int).toNat)), (10, .int (zI j)), (9, .int (zI i)), (4, .int (zI ss)), (3, .int (zI qq)), (2, .int (zI pp)), (1, .int (zI sort)), (0, .ref (h 0))]) hX dX7_side_150 (by decide) rfl ?_
                      refine Z.iinc (lv' := [(10, .int (zI (j + 1))), (7, .long (lo_ + (((Jw 1 (((49 * sort) + (7 * i)) + j : Int).toNat) &&& 1073741823) * ((r_15 * r_18) * r_22)))), (5, .long (hi_ + (y25 * ((r_15 * r_18) * r_22)))), (13, .long ((r_15 * r_18) * r_22)), (11, .long (Jw 1 (((49 * sort) + (7 * i)) + j : Int).toNat)), (9, .int (zI i)), (4, .int (zI ss)), (3, .int (zI qq)), (2, .int (zI pp)), (1, .int (zI sort)), (0, .ref (h 0))]) hX dX7_side_152 rfl (by decide) rfl ?_
                      refine Z.goto hX 55 dX7_side_155 (by decide) ?_
                      refine Z.pick [0, 5, 2, 1, 6, 7, 8, 9, 10] rfl ?_
                      exact ih_55 _ _ _ (by omega) (by omega)
              refine Z.pick [0, 1, 2, 3, 4, 5, 6, 7, 8] rfl ?_
              exact key_55 _ _ _ _ (Nat.lt_succ_self _) (by omega)
        refine Z.pick [0, 2, 1, 7, 6, 5, 4, 3] rfl ?_
        exact key_45 _ _ _ _ (Nat.lt_succ_self _) (by omega)
      · intro c7
        refine Z.bipush hX dX7_side_33 (by decide) ?_
        exact hR _ _ _ _ dX7_side_35 ⟨(-8), Fw, Iw, Jw, rfl, rfl, hokw, hIw, (fun q => absurd (by omega) q), hriw, htiw⟩
    · intro c4
      refine Z.bipush hX dX7_side_17 (by decide) ?_
      exact hR _ _ _ _ dX7_side_19 ⟨(-9), F, I, J, rfl, rfl, hok, rfl, (fun _ => rfl), hri, hti⟩

set_option maxHeartbeats 4000000 in
set_option maxRecDepth 100000 in
theorem ct_X7_follows_y (l : Launch) (D : va_G) (ce : Nat → ClassId) (h : Nat → Nat) (F : Nat → Int) (I : Nat → Nat → Int32) (J : Nat → Nat → Int64) (u v : Int) (hok : rOK F I) (hbr : bR (I 0)) (hri : RI F (I 0) (J 0)) (hti : TI F I J) (hu : -2147483648 ≤ u ∧ u < 2147483648) (hv : -2147483648 ≤ v ∧ v < 2147483648) : Ct l yX7_follows cX7_follows 5 (some .int) { frames := 7, cells := 0, slots := 0, locals := 200 } 0 0 D (TY ce) [.ref (h 0), .int (zI u), .int (zI v)] (rW ce h F I J) (QI D (TY ce) (fun r w1 => ∃ z : Int, ∃ F2 : Nat → Int, ∃ I2 : Nat → Nat → Int32, ∃ J2 : Nat → Nat → Int64, r = zI z ∧ w1 = rW ce h F2 I2 J2 ∧ (rOK F2 I2) ∧ (I2 0 = I 0) ∧ (¬ (-9 ≤ u ∧ u ≤ 9 ∧ -9 ≤ v ∧ v ≤ 9 ∧ ¬ (u = 0 ∧ v = 0)) → z = -1) ∧ (RI F2 (I2 0) (J2 0)) ∧ (TI F2 I2 J2) ∧ ((-9 ≤ u ∧ u ≤ 9 ∧ -9 ≤ v ∧ v ≤ 9 ∧ ¬ (u = 0 ∧ v = 0)) → FQ (I 0) F2 (J2 0) ∧ FOL (HS (fP (J2 0)) (F2 1)) (vOf (I 0) 2 u v) z))) := by
  refine Ct.ofI (by decide) (Nat.le_of_ble_eq_true rfl) ?_
  intro p e s m args below meth c A Q hX hnm hR
  refine Z.pick (lv' := [(0, .ref (h 0)), (1, .int (zI u)), (2, .int (zI v))]) [0, 1, 2] rfl ?_
  refine Z.iload_n hX dX7_follows_0 rfl rfl ?_
  refine Z.iload_n hX dX7_follows_1 rfl rfl ?_
  refine Z.callS0i (As := [.int (zI u), .int (zI v)]) (rest := []) hX (ct_X7_isParameter l D ce u v (by omega) (by omega)) mc_X7_isParameter ml_X7_137 st_X7_isParameter ini_X7 nd_X7_isParameter ⟨Nat.le_of_ble_eq_true rfl, Nat.le_of_ble_eq_true rfl⟩ ⟨rfl, rfl⟩ ⟨Nat.le_refl _, Nat.le_refl _⟩ rfl (Nat.le_of_ble_eq_true rfl) dX7_follows_2 ?_
  rintro r_1 w1 ⟨zp, hr_, hw_, hzp⟩
  subst hr_
  refine ⟨hw_, ?_⟩
  refine Z.if_ne hX 10 dX7_follows_5 (by decide) ⟨by omega, by omega⟩ ?_ ?_
  · intro c2
    refine Z.aload_n hX dX7_follows_10 rfl rfl ?_
    refine Z.iconst hX dX7_follows_11 ?_
    refine Z.iload_n hX dX7_follows_12 rfl rfl ?_
    refine Z.iload_n hX dX7_follows_13 rfl rfl ?_
    refine Z.callVfl (As := [.int (zI 2), .int (zI u), .int (zI v)]) (rest := []) hX 7 0 rfl rfl (ct_X7_valueOf_y l D ce h F I J 2 u v hok hbr hri hti (by omega) hu hv) mc_X7_valueOf ml_X7_140 im_X7_valueOf se_X7_valueOf ini_X7 nd_X7_valueOf ⟨Nat.le_of_ble_eq_true rfl, Nat.le_of_ble_eq_true rfl⟩ ⟨rfl, rfl⟩ ⟨Nat.le_refl _, Nat.le_refl _⟩ rfl (Nat.le_of_ble_eq_true rfl) dX7_follows_14 ?_
    rintro xa w1 ⟨r04, Fa, Ia, Ja, hr_, hw_, hoka, hIa, hxa, hka, hria, htia⟩
    subst hr_
    subst hw_
    refine Z.lstore_n (lv' := [(3, .long xa), (0, .ref (h 0)), (1, .int (zI u)), (2, .int (zI v))]) hX dX7_follows_17 rfl (by decide) rfl ?_
    refine Z.aload_n hX dX7_follows_18 rfl rfl ?_
    refine Z.getf hX 7 0 5 dX7_follows_19 rfl rfl inX7 (by decide) fl_X7_17 rfl rfl ?_
    refine Z.iconst hX dX7_follows_22 ?_
    refine Z.zaload hX 3 2 dX7_follows_23 rfl rfl (by omega) (by omega) (by decide) ?_
    refine Z.topi (fun z5 hz5 kz5 ez5 => ?_)
    obtain ⟨hn0, hn1⟩ := fo_has (htia hka) ez5 hz5 kz5
    have hfqa : FQ (I 0) Fa (Ja 0) := by rw [← hIa]; exact hria hka
    refine Z.if_eq hX 33 dX7_follows_24 (by decide) ⟨by omega, by omega⟩ ?_ ?_
    · intro c6
      refine Z.bipush hX dX7_follows_33 (by decide) ?_
      exact hR _ _ _ _ dX7_follows_35 ⟨(-2), Fa, Ia, Ja, rfl, rfl, hoka, hIa, (fun q => absurd (by omega) q), hria, htia, (fun _ => ⟨hfqa, fun q => by first | exact absurd q.1 (hn0 (by assumption)) | exact absurd (hxa.symm.trans (by assumption)) q.2 | exact absurd (by assumption) q.2, fun _ => rfl⟩)⟩
    · intro c6
      refine Z.lload_n hX dX7_follows_27 rfl rfl ?_
      refine Z.lconst (v := 0) hX dX7_follows_28 rfl ?_
      refine Z.lcmp_ne hX 36 dX7_follows_29 dX7_follows_30 (by decide) ?_ ?_
      · intro c7
        refine Z.aload_n hX dX7_follows_36 rfl rfl ?_
        refine Z.iconst hX dX7_follows_37 ?_
        refine Z.aload_n hX dX7_follows_38 rfl rfl ?_
        refine Z.iconst hX dX7_follows_39 ?_
        refine Z.iload_n hX dX7_follows_40 rfl rfl ?_
        refine Z.iload_n hX dX7_follows_41 rfl rfl ?_
        refine Z.callVfl (As := [.int (zI 0), .int (zI u), .int (zI v)]) (rest := [.int (zI 0), .ref (h 0)]) hX 7 0 rfl rfl (ct_X7_valueOf_y l D ce h Fa Ia Ja 0 u v hoka (by rw [hIa]; exact hbr) hria htia (by omega) hu hv) mc_X7_valueOf ml_X7_140 im_X7_valueOf se_X7_valueOf ini_X7 nd_X7_valueOf ⟨Nat.le_of_ble_eq_true rfl, Nat.le_of_ble_eq_true rfl⟩ ⟨rfl, rfl⟩ ⟨Nat.le_refl _, Nat.le_refl _⟩ rfl (Nat.le_of_ble_eq_true rfl) dX7_follows_42 ?_
        rintro xb w1 ⟨r09, Fb, Ib, Jb, hr_, hw_, hokb, hIb, hxb, hkb, hrib, htib⟩
        subst hr_
        subst hw_
        refine Z.aload_n hX dX7_follows_45 rfl rfl ?_
        refine Z.iconst hX dX7_follows_46 ?_
        refine Z.iload_n hX dX7_follows_47 rfl rfl ?_
        refine Z.iload_n hX dX7_follows_48 rfl rfl ?_
        refine Z.callVfl (As := [.int (zI 1), .int (zI u), .int (zI v)]) (rest := [.long xb, .int (zI 0), .ref (h 0)]) hX 7 0 rfl rfl (ct_X7_valueOf_y l D ce h Fb Ib Jb 1 u v hokb (by rw [hIb, hIa]; exact hbr) hrib htib (by omega) hu hv) mc_X7_valueOf ml_X7_140 im_X7_valueOf se_X7_valueOf ini_X7 nd_X7_valueOf ⟨Nat.le_of_ble_eq_true rfl, Nat.le_of_ble_eq_true rfl⟩ ⟨rfl, rfl⟩ ⟨Nat.le_refl _, Nat.le_refl _⟩ rfl (Nat.le_of_ble_eq_true rfl) dX7_follows_49 ?_
        rintro xd w1 ⟨r011, Fd, Id, Jd, hr_, hw_, hokd, hId, hxd, hkd, hrid, htid⟩
        subst hr_
        subst hw_
        have hfqd : FQ (I 0) Fd (Jd 0) := by rw [← hIa, ← hIb, ← hId]; exact hrid hkd
        have hsd : HS (fP (Jd 0)) (Fd 1) := HS_uq hfqa hfqd (hn1 (by assumption))
        obtain ⟨Dg, hD1, hD2, hD3, hD4, hD5⟩ := ((htid hkd).1 hsd).2
        have exb : xb = vOf (I 0) 0 u v := by rw [hxb, hIa]
        have exd : xd = vOf (I 0) 1 u v := by rw [hxd, hIb, hIa]
        have hw0 : ¬ vOf (I 0) 2 u v = 0 := by rw [← hxa]; assumption
        refine Z.lload_n hX dX7_follows_52 rfl rfl ?_
        refine Z.callVfi (As := [.int (zI 0), .long xb, .long xd, .long xa]) (rest := []) hX 7 0 rfl rfl (ct_X7_isOn_y l D ce h Fd Id Jd xb xd xa Dg ⟨hD1, hD2, hD3⟩ hD4) mc_X7_isOn ml_X7_165 im_X7_isOn se_X7_isOn ini_X7 nd_X7_isOn ⟨Nat.le_of_ble_eq_true rfl, Nat.le_of_ble_eq_true rfl⟩ ⟨rfl, rfl⟩ ⟨Nat.le_refl _, Nat.le_refl _⟩ rfl (Nat.le_of_ble_eq_true rfl) dX7_follows_53 ?_
        rintro r_12 w1 ⟨zo, hr_, hw_, ho1, ho2⟩
        subst hr_
        subst hw_
        have hz1 : zo = 1 := ho2 (by rw [exb, exd, hxa]; exact tr_ts hbr hfqd hsd.1 (by omega) (by omega) ⟨hD1, hD2⟩ hD4 hD5 hw0)
        exact hR _ _ _ _ dX7_follows_56 ⟨zo, Fd, Id, Jd, rfl, rfl, hokd, (hId.trans (hIb.trans hIa)), (fun q => absurd (by omega) q), hrid, htid, (fun _ => ⟨hfqd, fun _ => hz1, fun q => absurd ⟨hsd, hw0⟩ q⟩)⟩
      · intro c7
        refine Z.bipush hX dX7_follows_33 (by decide) ?_
        exact hR _ _ _ _ dX7_follows_35 ⟨(-2), Fa, Ia, Ja, rfl, rfl, hoka, hIa, (fun q => absurd (by omega) q), hria, htia, (fun _ => ⟨hfqa, fun q => by first | exact absurd q.1 (hn0 (by assumption)) | exact absurd (hxa.symm.trans (by assumption)) q.2 | exact absurd (by assumption) q.2, fun _ => rfl⟩)⟩
  · intro c2
    refine Z.iconst hX dX7_follows_8 ?_
    exact hR _ _ _ _ dX7_follows_9 ⟨(-1), F, I, J, rfl, rfl, hok, rfl, (fun _ => rfl), hri, hti, (fun q => absurd q (by omega))⟩

set_option maxHeartbeats 4000000 in
set_option maxRecDepth 100000 in
theorem ct_X7_touches_y (l : Launch) (D : va_G) (ce : Nat → ClassId) (h : Nat → Nat) (F : Nat → Int) (I : Nat → Nat → Int32) (J : Nat → Nat → Int64) (u v : Int) (hok : rOK F I) (hbr : bR (I 0)) (hri : RI F (I 0) (J 0)) (hti : TI F I J) (hu : -2147483648 ≤ u ∧ u < 2147483648) (hv : -2147483648 ≤ v ∧ v < 2147483648) : Ct l yX7_touches cX7_touches 17 (some .int) { frames := 6, cells := 0, slots := 0, locals := 174 } 0 0 D (TY ce) [.ref (h 0), .int (zI u), .int (zI v)] (rW ce h F I J) (QI D (TY ce) (fun r w1 => ∃ z : Int, ∃ F2 : Nat → Int, ∃ I2 : Nat → Nat → Int32, ∃ J2 : Nat → Nat → Int64, r = zI z ∧ w1 = rW ce h F2 I2 J2 ∧ (rOK F2 I2) ∧ (I2 0 = I 0) ∧ (¬ (-9 ≤ u ∧ u ≤ 9 ∧ -9 ≤ v ∧ v ≤ 9 ∧ ¬ (u = 0 ∧ v = 0)) → z = -1) ∧ (RI F2 (I2 0) (J2 0)) ∧ (TI F2 I2 J2))) := by
  refine Ct.ofI (by decide) (Nat.le_of_ble_eq_true rfl) ?_
  intro p e s m args below meth c A Q hX hnm hR
  refine Z.pick (lv' := [(0, .ref (h 0)), (1, .int (zI u)), (2, .int (zI v))]) [0, 1, 2] rfl ?_
  refine Z.iload_n hX dX7_touches_0 rfl rfl ?_
  refine Z.iload_n hX dX7_touches_1 rfl rfl ?_
  refine Z.callS0i (As := [.int (zI u), .int (zI v)]) (rest := []) hX (ct_X7_isParameter l D ce u v (by omega) (by omega)) mc_X7_isParameter ml_X7_137 st_X7_isParameter ini_X7 nd_X7_isParameter ⟨Nat.le_of_ble_eq_true rfl, Nat.le_of_ble_eq_true rfl⟩ ⟨rfl, rfl⟩ ⟨Nat.le_refl _, Nat.le_refl _⟩ rfl (Nat.le_of_ble_eq_true rfl) dX7_touches_2 ?_
  rintro r_1 w1 ⟨zp, hr_, hw_, hzp⟩
  subst hr_
  refine ⟨hw_, ?_⟩
  refine Z.if_ne hX 10 dX7_touches_5 (by decide) ⟨by omega, by omega⟩ ?_ ?_
  · intro c2
    refine Z.aload_n hX dX7_touches_10 rfl rfl ?_
    refine Z.callVfv (As := []) (rest := []) hX 7 0 rfl rfl (ct_X7_work_y l D ce h F I J hok hbr hri hti) mc_X7_work ml_X7_130 im_X7_work se_X7_work ini_X7 nd_X7_work ⟨Nat.le_of_ble_eq_true rfl, Nat.le_of_ble_eq_true rfl⟩ ⟨rfl, rfl⟩ ⟨Nat.le_refl _, Nat.le_refl _⟩ rfl (Nat.le_of_ble_eq_true rfl) dX7_touches_11 ?_
    rintro w1 ⟨Fw, Iw, Jw, hw_, hokw, hfw, hmow, hIw, hdgw, hfqw, hhtw⟩
    subst hw_
    have hriw : RI Fw (Iw 0) (Jw 0) := fun _ => by rw [hIw]; exact hfqw
    have htiw : TI Fw Iw Jw := fun _ => hhtw
    refine Z.aload_n hX dX7_touches_14 rfl rfl ?_
    refine Z.getf hX 7 0 5 dX7_touches_15 rfl rfl inX7 (by decide) fl_X7_17 rfl rfl ?_
    refine Z.iconst hX dX7_touches_18 ?_
    refine Z.zaload hX 3 2 dX7_touches_19 rfl rfl (by omega) (by omega) (by decide) ?_
    refine Z.topi (fun z4 hz4 kz4 ez4 => ?_)
    refine Z.if_ne hX 26 dX7_touches_20 (by decide) ⟨by omega, by omega⟩ ?_ ?_
    · intro c5
      refine Z.aload_n hX dX7_touches_26 rfl rfl ?_
      refine Z.iconst hX dX7_touches_27 ?_
      refine Z.iconst hX dX7_touches_28 ?_
      refine Z.iload_n hX dX7_touches_29 rfl rfl ?_
      refine Z.iload_n hX dX7_touches_30 rfl rfl ?_
      refine Z.callVfl (As := [.int (zI 0), .int (zI 0), .int (zI u), .int (zI v)]) (rest := []) hX 7 0 rfl rfl (ct_X7_slope l D ce h Fw Iw Jw 0 0 u v (by omega) (by omega) (by omega) hu hv) mc_X7_slope ml_X7_169 im_X7_slope se_X7_slope ini_X7 nd_X7_slope ⟨Nat.le_of_ble_eq_true rfl, Nat.le_of_ble_eq_true rfl⟩ ⟨rfl, rfl⟩ ⟨Nat.le_refl _, Nat.le_refl _⟩ rfl (Nat.le_of_ble_eq_true rfl) dX7_touches_31 ?_
      rintro r_6 w1 ⟨r07, hr_, hw_⟩
      subst hr_
      subst hw_
      refine Z.lstore_n (lv' := [(3, .long r_6), (0, .ref (h 0)), (1, .int (zI u)), (2, .int (zI v))]) hX dX7_touches_34 rfl (by decide) rfl ?_
      refine Z.aload_n hX dX7_touches_35 rfl rfl ?_
      refine Z.iconst hX dX7_touches_36 ?_
      refine Z.iconst hX dX7_touches_37 ?_
      refine Z.iload_n hX dX7_touches_38 rfl rfl ?_
      refine Z.iload_n hX dX7_touches_39 rfl rfl ?_
      refine Z.callVfl (As := [.int (zI 1), .int (zI 0), .int (zI u), .int (zI v)]) (rest := []) hX 7 0 rfl rfl (ct_X7_slope l D ce h Fw Iw Jw 1 0 u v (by omega) (by omega) (by omega) hu hv) mc_X7_slope ml_X7_169 im_X7_slope se_X7_slope ini_X7 nd_X7_slope ⟨Nat.le_of_ble_eq_true rfl, Nat.le_of_ble_eq_true rfl⟩ ⟨rfl, rfl⟩ ⟨Nat.le_refl _, Nat.le_refl _⟩ rfl (Nat.le_of_ble_eq_true rfl) dX7_touches_40 ?_
      rintro r_8 w1 ⟨r09, hr_, hw_⟩
      subst hr_
      subst hw_
      refine Z.lstore (lv' := [(5, .long r_8), (3, .long r_6), (0, .ref (h 0)), (1, .int (zI u)), (2, .int (zI v))]) hX dX7_touches_43 (by decide) rfl ?_
      refine Z.aload_n hX dX7_touches_45 rfl rfl ?_
      refine Z.iconst hX dX7_touches_46 ?_
      refine Z.iconst hX dX7_touches_47 ?_
      refine Z.iload_n hX dX7_touches_48 rfl rfl ?_
      refine Z.iload_n hX dX7_touches_49 rfl rfl ?_
      refine Z.callVfl (As := [.int (zI 2), .int (zI 0), .int (zI u), .int (zI v)]) (rest := []) hX 7 0 rfl rfl (ct_X7_slope l D ce h Fw Iw Jw 2 0 u v (by omega) (by omega) (by omega) hu hv) mc_X7_slope ml_X7_169 im_X7_slope se_X7_slope ini_X7 nd_X7_slope ⟨Nat.le_of_ble_eq_true rfl, Nat.le_of_ble_eq_true rfl⟩ ⟨rfl, rfl⟩ ⟨Nat.le_refl _, Nat.le_refl _⟩ rfl (Nat.le_of_ble_eq_true rfl) dX7_touches_50 ?_
      rintro r_10 w1 ⟨r011, hr_, hw_⟩
      subst hr_
      subst hw_
      refine Z.lstore (lv' := [(7, .long r_10), (5, .long r_8), (3, .long r_6), (0, .ref (h 0)), (1, .int (zI u)), (2, .int (zI v))]) hX dX7_touches_53 (by decide) rfl ?_
      refine Z.aload_n hX dX7_touches_55 rfl rfl ?_
      refine Z.iconst hX dX7_touches_56 ?_
      refine Z.iconst hX dX7_touches_57 ?_
      refine Z.iload_n hX dX7_touches_58 rfl rfl ?_
      refine Z.iload_n hX dX7_touches_59 rfl rfl ?_
      refine Z.callVfl (As := [.int (zI 0), .int (zI 1), .int (zI u), .int (zI v)]) (rest := []) hX 7 0 rfl rfl (ct_X7_slope l D ce h Fw Iw Jw 0 1 u v (by omega) (by omega) (by omega) hu hv) mc_X7_slope ml_X7_169 im_X7_slope se_X7_slope ini_X7 nd_X7_slope ⟨Nat.le_of_ble_eq_true rfl, Nat.le_of_ble_eq_true rfl⟩ ⟨rfl, rfl⟩ ⟨Nat.le_refl _, Nat.le_refl _⟩ rfl (Nat.le_of_ble_eq_true rfl) dX7_touches_60 ?_
      rintro r_12 w1 ⟨r013, hr_, hw_⟩
      subst hr_
      subst hw_
      refine Z.lstore (lv' := [(9, .long r_12), (7, .long r_10), (5, .long r_8), (3, .long r_6), (0, .ref (h 0)), (1, .int (zI u)), (2, .int (zI v))]) hX dX7_touches_63 (by decide) rfl ?_
      refine Z.aload_n hX dX7_touches_65 rfl rfl ?_
      refine Z.iconst hX dX7_touches_66 ?_
      refine Z.iconst hX dX7_touches_67 ?_
      refine Z.iload_n hX dX7_touches_68 rfl rfl ?_
      refine Z.iload_n hX dX7_touches_69 rfl rfl ?_
      refine Z.callVfl (As := [.int (zI 1), .int (zI 1), .int (zI u), .int (zI v)]) (rest := []) hX 7 0 rfl rfl (ct_X7_slope l D ce h Fw Iw Jw 1 1 u v (by omega) (by omega) (by omega) hu hv) mc_X7_slope ml_X7_169 im_X7_slope se_X7_slope ini_X7 nd_X7_slope ⟨Nat.le_of_ble_eq_true rfl, Nat.le_of_ble_eq_true rfl⟩ ⟨rfl, rfl⟩ ⟨Nat.le_refl _, Nat.le_refl _⟩ rfl (Nat.le_of_ble_eq_true rfl) dX7_touches_70 ?_
      rintro r_14 w1 ⟨r015, hr_, hw_⟩
      subst hr_
      subst hw_
      refine Z.lstore (lv' := [(11, .long r_14), (9, .long r_12), (7, .long r_10), (5, .long r_8), (3, .long r_6), (0, .ref (h 0)), (1, .int (zI u)), (2, .int (zI v))]) hX dX7_touches_73 (by decide) rfl ?_
      refine Z.aload_n hX dX7_touches_75 rfl rfl ?_
      refine Z.iconst hX dX7_touches_76 ?_
      refine Z.iconst hX dX7_touches_77 ?_
      refine Z.iload_n hX dX7_touches_78 rfl rfl ?_
      refine Z.iload_n hX dX7_touches_79 rfl rfl ?_
      refine Z.callVfl (As := [.int (zI 2), .int (zI 1), .int (zI u), .int (zI v)]) (rest := []) hX 7 0 rfl rfl (ct_X7_slope l D ce h Fw Iw Jw 2 1 u v (by omega) (by omega) (by omega) hu hv) mc_X7_slope ml_X7_169 im_X7_slope se_X7_slope ini_X7 nd_X7_slope ⟨Nat.le_of_ble_eq_true rfl, Nat.le_of_ble_eq_true rfl⟩ ⟨rfl, rfl⟩ ⟨Nat.le_refl _, Nat.le_refl _⟩ rfl (Nat.le_of_ble_eq_true rfl) dX7_touches_80 ?_
      rintro r_16 w1 ⟨r017, hr_, hw_⟩
      subst hr_
      subst hw_
      refine Z.lstore (lv' := [(13, .long r_16), (11, .long r_14), (9, .long r_12), (7, .long r_10), (5, .long r_8), (3, .long r_6), (0, .ref (h 0)), (1, .int (zI u)), (2, .int (zI v))]) hX dX7_touches_83 (by decide) rfl ?_
      refine Z.lload_n hX dX7_touches_85 rfl rfl ?_
      refine Z.lload hX dX7_touches_86 rfl ?_
      refine Z.lmul hX dX7_touches_88 ?_
      refine Z.lload hX dX7_touches_89 rfl ?_
      refine Z.lload hX dX7_touches_91 rfl ?_
      refine Z.lmul hX dX7_touches_93 ?_
      refine Z.lsub hX dX7_touches_94 ?_
      refine Z.lstore (lv' := [(15, .long ((r_6 * r_14) - (r_8 * r_12))), (13, .long r_16), (11, .long r_14), (9, .long r_12), (7, .long r_10), (5, .long r_8), (3, .long r_6), (0, .ref (h 0)), (1, .int (zI u)), (2, .int (zI v))]) hX dX7_touches_95 (by decide) rfl ?_
      refine Z.lload hX dX7_touches_97 rfl ?_
      refine Z.lconst (v := 0) hX dX7_touches_99 rfl ?_
      refine Z.lcmp_ne hX 107 dX7_touches_100 dX7_touches_101 (by decide) ?_ ?_
      · intro c18
        refine Z.aload_n hX dX7_touches_107 rfl rfl ?_
        refine Z.iconst hX dX7_touches_108 ?_
        refine Z.lload hX dX7_touches_109 rfl ?_
        refine Z.lload hX dX7_touches_111 rfl ?_
        refine Z.lmul hX dX7_touches_113 ?_
        refine Z.lload hX dX7_touches_114 rfl ?_
        refine Z.lload hX dX7_touches_116 rfl ?_
        refine Z.lmul hX dX7_touches_118 ?_
        refine Z.lsub hX dX7_touches_119 ?_
        refine Z.lload hX dX7_touches_120 rfl ?_
        refine Z.lload hX dX7_touches_122 rfl ?_
        refine Z.lmul hX dX7_touches_124 ?_
        refine Z.lload_n hX dX7_touches_125 rfl rfl ?_
        refine Z.lload hX dX7_touches_126 rfl ?_
        refine Z.lmul hX dX7_touches_128 ?_
        refine Z.lsub hX dX7_touches_129 ?_
        refine Z.lload hX dX7_touches_130 rfl ?_
        refine Z.callVfi (As := [.int (zI 1), .long ((r_8 * r_16) - (r_10 * r_14)), .long ((r_10 * r_12) - (r_6 * r_16)), .long ((r_6 * r_14) - (r_8 * r_12))]) (rest := []) hX 7 0 rfl rfl (ct_X7_isOn l D ce h Fw Iw Jw 1 ((r_8 * r_16) - (r_10 * r_14)) ((r_10 * r_12) - (r_6 * r_16)) ((r_6 * r_14) - (r_8 * r_12)) (by omega) hdgw) mc_X7_isOn ml_X7_165 im_X7_isOn se_X7_isOn ini_X7 nd_X7_isOn ⟨Nat.le_of_ble_eq_true rfl, Nat.le_of_ble_eq_true rfl⟩ ⟨rfl, rfl⟩ ⟨Nat.le_refl _, Nat.le_refl _⟩ rfl (Nat.le_of_ble_eq_true rfl) dX7_touches_132 ?_
        rintro r_19 w1 ⟨z20, hr_, hw_, hq21⟩
        subst hr_
        subst hw_
        exact hR _ _ _ _ dX7_touches_135 ⟨z20, Fw, Iw, Jw, rfl, rfl, hokw, hIw, (fun q => absurd (by omega) q), hriw, htiw⟩
      · intro c18
        refine Z.bipush hX dX7_touches_104 (by decide) ?_
        exact hR _ _ _ _ dX7_touches_106 ⟨(-2), Fw, Iw, Jw, rfl, rfl, hokw, hIw, (fun q => absurd (by omega) q), hriw, htiw⟩
    · intro c5
      refine Z.bipush hX dX7_touches_23 (by decide) ?_
      exact hR _ _ _ _ dX7_touches_25 ⟨(-2), Fw, Iw, Jw, rfl, rfl, hokw, hIw, (fun q => absurd (by omega) q), hriw, htiw⟩
  · intro c2
    refine Z.iconst hX dX7_touches_8 ?_
    exact hR _ _ _ _ dX7_touches_9 ⟨(-1), F, I, J, rfl, rfl, hok, rfl, (fun _ => rfl), hri, hti⟩

set_option maxHeartbeats 4000000 in
set_option maxRecDepth 100000 in
theorem ct_X7_term_y (l : Launch) (D : va_G) (ce : Nat → ClassId) (h : Nat → Nat) (F : Nat → Int) (I : Nat → Nat → Int32) (J : Nat → Nat → Int64) (wh i v : Int) (hok : rOK F I) (hbr : bR (I 0)) (hri : RI F (I 0) (J 0)) (hti : TI F I J) (hw : -2147483648 ≤ wh ∧ wh < 2147483648) (hi : -2147483648 ≤ i ∧ i < 2147483648) (hv : -2147483648 ≤ v ∧ v < 2147483648) : Ct l yX7_term cX7_term 5 (some .int) { frames := 0, cells := 0, slots := 0, locals := 0 } 0 0 D (TY ce) [.ref (h 0), .int (zI wh), .int (zI i), .int (zI v)] (rW ce h F I J) (QI D (TY ce) (fun r w1 => ∃ z : Int, ∃ F2 : Nat → Int, ∃ I2 : Nat → Nat → Int32, ∃ J2 : Nat → Nat → Int64, r = zI z ∧ w1 = rW ce h F2 I2 J2 ∧ (rOK F2 I2) ∧ (¬ (0 ≤ wh ∧ wh ≤ 2 ∧ 0 ≤ i ∧ i ≤ 4 ∧ -7 ≤ v ∧ v ≤ 7) → z = -100 ∧ I2 0 = I 0) ∧ ((0 ≤ wh ∧ wh ≤ 2 ∧ 0 ≤ i ∧ i ≤ 4 ∧ -7 ≤ v ∧ v ≤ 7) → I 0 (5 * wh + i).toNat = zI z ∧ I2 0 = upd (I 0) (5 * wh + i).toNat (zI v)) ∧ (RI F2 (I2 0) (J2 0)) ∧ (TI F2 I2 J2))) := by
  refine Ct.ofI (by decide) (Nat.le_of_ble_eq_true rfl) ?_
  intro p e s m args below meth c A Q hX hnm hR
  refine Z.pick (lv' := [(0, .ref (h 0)), (1, .int (zI wh)), (2, .int (zI i)), (3, .int (zI v))]) [0, 1, 2, 3] rfl ?_
  obtain ⟨hF, hF2, hkn, hdg⟩ := id hok
  refine Z.iload_n hX dX7_term_0 rfl rfl ?_
  refine Z.if_lt hX 30 dX7_term_1 (by decide) ⟨by omega, by omega⟩ ?_ ?_
  · intro c1
    refine Z.bipush hX dX7_term_30 (by decide) ?_
    exact hR _ _ _ _ dX7_term_32 ⟨(-100), F, I, J, rfl, rfl, hok, (fun _ => ⟨rfl, rfl⟩), (fun q => by omega), hri, hti⟩
  · intro c1
    refine Z.iload_n hX dX7_term_4 rfl rfl ?_
    refine Z.iconst hX dX7_term_5 ?_
    refine Z.icmp_gt hX 30 dX7_term_6 (by decide) ⟨by omega, by omega⟩ ⟨by omega, by omega⟩ ?_ ?_
    · intro c2
      refine Z.bipush hX dX7_term_30 (by decide) ?_
      exact hR _ _ _ _ dX7_term_32 ⟨(-100), F, I, J, rfl, rfl, hok, (fun _ => ⟨rfl, rfl⟩), (fun q => by omega), hri, hti⟩
    · intro c2
      refine Z.iload_n hX dX7_term_9 rfl rfl ?_
      refine Z.if_lt hX 30 dX7_term_10 (by decide) ⟨by omega, by omega⟩ ?_ ?_
      · intro c3
        refine Z.bipush hX dX7_term_30 (by decide) ?_
        exact hR _ _ _ _ dX7_term_32 ⟨(-100), F, I, J, rfl, rfl, hok, (fun _ => ⟨rfl, rfl⟩), (fun q => by omega), hri, hti⟩
      · intro c3
        refine Z.iload_n hX dX7_term_13 rfl rfl ?_
        refine Z.iconst hX dX7_term_14 ?_
        refine Z.icmp_gt hX 30 dX7_term_15 (by decide) ⟨by omega, by omega⟩ ⟨by omega, by omega⟩ ?_ ?_
        · intro c4
          refine Z.bipush hX dX7_term_30 (by decide) ?_
          exact hR _ _ _ _ dX7_term_32 ⟨(-100), F, I, J, rfl, rfl, hok, (fun _ => ⟨rfl, rfl⟩), (fun q => by omega), hri, hti⟩
        · intro c4
          refine Z.iload_n hX dX7_term_18 rfl rfl ?_
          refine Z.bipush hX dX7_term_19 (by decide) ?_
          refine Z.icmp_lt hX 30 dX7_term_21 (by decide) ⟨by omega, by omega⟩ ⟨by omega, by omega⟩ ?_ ?_
          · intro c5
            refine Z.bipush hX dX7_term_30 (by decide) ?_
            exact hR _ _ _ _ dX7_term_32 ⟨(-100), F, I, J, rfl, rfl, hok, (fun _ => ⟨rfl, rfl⟩), (fun q => by omega), hri, hti⟩
          · intro c5
            refine Z.iload_n hX dX7_term_24 rfl rfl ?_
            refine Z.bipush hX dX7_term_25 (by decide) ?_
            refine Z.icmp_le hX 33 dX7_term_27 (by decide) ⟨by omega, by omega⟩ ⟨by omega, by omega⟩ ?_ ?_
            · intro c6
              refine Z.aload_n hX dX7_term_33 rfl rfl ?_
              refine Z.getf hX 7 0 0 dX7_term_34 rfl rfl inX7 (by decide) fl_X7_7 rfl rfl ?_
              refine Z.iconst hX dX7_term_37 ?_
              refine Z.iload_n hX dX7_term_38 rfl rfl ?_
              refine Z.imul hX dX7_term_39 ?_
              refine Z.iload_n hX dX7_term_40 rfl rfl ?_
              refine Z.iadd hX dX7_term_41 ?_
              refine Z.iaload hX 1 0 dX7_term_42 rfl rfl (by omega) (by omega) (by decide) ?_
              refine Z.topi (fun z7 hz7 kz7 ez7 => ?_)
              refine Z.istore (lv' := [(4, .int (zI z7)), (0, .ref (h 0)), (1, .int (zI wh)), (2, .int (zI i)), (3, .int (zI v))]) hX dX7_term_43 (by decide) rfl ?_
              refine Z.aload_n hX dX7_term_45 rfl rfl ?_
              refine Z.getf hX 7 0 0 dX7_term_46 rfl rfl inX7 (by decide) fl_X7_7 rfl rfl ?_
              refine Z.iconst hX dX7_term_49 ?_
              refine Z.iload_n hX dX7_term_50 rfl rfl ?_
              refine Z.imul hX dX7_term_51 ?_
              refine Z.iload_n hX dX7_term_52 rfl rfl ?_
              refine Z.iadd hX dX7_term_53 ?_
              refine Z.iload_n hX dX7_term_54 rfl rfl ?_
              refine Z.iastore hX 1 0 dX7_term_55 rfl rfl (by omega) (by omega) (by decide) ?_
              obtain ⟨I8, eI8⟩ : ∃ J' : Nat → Nat → Int32, J' = va_up I 0 (upd (I 0) ((5 * wh) + i : Int).toNat (zI (v))) := ⟨_, rfl⟩
              refine Z.toW (w' := rW ce h F I8 J) (by rw [eI8]; rfl) ?_
              have gI8 : I8 0 = upd (I 0) ((5 * wh) + i : Int).toNat (zI (v)) := by rw [eI8]; exact up_eq
              have fI8 : ∀ j_, j_ ≠ 0 → I8 j_ = I j_ := fun j_ hj_ => by rw [eI8]; exact up_ne hj_
              refine Z.aload_n hX dX7_term_56 rfl rfl ?_
              refine Z.iconst hX dX7_term_57 ?_
              refine Z.putf (ty := .boolean) hX 7 0 4 tyX7 dX7_term_58 rfl rfl inX7 tyX7_ok nmX7 (by decide) fl_X7_54 rfl rfl (by decide +kernel) rfl rfl (Nat.le_of_ble_eq_true rfl) ?_
              obtain ⟨F9, eF9⟩ : ∃ F' : Nat → Int, F' = va_up F 2 (0) := ⟨_, rfl⟩
              refine Z.toW (w' := rW ce h F9 I8 J) (by rw [eF9]; rfl) ?_
              have eF9_0 : F9 0 = F 0 := by rw [eF9]; rfl
              have eF9_1 : F9 1 = F 1 := by rw [eF9]; rfl
              have eF9_2 : F9 2 = 0 := by rw [eF9]; rfl
              refine Z.iload hX dX7_term_61 rfl ?_
              exact hR _ _ _ _ dX7_term_63 ⟨z7, F9, I8, J, rfl, rfl, (rOK_u (by omega) (by omega) (by rw [fI8 2 (by decide)]; exact hdg)), (fun q => absurd (by omega) q), (fun _ => ⟨by assumption, gI8⟩), (fun q => by omega), (fun q => by omega)⟩
            · intro c6
              refine Z.bipush hX dX7_term_30 (by decide) ?_
              exact hR _ _ _ _ dX7_term_32 ⟨(-100), F, I, J, rfl, rfl, hok, (fun _ => ⟨rfl, rfl⟩), (fun q => by omega), hri, hti⟩

set_option maxHeartbeats 4000000 in
set_option maxRecDepth 100000 in
theorem ct_X7_clear_y (l : Launch) (D : va_G) (ce : Nat → ClassId) (h : Nat → Nat) (F : Nat → Int) (I : Nat → Nat → Int32) (J : Nat → Nat → Int64) (hok : rOK F I) (hbr : bR (I 0)) (hri : RI F (I 0) (J 0)) (hti : TI F I J) : Ct l yX7_clear cX7_clear 3 (some .int) { frames := 0, cells := 0, slots := 0, locals := 0 } 0 0 D (TY ce) [.ref (h 0)] (rW ce h F I J) (QI D (TY ce) (fun r w1 => ∃ z : Int, ∃ F2 : Nat → Int, ∃ I2 : Nat → Nat → Int32, ∃ J2 : Nat → Nat → Int64, r = zI z ∧ w1 = rW ce h F2 I2 J2 ∧ (rOK F2 I2) ∧ (z = cntK (I 0) 15) ∧ (∀ q : Int, 0 ≤ q → q < 15 → I2 0 q.toNat = 0) ∧ (RI F2 (I2 0) (J2 0)) ∧ (TI F2 I2 J2))) := by
  refine Ct.ofI (by decide) (Nat.le_of_ble_eq_true rfl) ?_
  intro p e s m args below meth c A Q hX hnm hR
  refine Z.pick (lv' := [(0, .ref (h 0))]) [0] rfl ?_
  obtain ⟨hF, hF2, hkn, hdg⟩ := id hok
  refine Z.iconst hX dX7_clear_0 ?_
  refine Z.istore_n (lv' := [(1, .int (zI 0)), (0, .ref (h 0))]) hX dX7_clear_1 rfl (by decide) rfl ?_
  refine Z.iconst hX dX7_clear_2 ?_
  refine Z.istore_n (lv' := [(2, .int (zI 0)), (1, .int (zI 0)), (0, .ref (h 0))]) hX dX7_clear_3 rfl (by decide) rfl ?_
  have key_4 : ∀ (N : Nat), ∀ (k n : Int) (K : Nat → Nat → Int32), (15 - k).toNat < N → (hk : 0 ≤ k ∧ k ≤ 15) → (hn : n = cntK (I 0) k.toNat) → (hn2 : 0 ≤ n ∧ n ≤ k) → (hK : ∀ q : Int, 0 ≤ q → K 0 q.toNat = if q < k then 0 else I 0 q.toNat) → (hfr : ∀ k, k ≠ 0 → K k = I k) → Z p l e { frames := 0, cells := 0, slots := 0, locals := 0 } s m args below meth c D A 3 0 0 Q 4 [(2, .int (zI k)), (1, .int (zI n)), (0, .ref (h 0))] [] (rW ce h F K J) := by
    intro N
    induction N with
    | zero => intro k n K hm; exact absurd hm (Nat.not_lt_zero _)
    | succ N ih_4 =>
      intro k n K hm hk hn hn2 hK hfr
      refine Z.iload_n hX dX7_clear_4 rfl rfl ?_
      refine Z.bipush hX dX7_clear_5 (by decide) ?_
      refine Z.icmp_ge hX 40 dX7_clear_7 (by decide) ⟨by omega, by omega⟩ ⟨by omega, by omega⟩ ?_ ?_
      · intro c1
        refine Z.aload_n hX dX7_clear_40 rfl rfl ?_
        refine Z.iconst hX dX7_clear_41 ?_
        refine Z.putf (ty := .boolean) hX 7 0 4 tyX7 dX7_clear_42 rfl rfl inX7 tyX7_ok nmX7 (by decide) fl_X7_54 rfl rfl (by decide +kernel) rfl rfl (Nat.le_of_ble_eq_true rfl) ?_
        obtain ⟨F2, eF2⟩ : ∃ F' : Nat → Int, F' = va_up F 2 (0) := ⟨_, rfl⟩
        refine Z.toW (w' := rW ce h F2 K J) (by rw [eF2]; rfl) ?_
        have eF2_0 : F2 0 = F 0 := by rw [eF2]; rfl
        have eF2_1 : F2 1 = F 1 := by rw [eF2]; rfl
        have eF2_2 : F2 2 = 0 := by rw [eF2]; rfl
        refine Z.iload_n hX dX7_clear_45 rfl rfl ?_
        exact hR _ _ _ _ dX7_clear_46 ⟨n, F2, K, J, rfl, rfl, (rOK_u (by omega) (by omega) (by rw [hfr 2 (by decide)]; exact hdg)), (by rw [hn, show k = 15 by omega]; rfl), (fun q h1 h2 => by rw [hK q h1, if_pos (by omega)]), (fun q => by omega), (fun q => by omega)⟩
      · intro c1
        refine Z.iload_n hX dX7_clear_10 rfl rfl ?_
        refine Z.aload_n hX dX7_clear_11 rfl rfl ?_
        refine Z.getf hX 7 0 0 dX7_clear_12 rfl rfl inX7 (by decide) fl_X7_7 rfl rfl ?_
        refine Z.iload_n hX dX7_clear_15 rfl rfl ?_
        refine Z.iaload hX 1 0 dX7_clear_16 rfl rfl (by omega) (by omega) (by decide) ?_
        refine Z.topi (fun z3 hz3 kz3 ez3 => ?_)
        refine Z.if_eq hX 24 dX7_clear_17 (by decide) ⟨by omega, by omega⟩ ?_ ?_
        · intro c4
          refine Z.iconst hX dX7_clear_24 ?_
          refine Z.iadd hX dX7_clear_25 ?_
          refine Z.istore_n (lv' := [(1, .int (zI (n + 0))), (2, .int (zI k)), (0, .ref (h 0))]) hX dX7_clear_26 rfl (by decide) rfl ?_
          refine Z.aload_n hX dX7_clear_27 rfl rfl ?_
          refine Z.getf hX 7 0 0 dX7_clear_28 rfl rfl inX7 (by decide) fl_X7_7 rfl rfl ?_
          refine Z.iload_n hX dX7_clear_31 rfl rfl ?_
          refine Z.iconst hX dX7_clear_32 ?_
          refine Z.iastore hX 1 0 dX7_clear_33 rfl rfl (by omega) (by omega) (by decide) ?_
          obtain ⟨I5, eI5⟩ : ∃ J' : Nat → Nat → Int32, J' = va_up K 0 (upd (K 0) (k : Int).toNat (zI (0))) := ⟨_, rfl⟩
          refine Z.toW (w' := rW ce h F I5 J) (by rw [eI5]; rfl) ?_
          have gI5 : I5 0 = upd (K 0) (k : Int).toNat (zI (0)) := by rw [eI5]; exact up_eq
          have fI5 : ∀ j_, j_ ≠ 0 → I5 j_ = K j_ := fun j_ hj_ => by rw [eI5]; exact up_ne hj_
          refine Z.iinc (lv' := [(2, .int (zI (k + 1))), (1, .int (zI (n + 0))), (0, .ref (h 0))]) hX dX7_clear_34 rfl (by decide) rfl ?_
          refine Z.goto hX 4 dX7_clear_37 (by decide) ?_
          refine Z.pick [0, 1, 2] rfl ?_
          exact ih_4 _ _ _ (by omega) (by omega) (cnt_s hk.1 hn (by rw [hK k hk.1, if_neg (by omega)] at *; assumption) ⟨by assumption, by assumption⟩ (by first | exact Or.inl ⟨by assumption, rfl⟩ | exact Or.inr ⟨by assumption, rfl⟩)) (by omega) (clr_s hk.1 gI5 hK) (fun j_ h_0 => ((fI5 j_ h_0).trans (hfr j_ h_0)))
        · intro c4
          refine Z.iconst hX dX7_clear_20 ?_
          refine Z.goto hX 25 dX7_clear_21 (by decide) ?_
          refine Z.iadd hX dX7_clear_25 ?_
          refine Z.istore_n (lv' := [(1, .int (zI (n + 1))), (2, .int (zI k)), (0, .ref (h 0))]) hX dX7_clear_26 rfl (by decide) rfl ?_
          refine Z.aload_n hX dX7_clear_27 rfl rfl ?_
          refine Z.getf hX 7 0 0 dX7_clear_28 rfl rfl inX7 (by decide) fl_X7_7 rfl rfl ?_
          refine Z.iload_n hX dX7_clear_31 rfl rfl ?_
          refine Z.iconst hX dX7_clear_32 ?_
          refine Z.iastore hX 1 0 dX7_clear_33 rfl rfl (by omega) (by omega) (by decide) ?_
          obtain ⟨I6, eI6⟩ : ∃ J' : Nat → Nat → Int32, J' = va_up K 0 (upd (K 0) (k : Int).toNat (zI (0))) := ⟨_, rfl⟩
          refine Z.toW (w' := rW ce h F I6 J) (by rw [eI6]; rfl) ?_
          have gI6 : I6 0 = upd (K 0) (k : Int).toNat (zI (0)) := by rw [eI6]; exact up_eq
          have fI6 : ∀ j_, j_ ≠ 0 → I6 j_ = K j_ := fun j_ hj_ => by rw [eI6]; exact up_ne hj_
          refine Z.iinc (lv' := [(2, .int (zI (k + 1))), (1, .int (zI (n + 1))), (0, .ref (h 0))]) hX dX7_clear_34 rfl (by decide) rfl ?_
          refine Z.goto hX 4 dX7_clear_37 (by decide) ?_
          refine Z.pick [0, 1, 2] rfl ?_
          exact ih_4 _ _ _ (by omega) (by omega) (cnt_s hk.1 hn (by rw [hK k hk.1, if_neg (by omega)] at *; assumption) ⟨by assumption, by assumption⟩ (by first | exact Or.inl ⟨by assumption, rfl⟩ | exact Or.inr ⟨by assumption, rfl⟩)) (by omega) (clr_s hk.1 gI6 hK) (fun j_ h_0 => ((fI6 j_ h_0).trans (hfr j_ h_0)))
  refine Z.pick [0, 1, 2] rfl ?_
  exact key_4 _ _ _ _ (Nat.lt_succ_self _) (by omega) rfl (by omega) (fun q h1 => (if_neg (by omega)).symm) (fun j_ h_0 => rfl)

