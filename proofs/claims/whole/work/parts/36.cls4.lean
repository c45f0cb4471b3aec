section
theorem dX6_forget_0 : decode cX6_forget 0 = .ok (.aload_n 0, 1) := by decide +kernel
theorem dX6_forget_1 : decode cX6_forget 1 = .ok (.iconst 0, 1) := by decide +kernel
theorem dX6_forget_2 : decode cX6_forget 2 = .ok (.putfield 54, 3) := by decide +kernel
theorem dX6_forget_5 : decode cX6_forget 5 = .ok (.aload_n 0, 1) := by decide +kernel
theorem dX6_forget_6 : decode cX6_forget 6 = .ok (.getfield 43, 3) := by decide +kernel
theorem dX6_forget_9 : decode cX6_forget 9 = .ok (.iconst 0, 1) := by decide +kernel
theorem dX6_forget_10 : decode cX6_forget 10 = .ok (.putfield 144, 3) := by decide +kernel
theorem dX6_forget_13 : decode cX6_forget 13 = .ok (.aload_n 0, 1) := by decide +kernel
theorem dX6_forget_14 : decode cX6_forget 14 = .ok (.getfield 47, 3) := by decide +kernel
theorem dX6_forget_17 : decode cX6_forget 17 = .ok (.iconst 0, 1) := by decide +kernel
theorem dX6_forget_18 : decode cX6_forget 18 = .ok (.putfield 144, 3) := by decide +kernel
theorem dX6_forget_21 : decode cX6_forget 21 = .ok (.return_, 1) := by decide +kernel
set_option maxHeartbeats 4000000 in
set_option maxRecDepth 100000 in
theorem ct_X6_forget (l : Launch) (D : va_G) (ce : Nat → ClassId) (h pl ar : Nat → Nat) (G : Nat → Int) (L : Nat → Nat → Int64) (B : Nat → Int) (J : Nat → Nat → Int64)  : Ct l yX6_forget cX6_forget 1 none { frames := 0, cells := 0, slots := 0, locals := 0 } 0 0 D (TY ce) [.ref (h 0)] (cW ce h pl ar G L B J) (QV D (TY ce) (fun w1 => ∃ G2 : Nat → Int, w1 = cW ce h pl ar G2 L B J ∧ (∀ k, k ≠ 0 → k ≠ 2 → k ≠ 5 → G2 k = G k) ∧ (G2 0 = 0 ∧ G2 2 = 0 ∧ G2 5 = 0))) := by
  refine Ct.ofV (by decide) (Nat.le_of_ble_eq_true rfl) ?_
  intro p e s m args below meth c A Q hX hnm hR
  refine Z.pick (lv' := [(0, .ref (h 0))]) [0] rfl ?_
  refine Z.aload_n hX dX6_forget_0 rfl rfl ?_
  refine Z.iconst hX dX6_forget_1 ?_
  refine Z.putf (ty := .boolean) hX 6 0 8 tyX6 dX6_forget_2 rfl rfl inX6 tyX6_ok nmX6 (by decide) fl_X6_54 rfl rfl (by decide +kernel) rfl rfl (Nat.le_of_ble_eq_true rfl) ?_
  obtain ⟨G1, eG1⟩ : ∃ F' : Nat → Int, F' = va_up G 0 (0) := ⟨_, rfl⟩
  refine Z.toW (w' := cW ce h pl ar G1 L B J) (by rw [eG1]; rfl) ?_
  have gG1 : G1 0 = 0 := by rw [eG1]; exact up_eq
  have fG1 : ∀ j_, j_ ≠ 0 → G1 j_ = G j_ := fun j_ hj_ => by rw [eG1]; exact up_ne hj_
  refine Z.aload_n hX dX6_forget_5 rfl rfl ?_
  refine Z.getf hX 6 0 5 dX6_forget_6 rfl rfl inX6 (by decide) fl_X6_43 rfl rfl ?_
  refine Z.iconst hX dX6_forget_9 ?_
  refine Z.putf (ty := .boolean) hX 0 6 2 tyX0 dX6_forget_10 rfl rfl inX0 tyX0_ok nmX0 (by decide) fl_X6_144 rfl rfl (by decide +kernel) rfl rfl (Nat.le_of_ble_eq_true rfl) ?_
  obtain ⟨G2, eG2⟩ : ∃ F' : Nat → Int, F' = va_up G1 2 (0) := ⟨_, rfl⟩
  refine Z.toW (w' := cW ce h pl ar G2 L B J) (by rw [eG2]; rfl) ?_
  have gG2 : G2 2 = 0 := by rw [eG2]; exact up_eq
  have fG2 : ∀ j_, j_ ≠ 2 → G2 j_ = G1 j_ := fun j_ hj_ => by rw [eG2]; exact up_ne hj_
  refine Z.aload_n hX dX6_forget_13 rfl rfl ?_
  refine Z.getf hX 6 0 6 dX6_forget_14 rfl rfl inX6 (by decide) fl_X6_47 rfl rfl ?_
  refine Z.iconst hX dX6_forget_17 ?_
  refine Z.putf (ty := .boolean) hX 0 7 2 tyX0 dX6_forget_18 rfl rfl inX0 tyX0_ok nmX0 (by decide) fl_X6_144 rfl rfl (by decide +kernel) rfl rfl (Nat.le_of_ble_eq_true rfl) ?_
  obtain ⟨G3, eG3⟩ : ∃ F' : Nat → Int, F' = va_up G2 5 (0) := ⟨_, rfl⟩
  refine Z.toW (w' := cW ce h pl ar G3 L B J) (by rw [eG3]; rfl) ?_
  have gG3 : G3 5 = 0 := by rw [eG3]; exact up_eq
  have fG3 : ∀ j_, j_ ≠ 5 → G3 j_ = G2 j_ := fun j_ hj_ => by rw [eG3]; exact up_ne hj_
  exact hR _ _ _ dX6_forget_21 ⟨G3, rfl, (fun j_ h_0 h_2 h_5 => ((fG3 j_ h_5).trans ((fG2 j_ h_2).trans ((fG1 j_ h_0).trans rfl)))), ⟨((fG3 0 (by decide)).trans ((fG2 0 (by decide)).trans gG1)), ((fG3 2 (by decide)).trans gG2), gG3⟩⟩

theorem dX6_freeRow_0 : decode cX6_freeRow 0 = .ok (.aload_n 0, 1) := by decide +kernel
theorem dX6_freeRow_1 : decode cX6_freeRow 1 = .ok (.getfield 54, 3) := by decide +kernel
theorem dX6_freeRow_4 : decode cX6_freeRow 4 = .ok (.ifCond .ne 23, 3) := by decide +kernel
theorem dX6_freeRow_7 : decode cX6_freeRow 7 = .ok (.aload_n 0, 1) := by decide +kernel
theorem dX6_freeRow_8 : decode cX6_freeRow 8 = .ok (.getfield 22, 3) := by decide +kernel
theorem dX6_freeRow_11 : decode cX6_freeRow 11 = .ok (.aload_n 0, 1) := by decide +kernel
theorem dX6_freeRow_12 : decode cX6_freeRow 12 = .ok (.getfield 10, 3) := by decide +kernel
theorem dX6_freeRow_15 : decode cX6_freeRow 15 = .ok (.aload_n 0, 1) := by decide +kernel
theorem dX6_freeRow_16 : decode cX6_freeRow 16 = .ok (.getfield 16, 3) := by decide +kernel
theorem dX6_freeRow_19 : decode cX6_freeRow 19 = .ok (.invokevirtual 147, 3) := by decide +kernel
theorem dX6_freeRow_22 : decode cX6_freeRow 22 = .ok (.aload_n 0, 1) := by decide +kernel
theorem dX6_freeRow_23 : decode cX6_freeRow 23 = .ok (.iconst 1, 1) := by decide +kernel
theorem dX6_freeRow_24 : decode cX6_freeRow 24 = .ok (.putfield 54, 3) := by decide +kernel
theorem dX6_freeRow_27 : decode cX6_freeRow 27 = .ok (.aload_n 0, 1) := by decide +kernel
theorem dX6_freeRow_28 : decode cX6_freeRow 28 = .ok (.getfield 16, 3) := by decide +kernel
theorem dX6_freeRow_31 : decode cX6_freeRow 31 = .ok (.areturn, 1) := by decide +kernel
set_option maxHeartbeats 4000000 in
set_option maxRecDepth 100000 in
theorem ct_X6_freeRow (l : Launch) (D : va_G) (ce : Nat → ClassId) (h pl ar : Nat → Nat) (G : Nat → Int) (L : Nat → Nat → Int64) (B : Nat → Int) (J : Nat → Nat → Int64) (hok : cOK G B) : Ct l yX6_freeRow cX6_freeRow 1 (some (.object "EliminateLoci$Row")) { frames := 4, cells := 0, slots := 0, locals := 108 } 0 0 D (TY ce) [.ref (h 0)] (cW ce h pl ar G L B J) (QR D (TY ce) (fun r w1 => ∃ G2 : Nat → Int, ∃ L2 : Nat → Nat → Int64, r = (h 2) ∧ w1 = cW ce h pl ar G2 L2 B J ∧ (∀ k, k ≠ 0 → G2 k = G k) ∧ (bl (G2 0)) ∧ (∀ k, k < 3 → L2 k = L k))) := by
  refine Ct.ofR (by decide) (Nat.le_of_ble_eq_true rfl) (Or.inl ⟨_, rfl⟩) ?_
  intro p e s m args below meth c A Q hX hnm hR
  refine Z.pick (lv' := [(0, .ref (h 0))]) [0] rfl ?_
  obtain ⟨hB, hg0, hg2, hg3, hg5, hg6, hg1, hg4⟩ := id hok
  unfold bl at hg0 hg2 hg3 hg5 hg6
  refine Z.aload_n hX dX6_freeRow_0 rfl rfl ?_
  refine Z.getf hX 6 0 8 dX6_freeRow_1 rfl rfl inX6 (by decide) fl_X6_54 rfl rfl ?_
  refine Z.if_ne hX 27 dX6_freeRow_4 (by decide) ⟨by omega, by omega⟩ ?_ ?_
  · intro c1
    refine Z.aload_n hX dX6_freeRow_27 rfl rfl ?_
    refine Z.getf hX 6 0 1 dX6_freeRow_28 rfl rfl inX6 (by decide) fl_X6_16 rfl rfl ?_
    exact hR _ _ _ _ dX6_freeRow_31 ⟨G, L, rfl, rfl, (fun _ _ => rfl), (by unfold bl; omega), (fun _ _ => rfl)⟩
  · intro c1
    refine Z.aload_n hX dX6_freeRow_7 rfl rfl ?_
    refine Z.getf hX 6 0 2 dX6_freeRow_8 rfl rfl inX6 (by decide) fl_X6_22 rfl rfl ?_
    refine Z.aload_n hX dX6_freeRow_11 rfl rfl ?_
    refine Z.getf hX 6 0 0 dX6_freeRow_12 rfl rfl inX6 (by decide) fl_X6_10 rfl rfl ?_
    refine Z.aload_n hX dX6_freeRow_15 rfl rfl ?_
    refine Z.getf hX 6 0 1 dX6_freeRow_16 rfl rfl inX6 (by decide) fl_X6_16 rfl rfl ?_
    refine Z.callVfv (As := [.ref (h 1), .ref (h 2)]) (rest := []) hX 1 3 rfl rfl (ct_X1_free l D ce h pl ar G L B J ) mc_X1_free ml_X6_147 im_X1_free se_X1_free ini_X1 nd_X1_free ⟨Nat.le_of_ble_eq_true rfl, Nat.le_of_ble_eq_true rfl⟩ ⟨rfl, rfl⟩ ⟨Nat.le_refl _, Nat.le_refl _⟩ rfl (Nat.le_of_ble_eq_true rfl) dX6_freeRow_19 ?_
    rintro w1 ⟨L23, hw_, hfr⟩
    subst hw_
    refine Z.aload_n hX dX6_freeRow_22 rfl rfl ?_
    refine Z.iconst hX dX6_freeRow_23 ?_
    refine Z.putf (ty := .boolean) hX 6 0 8 tyX6 dX6_freeRow_24 rfl rfl inX6 tyX6_ok nmX6 (by decide) fl_X6_54 rfl rfl (by decide +kernel) rfl rfl (Nat.le_of_ble_eq_true rfl) ?_
    obtain ⟨G4, eG4⟩ : ∃ F' : Nat → Int, F' = va_up G 0 (1) := ⟨_, rfl⟩
    refine Z.toW (w' := cW ce h pl ar G4 L23 B J) (by rw [eG4]; rfl) ?_
    have gG4 : G4 0 = 1 := by rw [eG4]; exact up_eq
    have fG4 : ∀ j_, j_ ≠ 0 → G4 j_ = G j_ := fun j_ hj_ => by rw [eG4]; exact up_ne hj_
    refine Z.aload_n hX dX6_freeRow_27 rfl rfl ?_
    refine Z.getf hX 6 0 1 dX6_freeRow_28 rfl rfl inX6 (by decide) fl_X6_16 rfl rfl ?_
    exact hR _ _ _ _ dX6_freeRow_31 ⟨G4, L23, rfl, rfl, (fun j_ h_0 => ((fG4 j_ h_0).trans rfl)), (by rw [gG4]; exact Or.inr rfl), (fun k h => hfr k (by omega) (by omega) (by omega) (by omega) (by omega) (by omega))⟩

theorem dX6_curveOf_0 : decode cX6_curveOf 0 = .ok (.iload_n 1, 1) := by decide +kernel
theorem dX6_curveOf_1 : decode cX6_curveOf 1 = .ok (.ifCond .ne 10, 3) := by decide +kernel
theorem dX6_curveOf_4 : decode cX6_curveOf 4 = .ok (.aload_n 0, 1) := by decide +kernel
theorem dX6_curveOf_5 : decode cX6_curveOf 5 = .ok (.getfield 43, 3) := by decide +kernel
theorem dX6_curveOf_8 : decode cX6_curveOf 8 = .ok (.goto 7, 3) := by decide +kernel
theorem dX6_curveOf_15 : decode cX6_curveOf 15 = .ok (.astore_n 2, 1) := by decide +kernel
theorem dX6_curveOf_16 : decode cX6_curveOf 16 = .ok (.aload_n 2, 1) := by decide +kernel
theorem dX6_curveOf_17 : decode cX6_curveOf 17 = .ok (.getfield 144, 3) := by decide +kernel
theorem dX6_curveOf_20 : decode cX6_curveOf 20 = .ok (.ifCond .ne 70, 3) := by decide +kernel
theorem dX6_curveOf_23 : decode cX6_curveOf 23 = .ok (.iload_n 1, 1) := by decide +kernel
theorem dX6_curveOf_24 : decode cX6_curveOf 24 = .ok (.ifCond .ne 17, 3) := by decide +kernel
theorem dX6_curveOf_27 : decode cX6_curveOf 27 = .ok (.aload_n 0, 1) := by decide +kernel
theorem dX6_curveOf_28 : decode cX6_curveOf 28 = .ok (.getfield 29, 3) := by decide +kernel
theorem dX6_curveOf_31 : decode cX6_curveOf 31 = .ok (.aload_n 0, 1) := by decide +kernel
theorem dX6_curveOf_32 : decode cX6_curveOf 32 = .ok (.invokevirtual 83, 3) := by decide +kernel
theorem dX6_curveOf_35 : decode cX6_curveOf 35 = .ok (.invokevirtual 151, 3) := by decide +kernel
theorem dX6_curveOf_38 : decode cX6_curveOf 38 = .ok (.goto 14, 3) := by decide +kernel
theorem dX6_curveOf_52 : decode cX6_curveOf 52 = .ok (.istore_n 3, 1) := by decide +kernel
theorem dX6_curveOf_53 : decode cX6_curveOf 53 = .ok (.aload_n 2, 1) := by decide +kernel
theorem dX6_curveOf_54 : decode cX6_curveOf 54 = .ok (.iload_n 3, 1) := by decide +kernel
theorem dX6_curveOf_55 : decode cX6_curveOf 55 = .ok (.ifCond .le 26, 3) := by decide +kernel
theorem dX6_curveOf_58 : decode cX6_curveOf 58 = .ok (.aload_n 0, 1) := by decide +kernel
theorem dX6_curveOf_59 : decode cX6_curveOf 59 = .ok (.getfield 36, 3) := by decide +kernel
theorem dX6_curveOf_62 : decode cX6_curveOf 62 = .ok (.aload_n 0, 1) := by decide +kernel
theorem dX6_curveOf_63 : decode cX6_curveOf 63 = .ok (.getfield 29, 3) := by decide +kernel
theorem dX6_curveOf_66 : decode cX6_curveOf 66 = .ok (.iload_n 3, 1) := by decide +kernel
theorem dX6_curveOf_67 : decode cX6_curveOf 67 = .ok (.invokevirtual 158, 3) := by decide +kernel
theorem dX6_curveOf_70 : decode cX6_curveOf 70 = .ok (.aload_n 2, 1) := by decide +kernel
theorem dX6_curveOf_71 : decode cX6_curveOf 71 = .ok (.invokevirtual 162, 3) := by decide +kernel
theorem dX6_curveOf_74 : decode cX6_curveOf 74 = .ok (.ifCond .eq 7, 3) := by decide +kernel
theorem dX6_curveOf_77 : decode cX6_curveOf 77 = .ok (.iconst 1, 1) := by decide +kernel
theorem dX6_curveOf_78 : decode cX6_curveOf 78 = .ok (.goto 4, 3) := by decide +kernel
theorem dX6_curveOf_81 : decode cX6_curveOf 81 = .ok (.iconst 0, 1) := by decide +kernel
theorem dX6_curveOf_82 : decode cX6_curveOf 82 = .ok (.putfield 106, 3) := by decide +kernel
theorem dX6_curveOf_85 : decode cX6_curveOf 85 = .ok (.aload_n 2, 1) := by decide +kernel
theorem dX6_curveOf_86 : decode cX6_curveOf 86 = .ok (.iconst 1, 1) := by decide +kernel
theorem dX6_curveOf_87 : decode cX6_curveOf 87 = .ok (.putfield 144, 3) := by decide +kernel
theorem dX6_curveOf_90 : decode cX6_curveOf 90 = .ok (.aload_n 2, 1) := by decide +kernel
theorem dX6_curveOf_91 : decode cX6_curveOf 91 = .ok (.areturn, 1) := by decide +kernel
set_option maxHeartbeats 4000000 in
set_option maxRecDepth 100000 in
theorem ct_X6_curveOf_l (l : Launch) (D : va_G) (ce : Nat → ClassId) (h pl ar : Nat → Nat) (G : Nat → Int) (L : Nat → Nat → Int64) (B : Nat → Int) (J : Nat → Nat → Int64) (hok : cOK G B) : Ct l yX6_curveOf cX6_curveOf 4 (some (.object "EliminateLoci$Curve")) { frames := 5, cells := 0, slots := 0, locals := 139 } 0 0 D (TY ce) [.ref (h 0), .int (zI 0)] (cW ce h pl ar G L B J) (QR D (TY ce) (fun r w1 => ∃ G2 : Nat → Int, ∃ L2 : Nat → Nat → Int64, ∃ B2 : Nat → Int, ∃ J2 : Nat → Nat → Int64, r = (h 6) ∧ w1 = cW ce h pl ar G2 L2 B2 J2 ∧ (cOK G2 B2) ∧ (∀ k, k < 3 → L2 k = L k))) := by
  refine Ct.ofR (by decide) (Nat.le_of_ble_eq_true rfl) (Or.inl ⟨_, rfl⟩) ?_
  intro p e s m args below meth c A Q hX hnm hR
  refine Z.pick (lv' := [(0, .ref (h 0)), (1, .int (zI 0))]) [0, 1] rfl ?_
  obtain ⟨hB, hg0, hg2, hg3, hg5, hg6, hg1, hg4⟩ := id hok
  unfold bl at hg0 hg2 hg3 hg5 hg6
  refine Z.iload_n hX dX6_curveOf_0 rfl rfl ?_
  refine Z.if_ne hX 11 dX6_curveOf_1 (by decide) ⟨by omega, by omega⟩ ?_ ?_
  · intro c1; exfalso; revert c1; decide
  · intro c1
    refine Z.aload_n hX dX6_curveOf_4 rfl rfl ?_
    refine Z.getf hX 6 0 5 dX6_curveOf_5 rfl rfl inX6 (by decide) fl_X6_43 rfl rfl ?_
    refine Z.goto hX 15 dX6_curveOf_8 (by decide) ?_
    refine Z.astore_n (lv' := [(2, .ref (h 6)), (0, .ref (h 0)), (1, .int (zI 0))]) hX dX6_curveOf_15 rfl (by decide) rfl ?_
    refine Z.aload_n hX dX6_curveOf_16 rfl rfl ?_
    refine Z.getf hX 0 6 2 dX6_curveOf_17 rfl rfl inX0 (by decide) fl_X6_144 rfl rfl ?_
    refine Z.if_ne hX 90 dX6_curveOf_20 (by decide) ⟨by omega, by omega⟩ ?_ ?_
    · intro c2
      refine Z.aload_n hX dX6_curveOf_90 rfl rfl ?_
      exact hR _ _ _ _ dX6_curveOf_91 ⟨G, L, B, J, rfl, rfl, hok, (fun _ _ => rfl)⟩
    · intro c2
      refine Z.iload_n hX dX6_curveOf_23 rfl rfl ?_
      refine Z.if_ne hX 41 dX6_curveOf_24 (by decide) ⟨by omega, by omega⟩ ?_ ?_
      · intro c3; exfalso; revert c3; decide
      · intro c3
        refine Z.aload_n hX dX6_curveOf_27 rfl rfl ?_
        refine Z.getf hX 6 0 3 dX6_curveOf_28 rfl rfl inX6 (by decide) fl_X6_29 rfl rfl ?_
        refine Z.aload_n hX dX6_curveOf_31 rfl rfl ?_
        refine Z.callVfr (As := []) (rest := [.ref (h 4)]) hX 6 0 rfl rfl (ct_X6_freeRow l D ce h pl ar G L B J hok) mc_X6_freeRow ml_X6_83 im_X6_freeRow se_X6_freeRow ini_X6 nd_X6_freeRow ⟨Nat.le_of_ble_eq_true rfl, Nat.le_of_ble_eq_true rfl⟩ ⟨rfl, rfl⟩ ⟨Nat.le_refl _, Nat.le_refl _⟩ rfl (Nat.le_of_ble_eq_true rfl) dX6_curveOf_32 ?_
        rintro r_4 w1 ⟨G25, L26, hr_, hw_, fr1, fr2, fr3⟩
        subst hr_
        subst hw_
        refine Z.callVfi (As := [.ref (h 2)]) (rest := []) hX 2 4 rfl rfl (ct_X2_takeMover l D ce h pl ar G25 L26 B J hB) mc_X2_takeMover ml_X6_151 im_X2_takeMover se_X2_takeMover ini_X2 nd_X2_takeMover ⟨Nat.le_of_ble_eq_true rfl, Nat.le_of_ble_eq_true rfl⟩ ⟨rfl, rfl⟩ ⟨Nat.le_refl _, Nat.le_refl _⟩ rfl (Nat.le_of_ble_eq_true rfl) dX6_curveOf_35 ?_
        rintro r_7 w1 ⟨sz, B28, J29, hr_, hw_, tk1, tk2⟩
        subst hr_
        subst hw_
        refine Z.goto hX 52 dX6_curveOf_38 (by decide) ?_
        refine Z.istore_n (lv' := [(3, .int (zI sz)), (2, .ref (h 6)), (0, .ref (h 0)), (1, .int (zI 0))]) hX dX6_curveOf_52 rfl (by decide) rfl ?_
        refine Z.aload_n hX dX6_curveOf_53 rfl rfl ?_
        refine Z.iload_n hX dX6_curveOf_54 rfl rfl ?_
        refine Z.if_le hX 81 dX6_curveOf_55 (by decide) ⟨by omega, by omega⟩ ?_ ?_
        · intro c10
          refine Z.iconst hX dX6_curveOf_81 ?_
          refine Z.putf (ty := .boolean) hX 0 6 3 tyX0 dX6_curveOf_82 rfl rfl inX0 tyX0_ok nmX0 (by decide) fl_X6_106 rfl rfl (by decide +kernel) rfl rfl (Nat.le_of_ble_eq_true rfl) ?_
          obtain ⟨G11, eG11⟩ : ∃ F' : Nat → Int, F' = va_up G25 3 (0) := ⟨_, rfl⟩
          refine Z.toW (w' := cW ce h pl ar G11 L26 B28 J29) (by rw [eG11]; rfl) ?_
          have gG11 : G11 3 = 0 := by rw [eG11]; exact up_eq
          have fG11 : ∀ j_, j_ ≠ 3 → G11 j_ = G25 j_ := fun j_ hj_ => by rw [eG11]; exact up_ne hj_
          refine Z.aload_n hX dX6_curveOf_85 rfl rfl ?_
          refine Z.iconst hX dX6_curveOf_86 ?_
          refine Z.putf (ty := .boolean) hX 0 6 2 tyX0 dX6_curveOf_87 rfl rfl inX0 tyX0_ok nmX0 (by decide) fl_X6_144 rfl rfl (by decide +kernel) rfl rfl (Nat.le_of_ble_eq_true rfl) ?_
          obtain ⟨G12, eG12⟩ : ∃ F' : Nat → Int, F' = va_up G11 2 (1) := ⟨_, rfl⟩
          refine Z.toW (w' := cW ce h pl ar G12 L26 B28 J29) (by rw [eG12]; rfl) ?_
          have gG12 : G12 2 = 1 := by rw [eG12]; exact up_eq
          have fG12 : ∀ j_, j_ ≠ 2 → G12 j_ = G11 j_ := fun j_ hj_ => by rw [eG12]; exact up_ne hj_
          refine Z.aload_n hX dX6_curveOf_90 rfl rfl ?_
          exact hR _ _ _ _ dX6_curveOf_91 ⟨G12, L26, B28, J29, rfl, rfl, (cok_of tk1 (by have := fG11 0 (by decide); have := fG12 0 (by decide); unfold bl at *; omega) (by have := fr1 1 (by decide); have := fG11 1 (by decide); have := fG12 1 (by decide); unfold bl at *; omega) (by have := fr1 2 (by decide); have := fG11 2 (by decide); unfold bl at *; omega) (by have := fr1 3 (by decide); have := fG12 3 (by decide); unfold bl at *; omega) (by have := fr1 4 (by decide); have := fG11 4 (by decide); have := fG12 4 (by decide); unfold bl at *; omega) (by have := fr1 5 (by decide); have := fG11 5 (by decide); have := fG12 5 (by decide); unfold bl at *; omega) (by have := fr1 6 (by decide); have := fG11 6 (by decide); have := fG12 6 (by decide); unfold bl at *; omega)), (fun k h => fr3 k h)⟩
        · intro c10
          refine Z.aload_n hX dX6_curveOf_58 rfl rfl ?_
          refine Z.getf hX 6 0 4 dX6_curveOf_59 rfl rfl inX6 (by decide) fl_X6_36 rfl rfl ?_
          refine Z.aload_n hX dX6_curveOf_62 rfl rfl ?_
          refine Z.getf hX 6 0 3 dX6_curveOf_63 rfl rfl inX6 (by decide) fl_X6_29 rfl rfl ?_
          refine Z.iload_n hX dX6_curveOf_66 rfl rfl ?_
          refine Z.callVfr (As := [.int (zI sz)]) (rest := [.ref (h 5), .ref (h 6)]) hX 2 4 rfl rfl (ct_X2_resultant l D ce h pl ar G25 L26 B28 J29 sz tk1 (by omega)) mc_X2_resultant ml_X6_158 im_X2_resultant se_X2_resultant ini_X2 nd_X2_resultant ⟨Nat.le_of_ble_eq_true rfl, Nat.le_of_ble_eq_true rfl⟩ ⟨rfl, rfl⟩ ⟨Nat.le_refl _, Nat.le_refl _⟩ rfl (Nat.le_of_ble_eq_true rfl) dX6_curveOf_67 ?_
          rintro r_13 w1 ⟨k214, B215, J216, hr_, hw_, rs1, rs2⟩
          subst hr_
          subst hw_
          refine Z.aload_n hX dX6_curveOf_70 rfl rfl ?_
          refine Z.callVfi (As := [.ref (pl k214), .ref (h 6)]) (rest := [.ref (h 6)]) hX 4 5 rfl rfl (ct_X4_findRoot_l l D ce h pl ar G25 L26 B215 J216 k214 rs1 (by omega)) mc_X4_findRoot ml_X6_162 im_X4_findRoot se_X4_findRoot ini_X4 nd_X4_findRoot ⟨Nat.le_of_ble_eq_true rfl, Nat.le_of_ble_eq_true rfl⟩ ⟨rfl, rfl⟩ ⟨Nat.le_refl _, Nat.le_refl _⟩ rfl (Nat.le_of_ble_eq_true rfl) dX6_curveOf_71 ?_
          rintro r_17 w1 ⟨fz, G218, B219, J220, hr_, hw_, fz1, fz2, fz3, fz4⟩
          subst hr_
          subst hw_
          refine Z.if_eq hX 81 dX6_curveOf_74 (by decide) ⟨by omega, by omega⟩ ?_ ?_
          · intro c21
            refine Z.iconst hX dX6_curveOf_81 ?_
            refine Z.putf (ty := .boolean) hX 0 6 3 tyX0 dX6_curveOf_82 rfl rfl inX0 tyX0_ok nmX0 (by decide) fl_X6_106 rfl rfl (by decide +kernel) rfl rfl (Nat.le_of_ble_eq_true rfl) ?_
            obtain ⟨G22, eG22⟩ : ∃ F' : Nat → Int, F' = va_up G218 3 (0) := ⟨_, rfl⟩
            refine Z.toW (w' := cW ce h pl ar G22 L26 B219 J220) (by rw [eG22]; rfl) ?_
            have gG22 : G22 3 = 0 := by rw [eG22]; exact up_eq
            have fG22 : ∀ j_, j_ ≠ 3 → G22 j_ = G218 j_ := fun j_ hj_ => by rw [eG22]; exact up_ne hj_
            refine Z.aload_n hX dX6_curveOf_85 rfl rfl ?_
            refine Z.iconst hX dX6_curveOf_86 ?_
            refine Z.putf (ty := .boolean) hX 0 6 2 tyX0 dX6_curveOf_87 rfl rfl inX0 tyX0_ok nmX0 (by decide) fl_X6_144 rfl rfl (by decide +kernel) rfl rfl (Nat.le_of_ble_eq_true rfl) ?_
            obtain ⟨G23, eG23⟩ : ∃ F' : Nat → Int, F' = va_up G22 2 (1) := ⟨_, rfl⟩
            refine Z.toW (w' := cW ce h pl ar G23 L26 B219 J220) (by rw [eG23]; rfl) ?_
            have gG23 : G23 2 = 1 := by rw [eG23]; exact up_eq
            have fG23 : ∀ j_, j_ ≠ 2 → G23 j_ = G22 j_ := fun j_ hj_ => by rw [eG23]; exact up_ne hj_
            refine Z.aload_n hX dX6_curveOf_90 rfl rfl ?_
            exact hR _ _ _ _ dX6_curveOf_91 ⟨G23, L26, B219, J220, rfl, rfl, (cok_of fz2 (by have := fz3 0 (by decide); have := fG22 0 (by decide); have := fG23 0 (by decide); unfold bl at *; omega) (by have := fr1 1 (by decide); have := fG22 1 (by decide); have := fG23 1 (by decide); unfold bl at *; omega) (by have := fr1 2 (by decide); have := fz3 2 (by decide); have := fG22 2 (by decide); unfold bl at *; omega) (by have := fr1 3 (by decide); have := fz3 3 (by decide); have := fG23 3 (by decide); unfold bl at *; omega) (by have := fr1 4 (by decide); have := fz3 4 (by decide); have := fG22 4 (by decide); have := fG23 4 (by decide); unfold bl at *; omega) (by have := fr1 5 (by decide); have := fz3 5 (by decide); have := fG22 5 (by decide); have := fG23 5 (by decide); unfold bl at *; omega) (by have := fr1 6 (by decide); have := fz3 6 (by decide); have := fG22 6 (by decide); have := fG23 6 (by decide); unfold bl at *; omega)), (fun k h => fr3 k h)⟩
          · intro c21
            refine Z.iconst hX dX6_curveOf_77 ?_
            refine Z.goto hX 82 dX6_curveOf_78 (by decide) ?_
            refine Z.putf (ty := .boolean) hX 0 6 3 tyX0 dX6_curveOf_82 rfl rfl inX0 tyX0_ok nmX0 (by decide) fl_X6_106 rfl rfl (by decide +kernel) rfl rfl (Nat.le_of_ble_eq_true rfl) ?_
            obtain ⟨G24, eG24⟩ : ∃ F' : Nat → Int, F' = va_up G218 3 (1) := ⟨_, rfl⟩
            refine Z.toW (w' := cW ce h pl ar G24 L26 B219 J220) (by rw [eG24]; rfl) ?_
            have gG24 : G24 3 = 1 := by rw [eG24]; exact up_eq
            have fG24 : ∀ j_, j_ ≠ 3 → G24 j_ = G218 j_ := fun j_ hj_ => by rw [eG24]; exact up_ne hj_
            refine Z.aload_n hX dX6_curveOf_85 rfl rfl ?_
            refine Z.iconst hX dX6_curveOf_86 ?_
            refine Z.putf (ty := .boolean) hX 0 6 2 tyX0 dX6_curveOf_87 rfl rfl inX0 tyX0_ok nmX0 (by decide) fl_X6_144 rfl rfl (by decide +kernel) rfl rfl (Nat.le_of_ble_eq_true rfl) ?_
            obtain ⟨G25, eG25⟩ : ∃ F' : Nat → Int, F' = va_up G24 2 (1) := ⟨_, rfl⟩
            refine Z.toW (w' := cW ce h pl ar G25 L26 B219 J220) (by rw [eG25]; rfl) ?_
            have gG25 : G25 2 = 1 := by rw [eG25]; exact up_eq
            have fG25 : ∀ j_, j_ ≠ 2 → G25 j_ = G24 j_ := fun j_ hj_ => by rw [eG25]; exact up_ne hj_
            refine Z.aload_n hX dX6_curveOf_90 rfl rfl ?_
            exact hR _ _ _ _ dX6_curveOf_91 ⟨G25, L26, B219, J220, rfl, rfl, (cok_of fz2 (by have := fz3 0 (by decide); have := fG24 0 (by decide); have := fG25 0 (by decide); unfold bl at *; omega) (by have := fr1 1 (by decide); have := fG24 1 (by decide); have := fG25 1 (by decide); unfold bl at *; omega) (by have := fr1 2 (by decide); have := fz3 2 (by decide); have := fG24 2 (by decide); unfold bl at *; omega) (by have := fr1 3 (by decide); have := fz3 3 (by decide); have := fG25 3 (by decide); unfold bl at *; omega) (by have := fr1 4 (by decide); have := fz3 4 (by decide); have := fG24 4 (by decide); have := fG25 4 (by decide); unfold bl at *; omega) (by have := fr1 5 (by decide); have := fz3 5 (by decide); have := fG24 5 (by decide); have := fG25 5 (by decide); unfold bl at *; omega) (by have := fr1 6 (by decide); have := fz3 6 (by decide); have := fG24 6 (by decide); have := fG25 6 (by decide); unfold bl at *; omega)), (fun k h => fr3 k h)⟩

theorem dX6_curveOf_11 : decode cX6_curveOf 11 = .ok (.aload_n 0, 1) := by decide +kernel
theorem dX6_curveOf_12 : decode cX6_curveOf 12 = .ok (.getfield 47, 3) := by decide +kernel
theorem dX6_curveOf_41 : decode cX6_curveOf 41 = .ok (.aload_n 0, 1) := by decide +kernel
theorem dX6_curveOf_42 : decode cX6_curveOf 42 = .ok (.getfield 29, 3) := by decide +kernel
theorem dX6_curveOf_45 : decode cX6_curveOf 45 = .ok (.aload_n 0, 1) := by decide +kernel
theorem dX6_curveOf_46 : decode cX6_curveOf 46 = .ok (.getfield 10, 3) := by decide +kernel
theorem dX6_curveOf_49 : decode cX6_curveOf 49 = .ok (.invokevirtual 155, 3) := by decide +kernel
set_option maxHeartbeats 4000000 in
set_option maxRecDepth 100000 in
theorem ct_X6_curveOf_e (l : Launch) (D : va_G) (ce : Nat → ClassId) (h pl ar : Nat → Nat) (G : Nat → Int) (L : Nat → Nat → Int64) (B : Nat → Int) (J : Nat → Nat → Int64) (hok : cOK G B) : Ct l yX6_curveOf cX6_curveOf 4 (some (.object "EliminateLoci$Curve")) { frames := 5, cells := 0, slots := 0, locals := 139 } 0 0 D (TY ce) [.ref (h 0), .int (zI 1)] (cW ce h pl ar G L B J) (QR D (TY ce) (fun r w1 => ∃ G2 : Nat → Int, ∃ L2 : Nat → Nat → Int64, ∃ B2 : Nat → Int, ∃ J2 : Nat → Nat → Int64, r = (h 7) ∧ w1 = cW ce h pl ar G2 L2 B2 J2 ∧ (cOK G2 B2) ∧ (∀ k, k < 3 → L2 k = L k))) := by
  refine Ct.ofR (by decide) (Nat.le_of_ble_eq_true rfl) (Or.inl ⟨_, rfl⟩) ?_
  intro p e s m args below meth c A Q hX hnm hR
  refine Z.pick (lv' := [(0, .ref (h 0)), (1, .int (zI 1))]) [0, 1] rfl ?_
  obtain ⟨hB, hg0, hg2, hg3, hg5, hg6, hg1, hg4⟩ := id hok
  unfold bl at hg0 hg2 hg3 hg5 hg6
  refine Z.iload_n hX dX6_curveOf_0 rfl rfl ?_
  refine Z.if_ne hX 11 dX6_curveOf_1 (by decide) ⟨by omega, by omega⟩ ?_ ?_
  · intro c1
    refine Z.aload_n hX dX6_curveOf_11 rfl rfl ?_
    refine Z.getf hX 6 0 6 dX6_curveOf_12 rfl rfl inX6 (by decide) fl_X6_47 rfl rfl ?_
    refine Z.astore_n (lv' := [(2, .ref (h 7)), (0, .ref (h 0)), (1, .int (zI 1))]) hX dX6_curveOf_15 rfl (by decide) rfl ?_
    refine Z.aload_n hX dX6_curveOf_16 rfl rfl ?_
    refine Z.getf hX 0 7 2 dX6_curveOf_17 rfl rfl inX0 (by decide) fl_X6_144 rfl rfl ?_
    refine Z.if_ne hX 90 dX6_curveOf_20 (by decide) ⟨by omega, by omega⟩ ?_ ?_
    · intro c2
      refine Z.aload_n hX dX6_curveOf_90 rfl rfl ?_
      exact hR _ _ _ _ dX6_curveOf_91 ⟨G, L, B, J, rfl, rfl, hok, (fun _ _ => rfl)⟩
    · intro c2
      refine Z.iload_n hX dX6_curveOf_23 rfl rfl ?_
      refine Z.if_ne hX 41 dX6_curveOf_24 (by decide) ⟨by omega, by omega⟩ ?_ ?_
      · intro c3
        refine Z.aload_n hX dX6_curveOf_41 rfl rfl ?_
        refine Z.getf hX 6 0 3 dX6_curveOf_42 rfl rfl inX6 (by decide) fl_X6_29 rfl rfl ?_
        refine Z.aload_n hX dX6_curveOf_45 rfl rfl ?_
        refine Z.getf hX 6 0 0 dX6_curveOf_46 rfl rfl inX6 (by decide) fl_X6_10 rfl rfl ?_
        refine Z.callVfi (As := [.ref (h 1)]) (rest := []) hX 2 4 rfl rfl (ct_X2_takeLines l D ce h pl ar G L B J hB) mc_X2_takeLines ml_X6_155 im_X2_takeLines se_X2_takeLines ini_X2 nd_X2_takeLines ⟨Nat.le_of_ble_eq_true rfl, Nat.le_of_ble_eq_true rfl⟩ ⟨rfl, rfl⟩ ⟨Nat.le_refl _, Nat.le_refl _⟩ rfl (Nat.le_of_ble_eq_true rfl) dX6_curveOf_49 ?_
        rintro r_4 w1 ⟨sz, B25, J26, hr_, hw_, tk1, tk2⟩
        subst hr_
        subst hw_
        refine Z.istore_n (lv' := [(3, .int (zI sz)), (2, .ref (h 7)), (0, .ref (h 0)), (1, .int (zI 1))]) hX dX6_curveOf_52 rfl (by decide) rfl ?_
        refine Z.aload_n hX dX6_curveOf_53 rfl rfl ?_
        refine Z.iload_n hX dX6_curveOf_54 rfl rfl ?_
        refine Z.if_le hX 81 dX6_curveOf_55 (by decide) ⟨by omega, by omega⟩ ?_ ?_
        · intro c7
          refine Z.iconst hX dX6_curveOf_81 ?_
          refine Z.putf (ty := .boolean) hX 0 7 3 tyX0 dX6_curveOf_82 rfl rfl inX0 tyX0_ok nmX0 (by decide) fl_X6_106 rfl rfl (by decide +kernel) rfl rfl (Nat.le_of_ble_eq_true rfl) ?_
          obtain ⟨G8, eG8⟩ : ∃ F' : Nat → Int, F' = va_up G 6 (0) := ⟨_, rfl⟩
          refine Z.toW (w' := cW ce h pl ar G8 L B25 J26) (by rw [eG8]; rfl) ?_
          have gG8 : G8 6 = 0 := by rw [eG8]; exact up_eq
          have fG8 : ∀ j_, j_ ≠ 6 → G8 j_ = G j_ := fun j_ hj_ => by rw [eG8]; exact up_ne hj_
          refine Z.aload_n hX dX6_curveOf_85 rfl rfl ?_
          refine Z.iconst hX dX6_curveOf_86 ?_
          refine Z.putf (ty := .boolean) hX 0 7 2 tyX0 dX6_curveOf_87 rfl rfl inX0 tyX0_ok nmX0 (by decide) fl_X6_144 rfl rfl (by decide +kernel) rfl rfl (Nat.le_of_ble_eq_true rfl) ?_
          obtain ⟨G9, eG9⟩ : ∃ F' : Nat → Int, F' = va_up G8 5 (1) := ⟨_, rfl⟩
          refine Z.toW (w' := cW ce h pl ar G9 L B25 J26) (by rw [eG9]; rfl) ?_
          have gG9 : G9 5 = 1 := by rw [eG9]; exact up_eq
          have fG9 : ∀ j_, j_ ≠ 5 → G9 j_ = G8 j_ := fun j_ hj_ => by rw [eG9]; exact up_ne hj_
          refine Z.aload_n hX dX6_curveOf_90 rfl rfl ?_
          exact hR _ _ _ _ dX6_curveOf_91 ⟨G9, L, B25, J26, rfl, rfl, (cok_of tk1 (by have := fG8 0 (by decide); have := fG9 0 (by decide); unfold bl at *; omega) (by have := fG8 1 (by decide); have := fG9 1 (by decide); unfold bl at *; omega) (by have := fG8 2 (by decide); have := fG9 2 (by decide); unfold bl at *; omega) (by have := fG8 3 (by decide); have := fG9 3 (by decide); unfold bl at *; omega) (by have := fG8 4 (by decide); have := fG9 4 (by decide); unfold bl at *; omega) (by have := fG8 5 (by decide); unfold bl at *; omega) (by have := fG9 6 (by decide); unfold bl at *; omega)), (fun _ _ => rfl)⟩
        · intro c7
          refine Z.aload_n hX dX6_curveOf_58 rfl rfl ?_
          refine Z.getf hX 6 0 4 dX6_curveOf_59 rfl rfl inX6 (by decide) fl_X6_36 rfl rfl ?_
          refine Z.aload_n hX dX6_curveOf_62 rfl rfl ?_
          refine Z.getf hX 6 0 3 dX6_curveOf_63 rfl rfl inX6 (by decide) fl_X6_29 rfl rfl ?_
          refine Z.iload_n hX dX6_curveOf_66 rfl rfl ?_
          refine Z.callVfr (As := [.int (zI sz)]) (rest := [.ref (h 5), .ref (h 7)]) hX 2 4 rfl rfl (ct_X2_resultant l D ce h pl ar G L B25 J26 sz tk1 (by omega)) mc_X2_resultant ml_X6_158 im_X2_resultant se_X2_resultant ini_X2 nd_X2_resultant ⟨Nat.le_of_ble_eq_true rfl, Nat.le_of_ble_eq_true rfl⟩ ⟨rfl, rfl⟩ ⟨Nat.le_refl _, Nat.le_refl _⟩ rfl (Nat.le_of_ble_eq_true rfl) dX6_curveOf_67 ?_
          rintro r_10 w1 ⟨k211, B212, J213, hr_, hw_, rs1, rs2⟩
          subst hr_
          subst hw_
          refine Z.aload_n hX dX6_curveOf_70 rfl rfl ?_
          refine Z.callVfi (As := [.ref (pl k211), .ref (h 7)]) (rest := [.ref (h 7)]) hX 4 5 rfl rfl (ct_X4_findRoot_e l D ce h pl ar G L B212 J213 k211 rs1 (by omega)) mc_X4_findRoot ml_X6_162 im_X4_findRoot se_X4_findRoot ini_X4 nd_X4_findRoot ⟨Nat.le_of_ble_eq_true rfl, Nat.le_of_ble_eq_true rfl⟩ ⟨rfl, rfl⟩ ⟨Nat.le_refl _, Nat.le_refl _⟩ rfl (Nat.le_of_ble_eq_true rfl) dX6_curveOf_71 ?_
          rintro r_14 w1 ⟨fz, G215, B216, J217, hr_, hw_, fz1, fz2, fz3, fz4⟩
          subst hr_
          subst hw_
          refine Z.if_eq hX 81 dX6_curveOf_74 (by decide) ⟨by omega, by omega⟩ ?_ ?_
          · intro c18
            refine Z.iconst hX dX6_curveOf_81 ?_
            refine Z.putf (ty := .boolean) hX 0 7 3 tyX0 dX6_curveOf_82 rfl rfl inX0 tyX0_ok nmX0 (by decide) fl_X6_106 rfl rfl (by decide +kernel) rfl rfl (Nat.le_of_ble_eq_true rfl) ?_
            obtain ⟨G19, eG19⟩ : ∃ F' : Nat → Int, F' = va_up G215 6 (0) := ⟨_, rfl⟩
            refine Z.toW (w' := cW ce h pl ar G19 L B216 J217) (by rw [eG19]; rfl) ?_
            have gG19 : G19 6 = 0 := by rw [eG19]; exact up_eq
            have fG19 : ∀ j_, j_ ≠ 6 → G19 j_ = G215 j_ := fun j_ hj_ => by rw [eG19]; exact up_ne hj_
            refine Z.aload_n hX dX6_curveOf_85 rfl rfl ?_
            refine Z.iconst hX dX6_curveOf_86 ?_
            refine Z.putf (ty := .boolean) hX 0 7 2 tyX0 dX6_curveOf_87 rfl rfl inX0 tyX0_ok nmX0 (by decide) fl_X6_144 rfl rfl (by decide +kernel) rfl rfl (Nat.le_of_ble_eq_true rfl) ?_
            obtain ⟨G20, eG20⟩ : ∃ F' : Nat → Int, F' = va_up G19 5 (1) := ⟨_, rfl⟩
            refine Z.toW (w' := cW ce h pl ar G20 L B216 J217) (by rw [eG20]; rfl) ?_
            have gG20 : G20 5 = 1 := by rw [eG20]; exact up_eq
            have fG20 : ∀ j_, j_ ≠ 5 → G20 j_ = G19 j_ := fun j_ hj_ => by rw [eG20]; exact up_ne hj_
            refine Z.aload_n hX dX6_curveOf_90 rfl rfl ?_
            exact hR _ _ _ _ dX6_curveOf_91 ⟨G20, L, B216, J217, rfl, rfl, (cok_of fz2 (by have := fz3 0 (by decide); have := fG19 0 (by decide); have := fG20 0 (by decide); unfold bl at *; omega) (by have := fz3 1 (by decide); have := fG19 1 (by decide); have := fG20 1 (by decide); unfold bl at *; omega) (by have := fz3 2 (by decide); have := fG19 2 (by decide); have := fG20 2 (by decide); unfold bl at *; omega) (by have := fz3 3 (by decide); have := fG19 3 (by decide); have := fG20 3 (by decide); unfold bl at *; omega) (by have := fG19 4 (by decide); have := fG20 4 (by decide); unfold bl at *; omega) (by have := fz3 5 (by decide); have := fG19 5 (by decide); unfold bl at *; omega) (by have := fz3 6 (by decide); have := fG20 6 (by decide); unfold bl at *; omega)), (fun _ _ => rfl)⟩
          · intro c18
            refine Z.iconst hX dX6_curveOf_77 ?_
            refine Z.goto hX 82 dX6_curveOf_78 (by decide) ?_
            refine Z.putf (ty := .boolean) hX 0 7 3 tyX0 dX6_curveOf_82 rfl rfl inX0 tyX0_ok nmX0 (by decide) fl_X6_106 rfl rfl (by decide +kernel) rfl rfl (Nat.le_of_ble_eq_true rfl) ?_
            obtain ⟨G21, eG21⟩ : ∃ F' : Nat → Int, F' = va_up G215 6 (1) := ⟨_, rfl⟩
            refine Z.toW (w' := cW ce h pl ar G21 L B216 J217) (by rw [eG21]; rfl) ?_
            have gG21 : G21 6 = 1 := by rw [eG21]; exact up_eq
            have fG21 : ∀ j_, j_ ≠ 6 → G21 j_ = G215 j_ := fun j_ hj_ => by rw [eG21]; exact up_ne hj_
            refine Z.aload_n hX dX6_curveOf_85 rfl rfl ?_
            refine Z.iconst hX dX6_curveOf_86 ?_
            refine Z.putf (ty := .boolean) hX 0 7 2 tyX0 dX6_curveOf_87 rfl rfl inX0 tyX0_ok nmX0 (by decide) fl_X6_144 rfl rfl (by decide +kernel) rfl rfl (Nat.le_of_ble_eq_true rfl) ?_
            obtain ⟨G22, eG22⟩ : ∃ F' : Nat → Int, F' = va_up G21 5 (1) := ⟨_, rfl⟩
            refine Z.toW (w' := cW ce h pl ar G22 L B216 J217) (by rw [eG22]; rfl) ?_
            have gG22 : G22 5 = 1 := by rw [eG22]; exact up_eq
            have fG22 : ∀ j_, j_ ≠ 5 → G22 j_ = G21 j_ := fun j_ hj_ => by rw [eG22]; exact up_ne hj_
            refine Z.aload_n hX dX6_curveOf_90 rfl rfl ?_
            exact hR _ _ _ _ dX6_curveOf_91 ⟨G22, L, B216, J217, rfl, rfl, (cok_of fz2 (by have := fz3 0 (by decide); have := fG21 0 (by decide); have := fG22 0 (by decide); unfold bl at *; omega) (by have := fz3 1 (by decide); have := fG21 1 (by decide); have := fG22 1 (by decide); unfold bl at *; omega) (by have := fz3 2 (by decide); have := fG21 2 (by decide); have := fG22 2 (by decide); unfold bl at *; omega) (by have := fz3 3 (by decide); have := fG21 3 (by decide); have := fG22 3 (by decide); unfold bl at *; omega) (by have := fG21 4 (by decide); have := fG22 4 (by decide); unfold bl at *; omega) (by have := fz3 5 (by decide); have := fG21 5 (by decide); unfold bl at *; omega) (by have := fz3 6 (by decide); have := fG22 6 (by decide); unfold bl at *; omega)), (fun _ _ => rfl)⟩
      · intro c3; exfalso; revert c3; decide
  · intro c1; exfalso; revert c1; decide

theorem dX6_moveTo_0 : decode cX6_moveTo 0 = .ok (.aload_n 0, 1) := by decide +kernel
theorem dX6_moveTo_1 : decode cX6_moveTo 1 = .ok (.getfield 10, 3) := by decide +kernel
theorem dX6_moveTo_4 : decode cX6_moveTo 4 = .ok (.invokevirtual 80, 3) := by decide +kernel
theorem dX6_moveTo_7 : decode cX6_moveTo 7 = .ok (.istore_n 3, 1) := by decide +kernel
theorem dX6_moveTo_8 : decode cX6_moveTo 8 = .ok (.iconst 0, 1) := by decide +kernel
theorem dX6_moveTo_9 : decode cX6_moveTo 9 = .ok (.istore 4, 2) := by decide +kernel
theorem dX6_moveTo_11 : decode cX6_moveTo 11 = .ok (.iload 4, 2) := by decide +kernel
theorem dX6_moveTo_13 : decode cX6_moveTo 13 = .ok (.iconst 3, 1) := by decide +kernel
theorem dX6_moveTo_14 : decode cX6_moveTo 14 = .ok (.if_icmp .ge 72, 3) := by decide +kernel
theorem dX6_moveTo_17 : decode cX6_moveTo 17 = .ok (.lconst 0, 1) := by decide +kernel
theorem dX6_moveTo_18 : decode cX6_moveTo 18 = .ok (.lstore 5, 2) := by decide +kernel
theorem dX6_moveTo_20 : decode cX6_moveTo 20 = .ok (.iconst 0, 1) := by decide +kernel
theorem dX6_moveTo_21 : decode cX6_moveTo 21 = .ok (.istore 7, 2) := by decide +kernel
theorem dX6_moveTo_23 : decode cX6_moveTo 23 = .ok (.iload 7, 2) := by decide +kernel
theorem dX6_moveTo_25 : decode cX6_moveTo 25 = .ok (.iload_n 3, 1) := by decide +kernel
theorem dX6_moveTo_26 : decode cX6_moveTo 26 = .ok (.if_icmp .gt 45, 3) := by decide +kernel
theorem dX6_moveTo_29 : decode cX6_moveTo 29 = .ok (.lload 5, 2) := by decide +kernel
theorem dX6_moveTo_31 : decode cX6_moveTo 31 = .ok (.aload_n 0, 1) := by decide +kernel
theorem dX6_moveTo_32 : decode cX6_moveTo 32 = .ok (.getfield 10, 3) := by decide +kernel
theorem dX6_moveTo_35 : decode cX6_moveTo 35 = .ok (.getfield 69, 3) := by decide +kernel
theorem dX6_moveTo_38 : decode cX6_moveTo 38 = .ok (.iload 4, 2) := by decide +kernel
theorem dX6_moveTo_40 : decode cX6_moveTo 40 = .ok (.aaload, 1) := by decide +kernel
theorem dX6_moveTo_41 : decode cX6_moveTo 41 = .ok (.iload 7, 2) := by decide +kernel
theorem dX6_moveTo_43 : decode cX6_moveTo 43 = .ok (.laload, 1) := by decide +kernel
theorem dX6_moveTo_44 : decode cX6_moveTo 44 = .ok (.iload_n 1, 1) := by decide +kernel
theorem dX6_moveTo_45 : decode cX6_moveTo 45 = .ok (.i2l, 1) := by decide +kernel
theorem dX6_moveTo_46 : decode cX6_moveTo 46 = .ok (.iload 7, 2) := by decide +kernel
theorem dX6_moveTo_48 : decode cX6_moveTo 48 = .ok (.invokestatic 166, 3) := by decide +kernel
theorem dX6_moveTo_51 : decode cX6_moveTo 51 = .ok (.lmul, 1) := by decide +kernel
theorem dX6_moveTo_52 : decode cX6_moveTo 52 = .ok (.iload_n 2, 1) := by decide +kernel
theorem dX6_moveTo_53 : decode cX6_moveTo 53 = .ok (.i2l, 1) := by decide +kernel
theorem dX6_moveTo_54 : decode cX6_moveTo 54 = .ok (.iload_n 3, 1) := by decide +kernel
theorem dX6_moveTo_55 : decode cX6_moveTo 55 = .ok (.iload 7, 2) := by decide +kernel
theorem dX6_moveTo_57 : decode cX6_moveTo 57 = .ok (.isub, 1) := by decide +kernel
theorem dX6_moveTo_58 : decode cX6_moveTo 58 = .ok (.invokestatic 166, 3) := by decide +kernel
theorem dX6_moveTo_61 : decode cX6_moveTo 61 = .ok (.lmul, 1) := by decide +kernel
theorem dX6_moveTo_62 : decode cX6_moveTo 62 = .ok (.ladd, 1) := by decide +kernel
theorem dX6_moveTo_63 : decode cX6_moveTo 63 = .ok (.lstore 5, 2) := by decide +kernel
theorem dX6_moveTo_65 : decode cX6_moveTo 65 = .ok (.iinc 7 1, 3) := by decide +kernel
theorem dX6_moveTo_68 : decode cX6_moveTo 68 = .ok (.goto (-45), 3) := by decide +kernel
theorem dX6_moveTo_71 : decode cX6_moveTo 71 = .ok (.aload_n 0, 1) := by decide +kernel
theorem dX6_moveTo_72 : decode cX6_moveTo 72 = .ok (.getfield 50, 3) := by decide +kernel
theorem dX6_moveTo_75 : decode cX6_moveTo 75 = .ok (.iload 4, 2) := by decide +kernel
theorem dX6_moveTo_77 : decode cX6_moveTo 77 = .ok (.lload 5, 2) := by decide +kernel
theorem dX6_moveTo_79 : decode cX6_moveTo 79 = .ok (.lastore, 1) := by decide +kernel
theorem dX6_moveTo_80 : decode cX6_moveTo 80 = .ok (.iinc 4 1, 3) := by decide +kernel
theorem dX6_moveTo_83 : decode cX6_moveTo 83 = .ok (.goto (-72), 3) := by decide +kernel
theorem dX6_moveTo_86 : decode cX6_moveTo 86 = .ok (.return_, 1) := by decide +kernel
set_option maxHeartbeats 4000000 in
set_option maxRecDepth 100000 in
theorem ct_X6_moveTo (l : Launch) (D : va_G) (ce : Nat → ClassId) (h pl ar : Nat → Nat) (G : Nat → Int) (L : Nat → Nat → Int64) (B : Nat → Int) (J : Nat → Nat → Int64) (u v : Int) (hu : -2147483648 ≤ u ∧ u < 2147483648) (hv : -2147483648 ≤ v ∧ v < 2147483648) : Ct l yX6_moveTo cX6_moveTo 8 none { frames := 1, cells := 0, slots := 0, locals := 25 } 0 0 D (TY ce) [.ref (h 0), .int (zI u), .int (zI v)] (cW ce h pl ar G L B J) (QV D (TY ce) (fun w1 => ∃ n : Int, ∃ L2 : Nat → Nat → Int64, w1 = cW ce h pl ar G L2 B J ∧ (HP L n) ∧ (∀ q : Int, 0 ≤ q → q < 3 → L2 9 q.toNat = wOf (L q.toNat) u v n) ∧ (∀ k, k ≠ 9 → L2 k = L k))) := by
  refine Ct.ofV (by decide) (Nat.le_of_ble_eq_true rfl) ?_
  intro p e s m args below meth c A Q hX hnm hR
  refine Z.pick (lv' := [(0, .ref (h 0)), (1, .int (zI u)), (2, .int (zI v))]) [0, 1, 2] rfl ?_
  refine Z.aload_n hX dX6_moveTo_0 rfl rfl ?_
  refine Z.getf hX 6 0 0 dX6_moveTo_1 rfl rfl inX6 (by decide) fl_X6_10 rfl rfl ?_
  refine Z.callVfi (As := []) (rest := []) hX 5 1 rfl rfl (ct_X5_highestPower_r l D ce h pl ar G L B J ) mc_X5_highestPower ml_X6_80 im_X5_highestPower se_X5_highestPower ini_X5 nd_X5_highestPower ⟨Nat.le_of_ble_eq_true rfl, Nat.le_of_ble_eq_true rfl⟩ ⟨rfl, rfl⟩ ⟨Nat.le_refl _, Nat.le_refl _⟩ rfl (Nat.le_of_ble_eq_true rfl) dX6_moveTo_4 ?_
  rintro r_1 w1 ⟨n, hr_, hw_, n1, n2, n3⟩
  subst hr_
  subst hw_
  refine Z.istore_n (lv' := [(3, .int (zI n)), (0, .ref (h 0)), (1, .int (zI u)), (2, .int (zI v))]) hX dX6_moveTo_7 rfl (by decide) rfl ?_
  refine Z.iconst hX dX6_moveTo_8 ?_
  refine Z.istore (lv' := [(4, .int (zI 0)), (3, .int (zI n)), (0, .ref (h 0)), (1, .int (zI u)), (2, .int (zI v))]) hX dX6_moveTo_9 (by decide) rfl ?_
  have key_11 : ∀ (N : Nat), ∀ (pt_ : Int) (M : Nat → Nat → Int64), (3 - pt_).toNat < N → (hp : 0 ≤ pt_ ∧ pt_ ≤ 3) → (hs : ∀ q : Int, 0 ≤ q → q < pt_ → M 9 q.toNat = wOf (L q.toNat) u v n) → (hM : ∀ k, k ≠ 9 → M k = L k) → Z p l e { frames := 1, cells := 0, slots := 0, locals := 25 } s m args below meth c D A 8 0 0 Q 11 [(4, .int (zI pt_)), (3, .int (zI n)), (2, .int (zI v)), (1, .int (zI u)), (0, .ref (h 0))] [] (cW ce h pl ar G M B J) := by
    intro N
    induction N with
    | zero => intro pt_ M hm; exact absurd hm (Nat.not_lt_zero _)
    | succ N ih_11 =>
      intro pt_ M hm hp hs hM
      refine Z.iload hX dX6_moveTo_11 rfl ?_
      refine Z.iconst hX dX6_moveTo_13 ?_
      refine Z.icmp_ge hX 86 dX6_moveTo_14 (by decide) ⟨by omega, by omega⟩ ⟨by omega, by omega⟩ ?_ ?_
      · intro c2
        exact hR _ _ _ dX6_moveTo_86 ⟨_, M, rfl, ⟨n1, n2, n3⟩, (fun q h1 h2 => hs q h1 (by omega)), hM⟩
      · intro c2
        refine Z.lconst (v := 0) hX dX6_moveTo_17 rfl ?_
        refine Z.lstore (lv' := [(5, .long 0), (4, .int (zI pt_)), (3, .int (zI n)), (2, .int (zI v)), (1, .int (zI u)), (0, .ref (h 0))]) hX dX6_moveTo_18 (by decide) rfl ?_
        refine Z.iconst hX dX6_moveTo_20 ?_
        refine Z.istore (lv' := [(7, .int (zI 0)), (5, .long 0), (4, .int (zI pt_)), (3, .int (zI n)), (2, .int (zI v)), (1, .int (zI u)), (0, .ref (h 0))]) hX dX6_moveTo_21 (by decide) rfl ?_
        have key_23 : ∀ (N : Nat), ∀ (i : Int) (x : Int64), (n + 1 - i).toNat < N → (hi : 0 ≤ i ∧ i ≤ n + 1) → (hx : x = wsum (L (pt_ : Int).toNat) (zL u) (zL v) n i.toNat) → Z p l e { frames := 1, cells := 0, slots := 0, locals := 25 } s m args below meth c D A 8 0 0 Q 23 [(7, .int (zI i)), (5, .long x), (4, .int (zI pt_)), (3, .int (zI n)), (2, .int (zI v)), (1, .int (zI u)), (0, .ref (h 0))] [] (cW ce h pl ar G M B J) := by
          intro N
          induction N with
          | zero => intro i x hm; exact absurd hm (Nat.not_lt_zero _)
          | succ N ih_23 =>
            intro i x hm hi hx
            refine Z.iload hX dX6_moveTo_23 rfl ?_
            refine Z.iload_n hX dX6_moveTo_25 rfl rfl ?_
            refine Z.icmp_gt hX 71 dX6_moveTo_26 (by decide) ⟨by omega, by omega⟩ ⟨by omega, by omega⟩ ?_ ?_
            · intro c3
              refine Z.aload_n hX dX6_moveTo_71 rfl rfl ?_
              refine Z.getf hX 6 0 7 dX6_moveTo_72 rfl rfl inX6 (by decide) fl_X6_50 rfl rfl ?_
              refine Z.iload hX dX6_moveTo_75 rfl ?_
              refine Z.lload hX dX6_moveTo_77 rfl ?_
              refine Z.lastore hX 8 1 dX6_moveTo_79 rfl rfl (by omega) (by omega) (by decide) ?_
              obtain ⟨L4, eL4⟩ : ∃ J' : Nat → Nat → Int64, J' = va_up M 9 (vp_updL (M 9) (pt_ : Int).toNat (x)) := ⟨_, rfl⟩
              refine Z.toW (w' := cW ce h pl ar G L4 B J) (by rw [eL4]; rfl) ?_
              have gL4 : L4 9 = vp_updL (M 9) (pt_ : Int).toNat (x) := by rw [eL4]; exact up_eq
              have fL4 : ∀ j_, j_ ≠ 9 → L4 j_ = M j_ := fun j_ hj_ => by rw [eL4]; exact up_ne hj_
              refine Z.iinc (lv' := [(4, .int (zI (pt_ + 1))), (7, .int (zI i)), (5, .long x), (3, .int (zI n)), (2, .int (zI v)), (1, .int (zI u)), (0, .ref (h 0))]) hX dX6_moveTo_80 rfl (by decide) rfl ?_
              refine Z.goto hX 11 dX6_moveTo_83 (by decide) ?_
              refine Z.pick [0, 3, 4, 5, 6] rfl ?_
              exact ih_11 _ _ (by omega) (by omega) (sp_s (g := fun a => wOf (L a) u v n) hp.1 gL4 (by rw [hx]; unfold wOf; congr 1; omega) hs) (fun j_ h_9 => ((fL4 j_ h_9).trans (hM j_ h_9)))
            · intro c3
              refine Z.lload hX dX6_moveTo_29 rfl ?_
              refine Z.aload_n hX dX6_moveTo_31 rfl rfl ?_
              refine Z.getf hX 6 0 0 dX6_moveTo_32 rfl rfl inX6 (by decide) fl_X6_10 rfl rfl ?_
              refine Z.getf hX 5 1 0 dX6_moveTo_35 rfl rfl inX5 (by decide) fl_X6_69 rfl rfl ?_
              refine Z.iload hX dX6_moveTo_38 rfl ?_
              refine Z.aaload hX 9 3 dX6_moveTo_40 rfl rfl rfl (by omega) (by omega) (by decide) rfl ?_
              refine Z.iload hX dX6_moveTo_41 rfl ?_
              refine Z.laload hX (18 + (pt_ : Int).toNat) 1 dX6_moveTo_43 (cW_in (by omega)) rfl (by omega) (by omega) (by decide) ?_
              refine Z.iload_n hX dX6_moveTo_44 rfl rfl ?_
              refine Z.i2l hX dX6_moveTo_45 ⟨by omega, by omega⟩ ?_
              refine Z.iload hX dX6_moveTo_46 rfl ?_
              refine Z.callS0l (As := [.long (zL u), .int (zI i)]) (rest := [.long (M ((pt_ : Int).toNat) (i : Int).toNat), .long x]) hX (ct_X6_powerOf l D ce (zL u) i (by omega)) mc_X6_powerOf ml_X6_166 st_X6_powerOf ini_X6 nd_X6_powerOf ⟨Nat.le_of_ble_eq_true rfl, Nat.le_of_ble_eq_true rfl⟩ ⟨rfl, rfl⟩ ⟨Nat.le_refl _, Nat.le_refl _⟩ rfl (Nat.le_of_ble_eq_true rfl) dX6_moveTo_48 ?_
              rintro ra w1 ⟨r06, hr_, hw_, hra⟩
              subst hr_
              refine ⟨hw_, ?_⟩
              refine Z.lmul hX dX6_moveTo_51 ?_
              refine Z.iload_n hX dX6_moveTo_52 rfl rfl ?_
              refine Z.i2l hX dX6_moveTo_53 ⟨by omega, by omega⟩ ?_
              refine Z.iload_n hX dX6_moveTo_54 rfl rfl ?_
              refine Z.iload hX dX6_moveTo_55 rfl ?_
              refine Z.isub hX dX6_moveTo_57 ?_
              refine Z.callS0l (As := [.long (zL v), .int (zI (n - i))]) (rest := [.long ((M ((pt_ : Int).toNat) (i : Int).toNat) * ra), .long x]) hX (ct_X6_powerOf l D ce (zL v) (n - i) (by omega)) mc_X6_powerOf ml_X6_166 st_X6_powerOf ini_X6 nd_X6_powerOf ⟨Nat.le_of_ble_eq_true rfl, Nat.le_of_ble_eq_true rfl⟩ ⟨rfl, rfl⟩ ⟨Nat.le_refl _, Nat.le_refl _⟩ rfl (Nat.le_of_ble_eq_true rfl) dX6_moveTo_58 ?_
              rintro rb w1 ⟨r08, hr_, hw_, hrb⟩
              subst hr_
              refine ⟨hw_, ?_⟩
              refine Z.lmul hX dX6_moveTo_61 ?_
              refine Z.ladd hX dX6_moveTo_62 ?_
              refine Z.lstore (lv' := [(5, .long (x + (((M ((pt_ : Int).toNat) (i : Int).toNat) * ra) * rb))), (7, .int (zI i)), (4, .int (zI pt_)), (3, .int (zI n)), (2, .int (zI v)), (1, .int (zI u)), (0, .ref (h 0))]) hX dX6_moveTo_63 (by decide) rfl ?_
              refine Z.iinc (lv' := [(7, .int (zI (i + 1))), (5, .long (x + (((M ((pt_ : Int).toNat) (i : Int).toNat) * ra) * rb))), (4, .int (zI pt_)), (3, .int (zI n)), (2, .int (zI v)), (1, .int (zI u)), (0, .ref (h 0))]) hX dX6_moveTo_65 rfl (by decide) rfl ?_
              refine Z.goto hX 23 dX6_moveTo_68 (by decide) ?_
              refine Z.pick [0, 1, 2, 3, 4, 5, 6] rfl ?_
              exact ih_23 _ _ (by omega) (by omega) (by rw [hM (pt_ : Int).toNat (by omega)]; exact wsum_s hi.1 hx hra hrb)
        refine Z.pick [0, 1, 2, 3, 4, 5, 6] rfl ?_
        exact key_23 _ _ _ (Nat.lt_succ_self _) (by omega) rfl
  refine Z.pick [0, 1, 4, 3, 2] rfl ?_
  exact key_11 _ _ _ (Nat.lt_succ_self _) (by omega) (fun q h1 h2 => by omega) (fun _ _ => rfl)

theorem dX6_slopeByU_0 : decode cX6_slopeByU 0 = .ok (.lconst 0, 1) := by decide +kernel
theorem dX6_slopeByU_1 : decode cX6_slopeByU 1 = .ok (.lstore 5, 2) := by decide +kernel
theorem dX6_slopeByU_3 : decode cX6_slopeByU 3 = .ok (.iconst 1, 1) := by decide +kernel
theorem dX6_slopeByU_4 : decode cX6_slopeByU 4 = .ok (.istore 7, 2) := by decide +kernel
theorem dX6_slopeByU_6 : decode cX6_slopeByU 6 = .ok (.iload 7, 2) := by decide +kernel
theorem dX6_slopeByU_8 : decode cX6_slopeByU 8 = .ok (.iload 4, 2) := by decide +kernel
theorem dX6_slopeByU_10 : decode cX6_slopeByU 10 = .ok (.if_icmp .gt 51, 3) := by decide +kernel
theorem dX6_slopeByU_13 : decode cX6_slopeByU 13 = .ok (.lload 5, 2) := by decide +kernel
theorem dX6_slopeByU_15 : decode cX6_slopeByU 15 = .ok (.iload 7, 2) := by decide +kernel
theorem dX6_slopeByU_17 : decode cX6_slopeByU 17 = .ok (.i2l, 1) := by decide +kernel
theorem dX6_slopeByU_18 : decode cX6_slopeByU 18 = .ok (.aload_n 0, 1) := by decide +kernel
theorem dX6_slopeByU_19 : decode cX6_slopeByU 19 = .ok (.getfield 10, 3) := by decide +kernel
theorem dX6_slopeByU_22 : decode cX6_slopeByU 22 = .ok (.getfield 69, 3) := by decide +kernel
theorem dX6_slopeByU_25 : decode cX6_slopeByU 25 = .ok (.iload_n 1, 1) := by decide +kernel
theorem dX6_slopeByU_26 : decode cX6_slopeByU 26 = .ok (.aaload, 1) := by decide +kernel
theorem dX6_slopeByU_27 : decode cX6_slopeByU 27 = .ok (.iload 7, 2) := by decide +kernel
theorem dX6_slopeByU_29 : decode cX6_slopeByU 29 = .ok (.laload, 1) := by decide +kernel
theorem dX6_slopeByU_30 : decode cX6_slopeByU 30 = .ok (.lmul, 1) := by decide +kernel
theorem dX6_slopeByU_31 : decode cX6_slopeByU 31 = .ok (.iload_n 2, 1) := by decide +kernel
theorem dX6_slopeByU_32 : decode cX6_slopeByU 32 = .ok (.i2l, 1) := by decide +kernel
theorem dX6_slopeByU_33 : decode cX6_slopeByU 33 = .ok (.iload 7, 2) := by decide +kernel
theorem dX6_slopeByU_35 : decode cX6_slopeByU 35 = .ok (.iconst 1, 1) := by decide +kernel
theorem dX6_slopeByU_36 : decode cX6_slopeByU 36 = .ok (.isub, 1) := by decide +kernel
theorem dX6_slopeByU_37 : decode cX6_slopeByU 37 = .ok (.invokestatic 166, 3) := by decide +kernel
theorem dX6_slopeByU_40 : decode cX6_slopeByU 40 = .ok (.lmul, 1) := by decide +kernel
theorem dX6_slopeByU_41 : decode cX6_slopeByU 41 = .ok (.iload_n 3, 1) := by decide +kernel
theorem dX6_slopeByU_42 : decode cX6_slopeByU 42 = .ok (.i2l, 1) := by decide +kernel
theorem dX6_slopeByU_43 : decode cX6_slopeByU 43 = .ok (.iload 4, 2) := by decide +kernel
theorem dX6_slopeByU_45 : decode cX6_slopeByU 45 = .ok (.iload 7, 2) := by decide +kernel
theorem dX6_slopeByU_47 : decode cX6_slopeByU 47 = .ok (.isub, 1) := by decide +kernel
theorem dX6_slopeByU_48 : decode cX6_slopeByU 48 = .ok (.invokestatic 166, 3) := by decide +kernel
theorem dX6_slopeByU_51 : decode cX6_slopeByU 51 = .ok (.lmul, 1) := by decide +kernel
theorem dX6_slopeByU_52 : decode cX6_slopeByU 52 = .ok (.ladd, 1) := by decide +kernel
theorem dX6_slopeByU_53 : decode cX6_slopeByU 53 = .ok (.lstore 5, 2) := by decide +kernel
theorem dX6_slopeByU_55 : decode cX6_slopeByU 55 = .ok (.iinc 7 1, 3) := by decide +kernel
theorem dX6_slopeByU_58 : decode cX6_slopeByU 58 = .ok (.goto (-52), 3) := by decide +kernel
theorem dX6_slopeByU_61 : decode cX6_slopeByU 61 = .ok (.lload 5, 2) := by decide +kernel
theorem dX6_slopeByU_63 : decode cX6_slopeByU 63 = .ok (.lreturn, 1) := by decide +kernel
set_option maxHeartbeats 4000000 in
set_option maxRecDepth 100000 in
theorem ct_X6_slopeByU (l : Launch) (D : va_G) (ce : Nat → ClassId) (h pl ar : Nat → Nat) (G : Nat → Int) (L : Nat → Nat → Int64) (B : Nat → Int) (J : Nat → Nat → Int64) (wh u v tp : Int) (hw : 0 ≤ wh ∧ wh ≤ 2) (hu : -2147483648 ≤ u ∧ u < 2147483648) (hv : -2147483648 ≤ v ∧ v < 2147483648) (ht : 0 ≤ tp ∧ tp ≤ 4) : Ct l yX6_slopeByU cX6_slopeByU 8 (some .long) { frames := 1, cells := 0, slots := 0, locals := 25 } 0 0 D (TY ce) [.ref (h 0), .int (zI wh), .int (zI u), .int (zI v), .int (zI tp)] (cW ce h pl ar G L B J) (QL D (TY ce) (fun r w1 => ∃ r0 : Int64, r = r0 ∧ w1 = cW ce h pl ar G L B J)) := by
  refine Ct.ofL (by decide) (Nat.le_of_ble_eq_true rfl) ?_
  intro p e s m args below meth c A Q hX hnm hR
  refine Z.pick (lv' := [(0, .ref (h 0)), (1, .int (zI wh)), (2, .int (zI u)), (3, .int (zI v)), (4, .int (zI tp))]) [0, 1, 2, 3, 4] rfl ?_
  refine Z.lconst (v := 0) hX dX6_slopeByU_0 rfl ?_
  refine Z.lstore (lv' := [(5, .long 0), (0, .ref (h 0)), (1, .int (zI wh)), (2, .int (zI u)), (3, .int (zI v)), (4, .int (zI tp))]) hX dX6_slopeByU_1 (by decide) rfl ?_
  refine Z.iconst hX dX6_slopeByU_3 ?_
  refine Z.istore (lv' := [(7, .int (zI 1)), (5, .long 0), (0, .ref (h 0)), (1, .int (zI wh)), (2, .int (zI u)), (3, .int (zI v)), (4, .int (zI tp))]) hX dX6_slopeByU_4 (by decide) rfl ?_
  have key_6 : ∀ (N : Nat), ∀ (i : Int) (x : Int64), (tp + 1 - i).toNat < N → (hi : 0 ≤ i ∧ i ≤ tp + 1) → Z p l e { frames := 1, cells := 0, slots := 0, locals := 25 } s m args below meth c D A 8 0 0 Q 6 [(7, .int (zI i)), (5, .long x), (4, .int (zI tp)), (3, .int (zI v)), (2, .int (zI u)), (1, .int (zI wh)), (0, .ref (h 0))] [] (cW ce h pl ar G L B J) := by
    intro N
    induction N with
    | zero => intro i x hm; exact absurd hm (Nat.not_lt_zero _)
    | succ N ih_6 =>
      intro i x hm hi
      refine Z.iload hX dX6_slopeByU_6 rfl ?_
      refine Z.iload hX dX6_slopeByU_8 rfl ?_
      refine Z.icmp_gt hX 61 dX6_slopeByU_10 (by decide) ⟨by omega, by omega⟩ ⟨by omega, by omega⟩ ?_ ?_
      · intro c1
        refine Z.lload hX dX6_slopeByU_61 rfl ?_
        exact hR _ _ _ _ dX6_slopeByU_63 ⟨x, rfl, rfl⟩
      · intro c1
        refine Z.lload hX dX6_slopeByU_13 rfl ?_
        refine Z.iload hX dX6_slopeByU_15 rfl ?_
        refine Z.i2l hX dX6_slopeByU_17 ⟨by omega, by omega⟩ ?_
        refine Z.aload_n hX dX6_slopeByU_18 rfl rfl ?_
        refine Z.getf hX 6 0 0 dX6_slopeByU_19 rfl rfl inX6 (by decide) fl_X6_10 rfl rfl ?_
        refine Z.getf hX 5 1 0 dX6_slopeByU_22 rfl rfl inX5 (by decide) fl_X6_69 rfl rfl ?_
        refine Z.iload_n hX dX6_slopeByU_25 rfl rfl ?_
        refine Z.aaload hX 9 3 dX6_slopeByU_26 rfl rfl rfl (by omega) (by omega) (by decide) rfl ?_
        refine Z.iload hX dX6_slopeByU_27 rfl ?_
        refine Z.laload hX (18 + (wh : Int).toNat) 1 dX6_slopeByU_29 (cW_in (by omega)) rfl (by omega) (by omega) (by decide) ?_
        refine Z.lmul hX dX6_slopeByU_30 ?_
        refine Z.iload_n hX dX6_slopeByU_31 rfl rfl ?_
        refine Z.i2l hX dX6_slopeByU_32 ⟨by omega, by omega⟩ ?_
        refine Z.iload hX dX6_slopeByU_33 rfl ?_
        refine Z.iconst hX dX6_slopeByU_35 ?_
        refine Z.isub hX dX6_slopeByU_36 ?_
        refine Z.callS0l (As := [.long (zL u), .int (zI (i - 1))]) (rest := [.long ((zL i) * (L ((wh : Int).toNat) (i : Int).toNat)), .long x]) hX (ct_X6_powerOf l D ce (zL u) (i - 1) (by omega)) mc_X6_powerOf ml_X6_166 st_X6_powerOf ini_X6 nd_X6_powerOf ⟨Nat.le_of_ble_eq_true rfl, Nat.le_of_ble_eq_true rfl⟩ ⟨rfl, rfl⟩ ⟨Nat.le_refl _, Nat.le_refl _⟩ rfl (Nat.le_of_ble_eq_true rfl) dX6_slopeByU_37 ?_
        rintro r_2 w1 ⟨r03, hr_, hw_, hq4⟩
        subst hr_
        refine ⟨hw_, ?_⟩
        refine Z.lmul hX dX6_slopeByU_40 ?_
        refine Z.iload_n hX dX6_slopeByU_41 rfl rfl ?_
        refine Z.i2l hX dX6_slopeByU_42 ⟨by omega, by omega⟩ ?_
        refine Z.iload hX dX6_slopeByU_43 rfl ?_
        refine Z.iload hX dX6_slopeByU_45 rfl ?_
        refine Z.isub hX dX6_slopeByU_47 ?_
        refine Z.callS0l (As := [.long (zL v), .int (zI (tp - i))]) (rest := [.long (((zL i) * (L ((wh : Int).toNat) (i : Int).toNat)) * r_2), .long x]) hX (ct_X6_powerOf l D ce (zL v) (tp - i) (by omega)) mc_X6_powerOf ml_X6_166 st_X6_powerOf ini_X6 nd_X6_powerOf ⟨Nat.le_of_ble_eq_true rfl, Nat.le_of_ble_eq_true rfl⟩ ⟨rfl, rfl⟩ ⟨Nat.le_refl _, Nat.le_refl _⟩ rfl (Nat.le_of_ble_eq_true rfl) dX6_slopeByU_48 ?_
        rintro r_5 w1 ⟨r06, hr_, hw_, hq7⟩
        subst hr_
        refine ⟨hw_, ?_⟩
        refine Z.lmul hX dX6_slopeByU_51 ?_
        refine Z.ladd hX dX6_slopeByU_52 ?_
        refine Z.lstore (lv' := [(5, .long (x + ((((zL i) * (L ((wh : Int).toNat) (i : Int).toNat)) * r_2) * r_5))), (7, .int (zI i)), (4, .int (zI tp)), (3, .int (zI v)), (2, .int (zI u)), (1, .int (zI wh)), (0, .ref (h 0))]) hX dX6_slopeByU_53 (by decide) rfl ?_
        refine Z.iinc (lv' := [(7, .int (zI (i + 1))), (5, .long (x + ((((zL i) * (L ((wh : Int).toNat) (i : Int).toNat)) * r_2) * r_5))), (4, .int (zI tp)), (3, .int (zI v)), (2, .int (zI u)), (1, .int (zI wh)), (0, .ref (h 0))]) hX dX6_slopeByU_55 rfl (by decide) rfl ?_
        refine Z.goto hX 6 dX6_slopeByU_58 (by decide) ?_
        refine Z.pick [0, 1, 2, 3, 4, 5, 6] rfl ?_
        exact ih_6 _ _ (by omega) (by omega)
  refine Z.pick [0, 1, 6, 5, 4, 3, 2] rfl ?_
  exact key_6 _ _ _ (Nat.lt_succ_self _) (by omega)

theorem dX6_slopeByV_0 : decode cX6_slopeByV 0 = .ok (.lconst 0, 1) := by decide +kernel
theorem dX6_slopeByV_1 : decode cX6_slopeByV 1 = .ok (.lstore 5, 2) := by decide +kernel
theorem dX6_slopeByV_3 : decode cX6_slopeByV 3 = .ok (.iconst 0, 1) := by decide +kernel
theorem dX6_slopeByV_4 : decode cX6_slopeByV 4 = .ok (.istore 7, 2) := by decide +kernel
theorem dX6_slopeByV_6 : decode cX6_slopeByV 6 = .ok (.iload 7, 2) := by decide +kernel
theorem dX6_slopeByV_8 : decode cX6_slopeByV 8 = .ok (.iload 4, 2) := by decide +kernel
theorem dX6_slopeByV_10 : decode cX6_slopeByV 10 = .ok (.if_icmp .ge 54, 3) := by decide +kernel
theorem dX6_slopeByV_13 : decode cX6_slopeByV 13 = .ok (.lload 5, 2) := by decide +kernel
theorem dX6_slopeByV_15 : decode cX6_slopeByV 15 = .ok (.iload 4, 2) := by decide +kernel
theorem dX6_slopeByV_17 : decode cX6_slopeByV 17 = .ok (.iload 7, 2) := by decide +kernel
theorem dX6_slopeByV_19 : decode cX6_slopeByV 19 = .ok (.isub, 1) := by decide +kernel
theorem dX6_slopeByV_20 : decode cX6_slopeByV 20 = .ok (.i2l, 1) := by decide +kernel
theorem dX6_slopeByV_21 : decode cX6_slopeByV 21 = .ok (.aload_n 0, 1) := by decide +kernel
theorem dX6_slopeByV_22 : decode cX6_slopeByV 22 = .ok (.getfield 10, 3) := by decide +kernel
theorem dX6_slopeByV_25 : decode cX6_slopeByV 25 = .ok (.getfield 69, 3) := by decide +kernel
theorem dX6_slopeByV_28 : decode cX6_slopeByV 28 = .ok (.iload_n 1, 1) := by decide +kernel
theorem dX6_slopeByV_29 : decode cX6_slopeByV 29 = .ok (.aaload, 1) := by decide +kernel
theorem dX6_slopeByV_30 : decode cX6_slopeByV 30 = .ok (.iload 7, 2) := by decide +kernel
theorem dX6_slopeByV_32 : decode cX6_slopeByV 32 = .ok (.laload, 1) := by decide +kernel
theorem dX6_slopeByV_33 : decode cX6_slopeByV 33 = .ok (.lmul, 1) := by decide +kernel
theorem dX6_slopeByV_34 : decode cX6_slopeByV 34 = .ok (.iload_n 2, 1) := by decide +kernel
theorem dX6_slopeByV_35 : decode cX6_slopeByV 35 = .ok (.i2l, 1) := by decide +kernel
theorem dX6_slopeByV_36 : decode cX6_slopeByV 36 = .ok (.iload 7, 2) := by decide +kernel
theorem dX6_slopeByV_38 : decode cX6_slopeByV 38 = .ok (.invokestatic 166, 3) := by decide +kernel
theorem dX6_slopeByV_41 : decode cX6_slopeByV 41 = .ok (.lmul, 1) := by decide +kernel
theorem dX6_slopeByV_42 : decode cX6_slopeByV 42 = .ok (.iload_n 3, 1) := by decide +kernel
theorem dX6_slopeByV_43 : decode cX6_slopeByV 43 = .ok (.i2l, 1) := by decide +kernel
theorem dX6_slopeByV_44 : decode cX6_slopeByV 44 = .ok (.iload 4, 2) := by decide +kernel
theorem dX6_slopeByV_46 : decode cX6_slopeByV 46 = .ok (.iconst 1, 1) := by decide +kernel
theorem dX6_slopeByV_47 : decode cX6_slopeByV 47 = .ok (.isub, 1) := by decide +kernel
theorem dX6_slopeByV_48 : decode cX6_slopeByV 48 = .ok (.iload 7, 2) := by decide +kernel
theorem dX6_slopeByV_50 : decode cX6_slopeByV 50 = .ok (.isub, 1) := by decide +kernel
theorem dX6_slopeByV_51 : decode cX6_slopeByV 51 = .ok (.invokestatic 166, 3) := by decide +kernel
theorem dX6_slopeByV_54 : decode cX6_slopeByV 54 = .ok (.lmul, 1) := by decide +kernel
theorem dX6_slopeByV_55 : decode cX6_slopeByV 55 = .ok (.ladd, 1) := by decide +kernel
theorem dX6_slopeByV_56 : decode cX6_slopeByV 56 = .ok (.lstore 5, 2) := by decide +kernel
theorem dX6_slopeByV_58 : decode cX6_slopeByV 58 = .ok (.iinc 7 1, 3) := by decide +kernel
theorem dX6_slopeByV_61 : decode cX6_slopeByV 61 = .ok (.goto (-55), 3) := by decide +kernel
theorem dX6_slopeByV_64 : decode cX6_slopeByV 64 = .ok (.lload 5, 2) := by decide +kernel
theorem dX6_slopeByV_66 : decode cX6_slopeByV 66 = .ok (.lreturn, 1) := by decide +kernel
set_option maxHeartbeats 4000000 in
set_option maxRecDepth 100000 in
theorem ct_X6_slopeByV (l : Launch) (D : va_G) (ce : Nat → ClassId) (h pl ar : Nat → Nat) (G : Nat → Int) (L : Nat → Nat → Int64) (B : Nat → Int) (J : Nat → Nat → Int64) (wh u v tp : Int) (hw : 0 ≤ wh ∧ wh ≤ 2) (hu : -2147483648 ≤ u ∧ u < 2147483648) (hv : -2147483648 ≤ v ∧ v < 2147483648) (ht : 0 ≤ tp ∧ tp ≤ 4) : Ct l yX6_slopeByV cX6_slopeByV 8 (some .long) { frames := 1, cells := 0, slots := 0, locals := 25 } 0 0 D (TY ce) [.ref (h 0), .int (zI wh), .int (zI u), .int (zI v), .int (zI tp)] (cW ce h pl ar G L B J) (QL D (TY ce) (fun r w1 => ∃ r0 : Int64, r = r0 ∧ w1 = cW ce h pl ar G L B J)) := by
  refine Ct.ofL (by decide) (Nat.le_of_ble_eq_true rfl) ?_
  intro p e s m args below meth c A Q hX hnm hR
  refine Z.pick (lv' := [(0, .ref (h 0)), (1, .int (zI wh)), (2, .int (zI u)), (3, .int (zI v)), (4, .int (zI tp))]) [0, 1, 2, 3, 4] rfl ?_
  refine Z.lconst (v := 0) hX dX6_slopeByV_0 rfl ?_
  refine Z.lstore (lv' := [(5, .long 0), (0, .ref (h 0)), (1, .int (zI wh)), (2, .int (zI u)), (3, .int (zI v)), (4, .int (zI tp))]) hX dX6_slopeByV_1 (by decide) rfl ?_
  refine Z.iconst hX dX6_slopeByV_3 ?_
  refine Z.istore (lv' := [(7, .int (zI 0)), (5, .long 0), (0, .ref (h 0)), (1, .int (zI wh)), (2, .int (zI u)), (3, .int (zI v)), (4, .int (zI tp))]) hX dX6_slopeByV_4 (by decide) rfl ?_
  have key_6 : ∀ (N : Nat), ∀ (i : Int) (x : Int64), (tp + 1 - i).toNat < N → (hi : 0 ≤ i ∧ i ≤ tp + 1) → Z p l e { frames := 1, cells := 0, slots := 0, locals := 25 } s m args below meth c D A 8 0 0 Q 6 [(7, .int (zI i)), (5, .long x), (4, .int (zI tp)), (3, .int (zI v)), (2, .int (zI u)), (1, .int (zI wh)), (0, .ref (h 0))] [] (cW ce h pl ar G L B J) := by
    intro N
    induction N with
    | zero => intro i x hm; exact absurd hm (Nat.not_lt_zero _)
    | succ N ih_6 =>
      intro i x hm hi
      refine Z.iload hX dX6_slopeByV_6 rfl ?_
      refine Z.iload hX dX6_slopeByV_8 rfl ?_
      refine Z.icmp_ge hX 64 dX6_slopeByV_10 (by decide) ⟨by omega, by omega⟩ ⟨by omega, by omega⟩ ?_ ?_
      · intro c1
        refine Z.lload hX dX6_slopeByV_64 rfl ?_
        exact hR _ _ _ _ dX6_slopeByV_66 ⟨x, rfl, rfl⟩
      · intro c1
        refine Z.lload hX dX6_slopeByV_13 rfl ?_
        refine Z.iload hX dX6_slopeByV_15 rfl ?_
        refine Z.iload hX dX6_slopeByV_17 rfl ?_
        refine Z.isub hX dX6_slopeByV_19 ?_
        refine Z.i2l hX dX6_slopeByV_20 ⟨by omega, by omega⟩ ?_
        refine Z.aload_n hX dX6_slopeByV_21 rfl rfl ?_
        refine Z.getf hX 6 0 0 dX6_slopeByV_22 rfl rfl inX6 (by decide) fl_X6_10 rfl rfl ?_
        refine Z.getf hX 5 1 0 dX6_slopeByV_25 rfl rfl inX5 (by decide) fl_X6_69 rfl rfl ?_
        refine Z.iload_n hX dX6_slopeByV_28 rfl rfl ?_
        refine Z.aaload hX 9 3 dX6_slopeByV_29 rfl rfl rfl (by omega) (by omega) (by decide) rfl ?_
        refine Z.iload hX dX6_slopeByV_30 rfl ?_
        refine Z.laload hX (18 + (wh : Int).toNat) 1 dX6_slopeByV_32 (cW_in (by omega)) rfl (by omega) (by omega) (by decide) ?_
        refine Z.lmul hX dX6_slopeByV_33 ?_
        refine Z.iload_n hX dX6_slopeByV_34 rfl rfl ?_
        refine Z.i2l hX dX6_slopeByV_35 ⟨by omega, by omega⟩ ?_
        refine Z.iload hX dX6_slopeByV_36 rfl ?_
        refine Z.callS0l (As := [.long (zL u), .int (zI i)]) (rest := [.long ((zL (tp - i)) * (L ((wh : Int).toNat) (i : Int).toNat)), .long x]) hX (ct_X6_powerOf l D ce (zL u) i (by omega)) mc_X6_powerOf ml_X6_166 st_X6_powerOf ini_X6 nd_X6_powerOf ⟨Nat.le_of_ble_eq_true rfl, Nat.le_of_ble_eq_true rfl⟩ ⟨rfl, rfl⟩ ⟨Nat.le_refl _, Nat.le_refl _⟩ rfl (Nat.le_of_ble_eq_true rfl) dX6_slopeByV_38 ?_
        rintro r_2 w1 ⟨r03, hr_, hw_, hq4⟩
        subst hr_
        refine ⟨hw_, ?_⟩
        refine Z.lmul hX dX6_slopeByV_41 ?_
        refine Z.iload_n hX dX6_slopeByV_42 rfl rfl ?_
        refine Z.i2l hX dX6_slopeByV_43 ⟨by omega, by omega⟩ ?_
        refine Z.iload hX dX6_slopeByV_44 rfl ?_
        refine Z.iconst hX dX6_slopeByV_46 ?_
        refine Z.isub hX dX6_slopeByV_47 ?_
        refine Z.iload hX dX6_slopeByV_48 rfl ?_
        refine Z.isub hX dX6_slopeByV_50 ?_
        refine Z.callS0l (As := [.long (zL v), .int (zI ((tp - 1) - i))]) (rest := [.long (((zL (tp - i)) * (L ((wh : Int).toNat) (i : Int).toNat)) * r_2), .long x]) hX (ct_X6_powerOf l D ce (zL v) ((tp - 1) - i) (by omega)) mc_X6_powerOf ml_X6_166 st_X6_powerOf ini_X6 nd_X6_powerOf ⟨Nat.le_of_ble_eq_true rfl, Nat.le_of_ble_eq_true rfl⟩ ⟨rfl, rfl⟩ ⟨Nat.le_refl _, Nat.le_refl _⟩ rfl (Nat.le_of_ble_eq_true rfl) dX6_slopeByV_51 ?_
        rintro r_5 w1 ⟨r06, hr_, hw_, hq7⟩
        subst hr_
        refine ⟨hw_, ?_⟩
        refine Z.lmul hX dX6_slopeByV_54 ?_
        refine Z.ladd hX dX6_slopeByV_55 ?_
        refine Z.lstore (lv' := [(5, .long (x + ((((zL (tp - i)) * (L ((wh : Int).toNat) (i : Int).toNat)) * r_2) * r_5))), (7, .int (zI i)), (4, .int (zI tp)), (3, .int (zI v)), (2, .int (zI u)), (1, .int (zI wh)), (0, .ref (h 0))]) hX dX6_slopeByV_56 (by decide) rfl ?_
        refine Z.iinc (lv' := [(7, .int (zI (i + 1))), (5, .long (x + ((((zL (tp - i)) * (L ((wh : Int).toNat) (i : Int).toNat)) * r_2) * r_5))), (4, .int (zI tp)), (3, .int (zI v)), (2, .int (zI u)), (1, .int (zI wh)), (0, .ref (h 0))]) hX dX6_slopeByV_58 rfl (by decide) rfl ?_
        refine Z.goto hX 6 dX6_slopeByV_61 (by decide) ?_
        refine Z.pick [0, 1, 2, 3, 4, 5, 6] rfl ?_
        exact ih_6 _ _ (by omega) (by omega)
  refine Z.pick [0, 1, 6, 5, 4, 3, 2] rfl ?_
  exact key_6 _ _ _ (Nat.lt_succ_self _) (by omega)
end
section
theorem dX6_term_0 : decode cX6_term 0 = .ok (.iload_n 1, 1) := by decide +kernel
theorem dX6_term_1 : decode cX6_term 1 = .ok (.invokestatic 58, 3) := by decide +kernel
theorem dX6_term_4 : decode cX6_term 4 = .ok (.ifCond .eq 19, 3) := by decide +kernel
theorem dX6_term_7 : decode cX6_term 7 = .ok (.iload_n 2, 1) := by decide +kernel
theorem dX6_term_8 : decode cX6_term 8 = .ok (.invokestatic 62, 3) := by decide +kernel
theorem dX6_term_11 : decode cX6_term 11 = .ok (.ifCond .eq 12, 3) := by decide +kernel
theorem dX6_term_14 : decode cX6_term 14 = .ok (.iload_n 3, 1) := by decide +kernel
theorem dX6_term_15 : decode cX6_term 15 = .ok (.bipush 7, 2) := by decide +kernel
theorem dX6_term_17 : decode cX6_term 17 = .ok (.invokestatic 65, 3) := by decide +kernel
theorem dX6_term_20 : decode cX6_term 20 = .ok (.ifCond .ne 6, 3) := by decide +kernel
theorem dX6_term_23 : decode cX6_term 23 = .ok (.bipush (-100), 2) := by decide +kernel
theorem dX6_term_25 : decode cX6_term 25 = .ok (.ireturn, 1) := by decide +kernel
theorem dX6_term_26 : decode cX6_term 26 = .ok (.aload_n 0, 1) := by decide +kernel
theorem dX6_term_27 : decode cX6_term 27 = .ok (.getfield 10, 3) := by decide +kernel
theorem dX6_term_30 : decode cX6_term 30 = .ok (.getfield 69, 3) := by decide +kernel
theorem dX6_term_33 : decode cX6_term 33 = .ok (.iload_n 1, 1) := by decide +kernel
theorem dX6_term_34 : decode cX6_term 34 = .ok (.aaload, 1) := by decide +kernel
theorem dX6_term_35 : decode cX6_term 35 = .ok (.iload_n 2, 1) := by decide +kernel
theorem dX6_term_36 : decode cX6_term 36 = .ok (.laload, 1) := by decide +kernel
theorem dX6_term_37 : decode cX6_term 37 = .ok (.l2i, 1) := by decide +kernel
theorem dX6_term_38 : decode cX6_term 38 = .ok (.istore 4, 2) := by decide +kernel
theorem dX6_term_40 : decode cX6_term 40 = .ok (.iload 4, 2) := by decide +kernel
theorem dX6_term_42 : decode cX6_term 42 = .ok (.iload_n 3, 1) := by decide +kernel
theorem dX6_term_43 : decode cX6_term 43 = .ok (.if_icmp .eq 20, 3) := by decide +kernel
theorem dX6_term_46 : decode cX6_term 46 = .ok (.aload_n 0, 1) := by decide +kernel
theorem dX6_term_47 : decode cX6_term 47 = .ok (.getfield 10, 3) := by decide +kernel
theorem dX6_term_50 : decode cX6_term 50 = .ok (.getfield 69, 3) := by decide +kernel
theorem dX6_term_53 : decode cX6_term 53 = .ok (.iload_n 1, 1) := by decide +kernel
theorem dX6_term_54 : decode cX6_term 54 = .ok (.aaload, 1) := by decide +kernel
theorem dX6_term_55 : decode cX6_term 55 = .ok (.iload_n 2, 1) := by decide +kernel
theorem dX6_term_56 : decode cX6_term 56 = .ok (.iload_n 3, 1) := by decide +kernel
theorem dX6_term_57 : decode cX6_term 57 = .ok (.i2l, 1) := by decide +kernel
theorem dX6_term_58 : decode cX6_term 58 = .ok (.lastore, 1) := by decide +kernel
theorem dX6_term_59 : decode cX6_term 59 = .ok (.aload_n 0, 1) := by decide +kernel
theorem dX6_term_60 : decode cX6_term 60 = .ok (.invokevirtual 73, 3) := by decide +kernel
theorem dX6_term_63 : decode cX6_term 63 = .ok (.iload 4, 2) := by decide +kernel
theorem dX6_term_65 : decode cX6_term 65 = .ok (.ireturn, 1) := by decide +kernel
set_option maxHeartbeats 4000000 in
set_option maxRecDepth 100000 in
theorem ct_X6_term (l : Launch) (D : va_G) (ce : Nat → ClassId) (h pl ar : Nat → Nat) (G : Nat → Int) (L : Nat → Nat → Int64) (B : Nat → Int) (J : Nat → Nat → Int64) (wh i v : Int) (hok : cOK G B) (hw : -2147483648 ≤ wh ∧ wh < 2147483648) (hi : -2147483648 ≤ i ∧ i < 2147483648) (hv : -2147483648 ≤ v ∧ v < 2147483648) : Ct l yX6_term cX6_term 5 (some .int) { frames := 1, cells := 0, slots := 0, locals := 21 } 0 0 D (TY ce) [.ref (h 0), .int (zI wh), .int (zI i), .int (zI v)] (cW ce h pl ar G L B J) (QI D (TY ce) (fun r w1 => ∃ z : Int, ∃ G2 : Nat → Int, ∃ L2 : Nat → Nat → Int64, ∃ B2 : Nat → Int, ∃ J2 : Nat → Nat → Int64, r = zI z ∧ w1 = cW ce h pl ar G2 L2 B2 J2 ∧ (cOK G2 B2) ∧ (¬ (0 ≤ wh ∧ wh ≤ 2 ∧ 0 ≤ i ∧ i ≤ 4 ∧ -7 ≤ v ∧ v ≤ 7) → z = -100 ∧ L2 = L) ∧ ((0 ≤ wh ∧ wh ≤ 2 ∧ 0 ≤ i ∧ i ≤ 4 ∧ -7 ≤ v ∧ v ≤ 7) → (L wh.toNat i.toNat).toInt32 = zI z ∧ ((z = v ∧ L2 = L) ∨ (L2 wh.toNat = vp_updL (L wh.toNat) i.toNat (zL v) ∧ ∀ k, k ≠ wh.toNat → L2 k = L k))))) := by
  refine Ct.ofI (by decide) (Nat.le_of_ble_eq_true rfl) ?_
  intro p e s m args below meth c A Q hX hnm hR
  refine Z.pick (lv' := [(0, .ref (h 0)), (1, .int (zI wh)), (2, .int (zI i)), (3, .int (zI v))]) [0, 1, 2, 3] rfl ?_
  obtain ⟨hB, hg0, hg2, hg3, hg5, hg6, hg1, hg4⟩ := id hok
  unfold bl at hg0 hg2 hg3 hg5 hg6
  refine Z.iload_n hX dX6_term_0 rfl rfl ?_
  refine Z.callS0i (As := [.int (zI wh)]) (rest := []) hX (ct_X6_isPart l D ce wh (by omega)) mc_X6_isPart ml_X6_58 st_X6_isPart ini_X6 nd_X6_isPart ⟨Nat.le_of_ble_eq_true rfl, Nat.le_of_ble_eq_true rfl⟩ ⟨rfl, rfl⟩ ⟨Nat.le_refl _, Nat.le_refl _⟩ rfl (Nat.le_of_ble_eq_true rfl) dX6_term_1 ?_
  rintro r_1 w1 ⟨z1, hr_, hw_, p1⟩
  subst hr_
  refine ⟨hw_, ?_⟩
  refine Z.if_eq hX 23 dX6_term_4 (by decide) ⟨by omega, by omega⟩ ?_ ?_
  · intro c2
    refine Z.bipush hX dX6_term_23 (by decide) ?_
    exact hR _ _ _ _ dX6_term_25 ⟨(-100), G, L, B, J, rfl, rfl, hok, (fun _ => ⟨rfl, rfl⟩), (fun q => by omega)⟩
  · intro c2
    refine Z.iload_n hX dX6_term_7 rfl rfl ?_
    refine Z.callS0i (As := [.int (zI i)]) (rest := []) hX (ct_X6_isPower l D ce i (by omega)) mc_X6_isPower ml_X6_62 st_X6_isPower ini_X6 nd_X6_isPower ⟨Nat.le_of_ble_eq_true rfl, Nat.le_of_ble_eq_true rfl⟩ ⟨rfl, rfl⟩ ⟨Nat.le_refl _, Nat.le_refl _⟩ rfl (Nat.le_of_ble_eq_true rfl) dX6_term_8 ?_
    rintro r_3 w1 ⟨z2, hr_, hw_, p2⟩
    subst hr_
    refine ⟨hw_, ?_⟩
    refine Z.if_eq hX 23 dX6_term_11 (by decide) ⟨by omega, by omega⟩ ?_ ?_
    · intro c4
      refine Z.bipush hX dX6_term_23 (by decide) ?_
      exact hR _ _ _ _ dX6_term_25 ⟨(-100), G, L, B, J, rfl, rfl, hok, (fun _ => ⟨rfl, rfl⟩), (fun q => by omega)⟩
    · intro c4
      refine Z.iload_n hX dX6_term_14 rfl rfl ?_
      refine Z.bipush hX dX6_term_15 (by decide) ?_
      refine Z.callS0i (As := [.int (zI v), .int (zI 7)]) (rest := []) hX (ct_X6_isWithin l D ce v 7 hv (by omega)) mc_X6_isWithin ml_X6_65 st_X6_isWithin ini_X6 nd_X6_isWithin ⟨Nat.le_of_ble_eq_true rfl, Nat.le_of_ble_eq_true rfl⟩ ⟨rfl, rfl⟩ ⟨Nat.le_refl _, Nat.le_refl _⟩ rfl (Nat.le_of_ble_eq_true rfl) dX6_term_17 ?_
      rintro r_5 w1 ⟨z3, hr_, hw_, p3⟩
      subst hr_
      refine ⟨hw_, ?_⟩
      refine Z.if_ne hX 26 dX6_term_20 (by decide) ⟨by omega, by omega⟩ ?_ ?_
      · intro c6
        refine Z.aload_n hX dX6_term_26 rfl rfl ?_
        refine Z.getf hX 6 0 0 dX6_term_27 rfl rfl inX6 (by decide) fl_X6_10 rfl rfl ?_
        refine Z.getf hX 5 1 0 dX6_term_30 rfl rfl inX5 (by decide) fl_X6_69 rfl rfl ?_
        refine Z.iload_n hX dX6_term_33 rfl rfl ?_
        refine Z.aaload hX 9 3 dX6_term_34 rfl rfl rfl (by omega) (by omega) (by decide) rfl ?_
        refine Z.iload_n hX dX6_term_35 rfl rfl ?_
        refine Z.laload hX (18 + (wh : Int).toNat) 1 dX6_term_36 (cW_in (by omega)) rfl (by omega) (by omega) (by decide) ?_
        refine Z.l2i hX dX6_term_37 ?_
        refine Z.topi (fun z7 hz7 kz7 ez7 => ?_)
        refine Z.istore (lv' := [(4, .int (zI z7)), (0, .ref (h 0)), (1, .int (zI wh)), (2, .int (zI i)), (3, .int (zI v))]) hX dX6_term_38 (by decide) rfl ?_
        refine Z.iload hX dX6_term_40 rfl ?_
        refine Z.iload_n hX dX6_term_42 rfl rfl ?_
        refine Z.icmp_eq hX 63 dX6_term_43 (by decide) ⟨by omega, by omega⟩ ⟨by omega, by omega⟩ ?_ ?_
        · intro c8
          refine Z.iload hX dX6_term_63 rfl ?_
          exact hR _ _ _ _ dX6_term_65 ⟨z7, G, L, B, J, rfl, rfl, hok, (fun q => absurd (by omega) q), (fun _ => ⟨by assumption, Or.inl ⟨by omega, rfl⟩⟩)⟩
        · intro c8
          refine Z.aload_n hX dX6_term_46 rfl rfl ?_
          refine Z.getf hX 6 0 0 dX6_term_47 rfl rfl inX6 (by decide) fl_X6_10 rfl rfl ?_
          refine Z.getf hX 5 1 0 dX6_term_50 rfl rfl inX5 (by decide) fl_X6_69 rfl rfl ?_
          refine Z.iload_n hX dX6_term_53 rfl rfl ?_
          refine Z.aaload hX 9 3 dX6_term_54 rfl rfl rfl (by omega) (by omega) (by decide) rfl ?_
          refine Z.iload_n hX dX6_term_55 rfl rfl ?_
          refine Z.iload_n hX dX6_term_56 rfl rfl ?_
          refine Z.i2l hX dX6_term_57 ⟨by omega, by omega⟩ ?_
          refine Z.lastore hX (18 + (wh : Int).toNat) 1 dX6_term_58 (cW_in (by omega)) rfl (by omega) (by omega) (by decide) ?_
          obtain ⟨L9, eL9⟩ : ∃ J' : Nat → Nat → Int64, J' = va_up L ((wh : Int).toNat) (vp_updL (L ((wh : Int).toNat)) (i : Int).toNat (zL v)) := ⟨_, rfl⟩
          refine Z.toW (w' := cW ce h pl ar G L9 B J) (by rw [eL9]; exact cW_setL (by omega)) ?_
          have gL9 : L9 ((wh : Int).toNat) = vp_updL (L ((wh : Int).toNat)) (i : Int).toNat (zL v) := by rw [eL9]; exact up_eq
          have fL9 : ∀ j_, j_ ≠ (wh : Int).toNat → L9 j_ = L j_ := fun j_ hj_ => by rw [eL9]; exact up_ne hj_
          refine Z.aload_n hX dX6_term_59 rfl rfl ?_
          refine Z.callVfv (As := []) (rest := []) hX 6 0 rfl rfl (ct_X6_forget l D ce h pl ar G L9 B J ) mc_X6_forget ml_X6_73 im_X6_forget se_X6_forget ini_X6 nd_X6_forget ⟨Nat.le_of_ble_eq_true rfl, Nat.le_of_ble_eq_true rfl⟩ ⟨rfl, rfl⟩ ⟨Nat.le_refl _, Nat.le_refl _⟩ rfl (Nat.le_of_ble_eq_true rfl) dX6_term_60 ?_
          rintro w1 ⟨G211, hw_, fo1, fo2⟩
          subst hw_
          refine Z.iload hX dX6_term_63 rfl ?_
          exact hR _ _ _ _ dX6_term_65 ⟨z7, G211, L9, B, J, rfl, rfl, (cok_of hB (by omega) (by have := fo1 1 (by decide) (by decide) (by decide); omega) (by omega) (by have := fo1 3 (by decide) (by decide) (by decide); omega) (by have := fo1 4 (by decide) (by decide) (by decide); omega) (by omega) (by have := fo1 6 (by decide) (by decide) (by decide); omega)), (fun q => absurd (by omega) q), (fun _ => ⟨by assumption, Or.inr ⟨gL9, fL9⟩⟩)⟩
      · intro c6
        refine Z.bipush hX dX6_term_23 (by decide) ?_
        exact hR _ _ _ _ dX6_term_25 ⟨(-100), G, L, B, J, rfl, rfl, hok, (fun _ => ⟨rfl, rfl⟩), (fun q => by omega)⟩

theorem dX6_clear_0 : decode cX6_clear 0 = .ok (.aload_n 0, 1) := by decide +kernel
theorem dX6_clear_1 : decode cX6_clear 1 = .ok (.getfield 10, 3) := by decide +kernel
theorem dX6_clear_4 : decode cX6_clear 4 = .ok (.invokevirtual 76, 3) := by decide +kernel
theorem dX6_clear_7 : decode cX6_clear 7 = .ok (.istore_n 1, 1) := by decide +kernel
theorem dX6_clear_8 : decode cX6_clear 8 = .ok (.aload_n 0, 1) := by decide +kernel
theorem dX6_clear_9 : decode cX6_clear 9 = .ok (.invokevirtual 73, 3) := by decide +kernel
theorem dX6_clear_12 : decode cX6_clear 12 = .ok (.iload_n 1, 1) := by decide +kernel
theorem dX6_clear_13 : decode cX6_clear 13 = .ok (.ireturn, 1) := by decide +kernel
set_option maxHeartbeats 4000000 in
set_option maxRecDepth 100000 in
theorem ct_X6_clear (l : Launch) (D : va_G) (ce : Nat → ClassId) (h pl ar : Nat → Nat) (G : Nat → Int) (L : Nat → Nat → Int64) (B : Nat → Int) (J : Nat → Nat → Int64) (hok : cOK G B) : Ct l yX6_clear cX6_clear 2 (some .int) { frames := 1, cells := 0, slots := 0, locals := 23 } 0 0 D (TY ce) [.ref (h 0)] (cW ce h pl ar G L B J) (QI D (TY ce) (fun r w1 => ∃ z : Int, ∃ G2 : Nat → Int, ∃ L2 : Nat → Nat → Int64, ∃ B2 : Nat → Int, ∃ J2 : Nat → Nat → Int64, r = zI z ∧ w1 = cW ce h pl ar G2 L2 B2 J2 ∧ (cOK G2 B2) ∧ (z = cntB (fun q => L (q / 5) (q % 5)) 15) ∧ (∀ q : Int, 0 ≤ q → q < 15 → L2 (q.toNat / 5) (q.toNat % 5) = 0))) := by
  refine Ct.ofI (by decide) (Nat.le_of_ble_eq_true rfl) ?_
  intro p e s m args below meth c A Q hX hnm hR
  refine Z.pick (lv' := [(0, .ref (h 0))]) [0] rfl ?_
  obtain ⟨hB, hg0, hg2, hg3, hg5, hg6, hg1, hg4⟩ := id hok
  unfold bl at hg0 hg2 hg3 hg5 hg6
  refine Z.aload_n hX dX6_clear_0 rfl rfl ?_
  refine Z.getf hX 6 0 0 dX6_clear_1 rfl rfl inX6 (by decide) fl_X6_10 rfl rfl ?_
  refine Z.callVfi (As := []) (rest := []) hX 5 1 rfl rfl (ct_X5_countAndErase l D ce h pl ar G L B J ) mc_X5_countAndErase ml_X6_76 im_X5_countAndErase se_X5_countAndErase ini_X5 nd_X5_countAndErase ⟨Nat.le_of_ble_eq_true rfl, Nat.le_of_ble_eq_true rfl⟩ ⟨rfl, rfl⟩ ⟨Nat.le_refl _, Nat.le_refl _⟩ rfl (Nat.le_of_ble_eq_true rfl) dX6_clear_4 ?_
  rintro r_1 w1 ⟨z2, L23, hr_, hw_, ce1, ce2, ce3⟩
  subst hr_
  subst hw_
  refine Z.istore_n (lv' := [(1, .int (zI z2)), (0, .ref (h 0))]) hX dX6_clear_7 rfl (by decide) rfl ?_
  refine Z.aload_n hX dX6_clear_8 rfl rfl ?_
  refine Z.callVfv (As := []) (rest := []) hX 6 0 rfl rfl (ct_X6_forget l D ce h pl ar G L23 B J ) mc_X6_forget ml_X6_73 im_X6_forget se_X6_forget ini_X6 nd_X6_forget ⟨Nat.le_of_ble_eq_true rfl, Nat.le_of_ble_eq_true rfl⟩ ⟨rfl, rfl⟩ ⟨Nat.le_refl _, Nat.le_refl _⟩ rfl (Nat.le_of_ble_eq_true rfl) dX6_clear_9 ?_
  rintro w1 ⟨G25, hw_, fo1, fo2⟩
  subst hw_
  refine Z.iload_n hX dX6_clear_12 rfl rfl ?_
  exact hR _ _ _ _ dX6_clear_13 ⟨z2, G25, L23, B, J, rfl, rfl, (cok_of hB (by omega) (by have := fo1 1 (by decide) (by decide) (by decide); omega) (by omega) (by have := fo1 3 (by decide) (by decide) (by decide); omega) (by have := fo1 4 (by decide) (by decide) (by decide); omega) (by omega) (by have := fo1 6 (by decide) (by decide) (by decide); omega)), ce1, ce2⟩

theorem dX6_degree_0 : decode cX6_degree 0 = .ok (.iload_n 1, 1) := by decide +kernel
theorem dX6_degree_1 : decode cX6_degree 1 = .ok (.ifCond .lt 8, 3) := by decide +kernel
theorem dX6_degree_4 : decode cX6_degree 4 = .ok (.iload_n 1, 1) := by decide +kernel
theorem dX6_degree_5 : decode cX6_degree 5 = .ok (.iconst 2, 1) := by decide +kernel
theorem dX6_degree_6 : decode cX6_degree 6 = .ok (.if_icmp .le 5, 3) := by decide +kernel
theorem dX6_degree_9 : decode cX6_degree 9 = .ok (.iconst (-1), 1) := by decide +kernel
theorem dX6_degree_10 : decode cX6_degree 10 = .ok (.ireturn, 1) := by decide +kernel
theorem dX6_degree_11 : decode cX6_degree 11 = .ok (.aload_n 0, 1) := by decide +kernel
theorem dX6_degree_12 : decode cX6_degree 12 = .ok (.getfield 10, 3) := by decide +kernel
theorem dX6_degree_15 : decode cX6_degree 15 = .ok (.invokevirtual 80, 3) := by decide +kernel
theorem dX6_degree_18 : decode cX6_degree 18 = .ok (.istore_n 2, 1) := by decide +kernel
theorem dX6_degree_19 : decode cX6_degree 19 = .ok (.iload_n 1, 1) := by decide +kernel
theorem dX6_degree_20 : decode cX6_degree 20 = .ok (.ifCond .ne 5, 3) := by decide +kernel
theorem dX6_degree_23 : decode cX6_degree 23 = .ok (.iload_n 2, 1) := by decide +kernel
theorem dX6_degree_24 : decode cX6_degree 24 = .ok (.ireturn, 1) := by decide +kernel
theorem dX6_degree_25 : decode cX6_degree 25 = .ok (.aload_n 0, 1) := by decide +kernel
theorem dX6_degree_26 : decode cX6_degree 26 = .ok (.invokevirtual 83, 3) := by decide +kernel
theorem dX6_degree_29 : decode cX6_degree 29 = .ok (.invokevirtual 80, 3) := by decide +kernel
theorem dX6_degree_32 : decode cX6_degree 32 = .ok (.istore_n 3, 1) := by decide +kernel
theorem dX6_degree_33 : decode cX6_degree 33 = .ok (.iload_n 1, 1) := by decide +kernel
theorem dX6_degree_34 : decode cX6_degree 34 = .ok (.iconst 1, 1) := by decide +kernel
theorem dX6_degree_35 : decode cX6_degree 35 = .ok (.if_icmp .ne 7, 3) := by decide +kernel
theorem dX6_degree_38 : decode cX6_degree 38 = .ok (.iload_n 3, 1) := by decide +kernel
theorem dX6_degree_39 : decode cX6_degree 39 = .ok (.goto 6, 3) := by decide +kernel
theorem dX6_degree_42 : decode cX6_degree 42 = .ok (.iload_n 2, 1) := by decide +kernel
theorem dX6_degree_43 : decode cX6_degree 43 = .ok (.iload_n 3, 1) := by decide +kernel
theorem dX6_degree_44 : decode cX6_degree 44 = .ok (.isub, 1) := by decide +kernel
theorem dX6_degree_45 : decode cX6_degree 45 = .ok (.ireturn, 1) := by decide +kernel
set_option maxHeartbeats 4000000 in
set_option maxRecDepth 100000 in
theorem ct_X6_degree (l : Launch) (D : va_G) (ce : Nat → ClassId) (h pl ar : Nat → Nat) (G : Nat → Int) (L : Nat → Nat → Int64) (B : Nat → Int) (J : Nat → Nat → Int64) (what : Int) (hok : cOK G B) (hw : -2147483648 ≤ what ∧ what < 2147483648) : Ct l yX6_degree cX6_degree 4 (some .int) { frames := 5, cells := 0, slots := 0, locals := 128 } 0 0 D (TY ce) [.ref (h 0), .int (zI what)] (cW ce h pl ar G L B J) (QI D (TY ce) (fun r w1 => ∃ z : Int, ∃ G2 : Nat → Int, ∃ L2 : Nat → Nat → Int64, ∃ B2 : Nat → Int, ∃ J2 : Nat → Nat → Int64, r = zI z ∧ w1 = cW ce h pl ar G2 L2 B2 J2 ∧ (cOK G2 B2) ∧ (∀ k, k < 3 → L2 k = L k) ∧ (¬ (0 ≤ what ∧ what ≤ 2) → z = -1) ∧ (what = 0 → HP L z))) := by
  refine Ct.ofI (by decide) (Nat.le_of_ble_eq_true rfl) ?_
  intro p e s m args below meth c A Q hX hnm hR
  refine Z.pick (lv' := [(0, .ref (h 0)), (1, .int (zI what))]) [0, 1] rfl ?_
  obtain ⟨hB, hg0, hg2, hg3, hg5, hg6, hg1, hg4⟩ := id hok
  unfold bl at hg0 hg2 hg3 hg5 hg6
  refine Z.iload_n hX dX6_degree_0 rfl rfl ?_
  refine Z.if_lt hX 9 dX6_degree_1 (by decide) ⟨by omega, by omega⟩ ?_ ?_
  · intro c1
    refine Z.iconst hX dX6_degree_9 ?_
    exact hR _ _ _ _ dX6_degree_10 ⟨(-1), G, L, B, J, rfl, rfl, hok, (fun _ _ => rfl), (fun _ => rfl), (fun q => by omega)⟩
  · intro c1
    refine Z.iload_n hX dX6_degree_4 rfl rfl ?_
    refine Z.iconst hX dX6_degree_5 ?_
    refine Z.icmp_le hX 11 dX6_degree_6 (by decide) ⟨by omega, by omega⟩ ⟨by omega, by omega⟩ ?_ ?_
    · intro c2
      refine Z.aload_n hX dX6_degree_11 rfl rfl ?_
      refine Z.getf hX 6 0 0 dX6_degree_12 rfl rfl inX6 (by decide) fl_X6_10 rfl rfl ?_
      refine Z.callVfi (As := []) (rest := []) hX 5 1 rfl rfl (ct_X5_highestPower_r l D ce h pl ar G L B J ) mc_X5_highestPower ml_X6_80 im_X5_highestPower se_X5_highestPower ini_X5 nd_X5_highestPower ⟨Nat.le_of_ble_eq_true rfl, Nat.le_of_ble_eq_true rfl⟩ ⟨rfl, rfl⟩ ⟨Nat.le_refl _, Nat.le_refl _⟩ rfl (Nat.le_of_ble_eq_true rfl) dX6_degree_15 ?_
      rintro r_3 w1 ⟨nn, hr_, hw_, n1, n2, n3⟩
      subst hr_
      subst hw_
      refine Z.istore_n (lv' := [(2, .int (zI nn)), (0, .ref (h 0)), (1, .int (zI what))]) hX dX6_degree_18 rfl (by decide) rfl ?_
      refine Z.iload_n hX dX6_degree_19 rfl rfl ?_
      refine Z.if_ne hX 25 dX6_degree_20 (by decide) ⟨by omega, by omega⟩ ?_ ?_
      · intro c4
        refine Z.aload_n hX dX6_degree_25 rfl rfl ?_
        refine Z.callVfr (As := []) (rest := []) hX 6 0 rfl rfl (ct_X6_freeRow l D ce h pl ar G L B J hok) mc_X6_freeRow ml_X6_83 im_X6_freeRow se_X6_freeRow ini_X6 nd_X6_freeRow ⟨Nat.le_of_ble_eq_true rfl, Nat.le_of_ble_eq_true rfl⟩ ⟨rfl, rfl⟩ ⟨Nat.le_refl _, Nat.le_refl _⟩ rfl (Nat.le_of_ble_eq_true rfl) dX6_degree_26 ?_
        rintro r_5 w1 ⟨G26, L27, hr_, hw_, fr1, fr2, fr3⟩
        subst hr_
        subst hw_
        refine Z.callVfi (As := []) (rest := []) hX 5 2 rfl rfl (ct_X5_highestPower_f l D ce h pl ar G26 L27 B J ) mc_X5_highestPower ml_X6_80 im_X5_highestPower se_X5_highestPower ini_X5 nd_X5_highestPower ⟨Nat.le_of_ble_eq_true rfl, Nat.le_of_ble_eq_true rfl⟩ ⟨rfl, rfl⟩ ⟨Nat.le_refl _, Nat.le_refl _⟩ rfl (Nat.le_of_ble_eq_true rfl) dX6_degree_29 ?_
        rintro r_8 w1 ⟨nf, hr_, hw_, m1, m2, m3⟩
        subst hr_
        subst hw_
        refine Z.istore_n (lv' := [(3, .int (zI nf)), (2, .int (zI nn)), (0, .ref (h 0)), (1, .int (zI what))]) hX dX6_degree_32 rfl (by decide) rfl ?_
        refine Z.iload_n hX dX6_degree_33 rfl rfl ?_
        refine Z.iconst hX dX6_degree_34 ?_
        refine Z.icmp_ne hX 42 dX6_degree_35 (by decide) ⟨by omega, by omega⟩ ⟨by omega, by omega⟩ ?_ ?_
        · intro c9
          refine Z.iload_n hX dX6_degree_42 rfl rfl ?_
          refine Z.iload_n hX dX6_degree_43 rfl rfl ?_
          refine Z.isub hX dX6_degree_44 ?_
          exact hR _ _ _ _ dX6_degree_45 ⟨(nn - nf), G26, L27, B, J, rfl, rfl, (cok_of hB (by unfold bl at fr2; omega) (by have := fr1 1 (by decide); omega) (by have := fr1 2 (by decide); omega) (by have := fr1 3 (by decide); omega) (by have := fr1 4 (by decide); omega) (by have := fr1 5 (by decide); omega) (by have := fr1 6 (by decide); omega)), fr3, (fun q => by omega), (fun q => by omega)⟩
        · intro c9
          refine Z.iload_n hX dX6_degree_38 rfl rfl ?_
          refine Z.goto hX 45 dX6_degree_39 (by decide) ?_
          exact hR _ _ _ _ dX6_degree_45 ⟨nf, G26, L27, B, J, rfl, rfl, (cok_of hB (by unfold bl at fr2; omega) (by have := fr1 1 (by decide); omega) (by have := fr1 2 (by decide); omega) (by have := fr1 3 (by decide); omega) (by have := fr1 4 (by decide); omega) (by have := fr1 5 (by decide); omega) (by have := fr1 6 (by decide); omega)), fr3, (fun q => by omega), (fun q => by omega)⟩
      · intro c4
        refine Z.iload_n hX dX6_degree_23 rfl rfl ?_
        exact hR _ _ _ _ dX6_degree_24 ⟨nn, G, L, B, J, rfl, rfl, hok, (fun _ _ => rfl), (fun q => by omega), (fun _ => ⟨n1, n2, n3⟩)⟩
    · intro c2
      refine Z.iconst hX dX6_degree_9 ?_
      exact hR _ _ _ _ dX6_degree_10 ⟨(-1), G, L, B, J, rfl, rfl, hok, (fun _ _ => rfl), (fun _ => rfl), (fun q => by omega)⟩

theorem dX6_freed_0 : decode cX6_freed 0 = .ok (.iload_n 1, 1) := by decide +kernel
theorem dX6_freed_1 : decode cX6_freed 1 = .ok (.invokestatic 58, 3) := by decide +kernel
theorem dX6_freed_4 : decode cX6_freed 4 = .ok (.ifCond .eq 10, 3) := by decide +kernel
theorem dX6_freed_7 : decode cX6_freed 7 = .ok (.iload_n 2, 1) := by decide +kernel
theorem dX6_freed_8 : decode cX6_freed 8 = .ok (.invokestatic 62, 3) := by decide +kernel
theorem dX6_freed_11 : decode cX6_freed 11 = .ok (.ifCond .ne 6, 3) := by decide +kernel
theorem dX6_freed_14 : decode cX6_freed 14 = .ok (.ldc 87, 2) := by decide +kernel
theorem dX6_freed_16 : decode cX6_freed 16 = .ok (.ireturn, 1) := by decide +kernel
theorem dX6_freed_17 : decode cX6_freed 17 = .ok (.aload_n 0, 1) := by decide +kernel
theorem dX6_freed_18 : decode cX6_freed 18 = .ok (.invokevirtual 83, 3) := by decide +kernel
theorem dX6_freed_21 : decode cX6_freed 21 = .ok (.getfield 69, 3) := by decide +kernel
theorem dX6_freed_24 : decode cX6_freed 24 = .ok (.iload_n 1, 1) := by decide +kernel
theorem dX6_freed_25 : decode cX6_freed 25 = .ok (.aaload, 1) := by decide +kernel
theorem dX6_freed_26 : decode cX6_freed 26 = .ok (.iload_n 2, 1) := by decide +kernel
theorem dX6_freed_27 : decode cX6_freed 27 = .ok (.laload, 1) := by decide +kernel
theorem dX6_freed_28 : decode cX6_freed 28 = .ok (.l2i, 1) := by decide +kernel
theorem dX6_freed_29 : decode cX6_freed 29 = .ok (.ireturn, 1) := by decide +kernel
set_option maxHeartbeats 4000000 in
set_option maxRecDepth 100000 in
theorem ct_X6_freed (l : Launch) (D : va_G) (ce : Nat → ClassId) (h pl ar : Nat → Nat) (G : Nat → Int) (L : Nat → Nat → Int64) (B : Nat → Int) (J : Nat → Nat → Int64) (wh i : Int) (hok : cOK G B) (hw : -2147483648 ≤ wh ∧ wh < 2147483648) (hi : -2147483648 ≤ i ∧ i < 2147483648) : Ct l yX6_freed cX6_freed 3 (some .int) { frames := 5, cells := 0, slots := 0, locals := 128 } 0 0 D (TY ce) [.ref (h 0), .int (zI wh), .int (zI i)] (cW ce h pl ar G L B J) (QI D (TY ce) (fun r w1 => ∃ z : Int, ∃ G2 : Nat → Int, ∃ L2 : Nat → Nat → Int64, ∃ B2 : Nat → Int, ∃ J2 : Nat → Nat → Int64, r = zI z ∧ w1 = cW ce h pl ar G2 L2 B2 J2 ∧ (cOK G2 B2) ∧ (∀ k, k < 3 → L2 k = L k) ∧ (¬ (0 ≤ wh ∧ wh ≤ 2 ∧ 0 ≤ i ∧ i ≤ 4) → z = -1000000))) := by
  refine Ct.ofI (by decide) (Nat.le_of_ble_eq_true rfl) ?_
  intro p e s m args below meth c A Q hX hnm hR
  refine Z.pick (lv' := [(0, .ref (h 0)), (1, .int (zI wh)), (2, .int (zI i))]) [0, 1, 2] rfl ?_
  obtain ⟨hB, hg0, hg2, hg3, hg5, hg6, hg1, hg4⟩ := id hok
  unfold bl at hg0 hg2 hg3 hg5 hg6
  refine Z.iload_n hX dX6_freed_0 rfl rfl ?_
  refine Z.callS0i (As := [.int (zI wh)]) (rest := []) hX (ct_X6_isPart l D ce wh (by omega)) mc_X6_isPart ml_X6_58 st_X6_isPart ini_X6 nd_X6_isPart ⟨Nat.le_of_ble_eq_true rfl, Nat.le_of_ble_eq_true rfl⟩ ⟨rfl, rfl⟩ ⟨Nat.le_refl _, Nat.le_refl _⟩ rfl (Nat.le_of_ble_eq_true rfl) dX6_freed_1 ?_
  rintro r_1 w1 ⟨z1, hr_, hw_, p1⟩
  subst hr_
  refine ⟨hw_, ?_⟩
  refine Z.if_eq hX 14 dX6_freed_4 (by decide) ⟨by omega, by omega⟩ ?_ ?_
  · intro c2
    refine Z.ldc hX (-1000000) dX6_freed_14 co_X6_87 rfl ?_
    exact hR _ _ _ _ dX6_freed_16 ⟨((-1000000)), G, L, B, J, rfl, rfl, hok, (fun _ _ => rfl), (fun _ => rfl)⟩
  · intro c2
    refine Z.iload_n hX dX6_freed_7 rfl rfl ?_
    refine Z.callS0i (As := [.int (zI i)]) (rest := []) hX (ct_X6_isPower l D ce i (by omega)) mc_X6_isPower ml_X6_62 st_X6_isPower ini_X6 nd_X6_isPower ⟨Nat.le_of_ble_eq_true rfl, Nat.le_of_ble_eq_true rfl⟩ ⟨rfl, rfl⟩ ⟨Nat.le_refl _, Nat.le_refl _⟩ rfl (Nat.le_of_ble_eq_true rfl) dX6_freed_8 ?_
    rintro r_3 w1 ⟨z2, hr_, hw_, p2⟩
    subst hr_
    refine ⟨hw_, ?_⟩
    refine Z.if_ne hX 17 dX6_freed_11 (by decide) ⟨by omega, by omega⟩ ?_ ?_
    · intro c4
      refine Z.aload_n hX dX6_freed_17 rfl rfl ?_
      refine Z.callVfr (As := []) (rest := []) hX 6 0 rfl rfl (ct_X6_freeRow l D ce h pl ar G L B J hok) mc_X6_freeRow ml_X6_83 im_X6_freeRow se_X6_freeRow ini_X6 nd_X6_freeRow ⟨Nat.le_of_ble_eq_true rfl, Nat.le_of_ble_eq_true rfl⟩ ⟨rfl, rfl⟩ ⟨Nat.le_refl _, Nat.le_refl _⟩ rfl (Nat.le_of_ble_eq_true rfl) dX6_freed_18 ?_
      rintro r_5 w1 ⟨G26, L27, hr_, hw_, fr1, fr2, fr3⟩
      subst hr_
      subst hw_
      refine Z.getf hX 5 2 0 dX6_freed_21 rfl rfl inX5 (by decide) fl_X6_69 rfl rfl ?_
      refine Z.iload_n hX dX6_freed_24 rfl rfl ?_
      refine Z.aaload hX 10 3 dX6_freed_25 rfl rfl rfl (by omega) (by omega) (by decide) rfl ?_
      refine Z.iload_n hX dX6_freed_26 rfl rfl ?_
      refine Z.laload hX (18 + (3 + (wh : Int).toNat)) 1 dX6_freed_27 (cW_in (by omega)) rfl (by omega) (by omega) (by decide) ?_
      refine Z.l2i hX dX6_freed_28 ?_
      refine Z.topi (fun z8 hz8 kz8 ez8 => ?_)
      exact hR _ _ _ _ dX6_freed_29 ⟨z8, G26, L27, B, J, rfl, rfl, (cok_of hB (by unfold bl at fr2; omega) (by have := fr1 1 (by decide); omega) (by have := fr1 2 (by decide); omega) (by have := fr1 3 (by decide); omega) (by have := fr1 4 (by decide); omega) (by have := fr1 5 (by decide); omega) (by have := fr1 6 (by decide); omega)), fr3, (fun q => absurd (by omega) q)⟩
    · intro c4
      refine Z.ldc hX (-1000000) dX6_freed_14 co_X6_87 rfl ?_
      exact hR _ _ _ _ dX6_freed_16 ⟨((-1000000)), G, L, B, J, rfl, rfl, hok, (fun _ _ => rfl), (fun _ => rfl)⟩

theorem dX6_value_0 : decode cX6_value 0 = .ok (.iload_n 1, 1) := by decide +kernel
theorem dX6_value_1 : decode cX6_value 1 = .ok (.iload_n 2, 1) := by decide +kernel
theorem dX6_value_2 : decode cX6_value 2 = .ok (.invokestatic 88, 3) := by decide +kernel
theorem dX6_value_5 : decode cX6_value 5 = .ok (.ifCond .eq 10, 3) := by decide +kernel
theorem dX6_value_8 : decode cX6_value 8 = .ok (.iload_n 3, 1) := by decide +kernel
theorem dX6_value_9 : decode cX6_value 9 = .ok (.invokestatic 58, 3) := by decide +kernel
theorem dX6_value_12 : decode cX6_value 12 = .ok (.ifCond .ne 6, 3) := by decide +kernel
theorem dX6_value_15 : decode cX6_value 15 = .ok (.ldc 87, 2) := by decide +kernel
theorem dX6_value_17 : decode cX6_value 17 = .ok (.ireturn, 1) := by decide +kernel
theorem dX6_value_18 : decode cX6_value 18 = .ok (.aload_n 0, 1) := by decide +kernel
theorem dX6_value_19 : decode cX6_value 19 = .ok (.iload_n 1, 1) := by decide +kernel
theorem dX6_value_20 : decode cX6_value 20 = .ok (.iload_n 2, 1) := by decide +kernel
theorem dX6_value_21 : decode cX6_value 21 = .ok (.invokevirtual 91, 3) := by decide +kernel
theorem dX6_value_24 : decode cX6_value 24 = .ok (.aload_n 0, 1) := by decide +kernel
theorem dX6_value_25 : decode cX6_value 25 = .ok (.getfield 50, 3) := by decide +kernel
theorem dX6_value_28 : decode cX6_value 28 = .ok (.iconst 0, 1) := by decide +kernel
theorem dX6_value_29 : decode cX6_value 29 = .ok (.laload, 1) := by decide +kernel
theorem dX6_value_30 : decode cX6_value 30 = .ok (.aload_n 0, 1) := by decide +kernel
theorem dX6_value_31 : decode cX6_value 31 = .ok (.getfield 50, 3) := by decide +kernel
theorem dX6_value_34 : decode cX6_value 34 = .ok (.iconst 1, 1) := by decide +kernel
theorem dX6_value_35 : decode cX6_value 35 = .ok (.laload, 1) := by decide +kernel
theorem dX6_value_36 : decode cX6_value 36 = .ok (.invokestatic 95, 3) := by decide +kernel
theorem dX6_value_39 : decode cX6_value 39 = .ok (.aload_n 0, 1) := by decide +kernel
theorem dX6_value_40 : decode cX6_value 40 = .ok (.getfield 50, 3) := by decide +kernel
theorem dX6_value_43 : decode cX6_value 43 = .ok (.iconst 2, 1) := by decide +kernel
theorem dX6_value_44 : decode cX6_value 44 = .ok (.laload, 1) := by decide +kernel
theorem dX6_value_45 : decode cX6_value 45 = .ok (.invokestatic 95, 3) := by decide +kernel
theorem dX6_value_48 : decode cX6_value 48 = .ok (.lstore 4, 2) := by decide +kernel
theorem dX6_value_50 : decode cX6_value 50 = .ok (.lload 4, 2) := by decide +kernel
theorem dX6_value_52 : decode cX6_value 52 = .ok (.lconst 0, 1) := by decide +kernel
theorem dX6_value_53 : decode cX6_value 53 = .ok (.lcmp, 1) := by decide +kernel
theorem dX6_value_54 : decode cX6_value 54 = .ok (.ifCond .ne 7, 3) := by decide +kernel
theorem dX6_value_57 : decode cX6_value 57 = .ok (.iconst 0, 1) := by decide +kernel
theorem dX6_value_58 : decode cX6_value 58 = .ok (.goto 13, 3) := by decide +kernel
theorem dX6_value_61 : decode cX6_value 61 = .ok (.aload_n 0, 1) := by decide +kernel
theorem dX6_value_62 : decode cX6_value 62 = .ok (.getfield 50, 3) := by decide +kernel
theorem dX6_value_65 : decode cX6_value 65 = .ok (.iload_n 3, 1) := by decide +kernel
theorem dX6_value_66 : decode cX6_value 66 = .ok (.laload, 1) := by decide +kernel
theorem dX6_value_67 : decode cX6_value 67 = .ok (.lload 4, 2) := by decide +kernel
theorem dX6_value_69 : decode cX6_value 69 = .ok (.ldiv, 1) := by decide +kernel
theorem dX6_value_70 : decode cX6_value 70 = .ok (.l2i, 1) := by decide +kernel
theorem dX6_value_71 : decode cX6_value 71 = .ok (.ireturn, 1) := by decide +kernel
set_option maxHeartbeats 4000000 in
set_option maxRecDepth 100000 in
theorem ct_X6_value (l : Launch) (D : va_G) (ce : Nat → ClassId) (h pl ar : Nat → Nat) (G : Nat → Int) (L : Nat → Nat → Int64) (B : Nat → Int) (J : Nat → Nat → Int64) (u v part : Int) (hok : cOK G B) (hu : -2147483648 ≤ u ∧ u < 2147483648) (hv : -2147483648 ≤ v ∧ v < 2147483648) (hp : -2147483648 ≤ part ∧ part < 2147483648) : Ct l yX6_value cX6_value 6 (some .int) { frames := 2, cells := 0, slots := 0, locals := 52 } 0 0 D (TY ce) [.ref (h 0), .int (zI u), .int (zI v), .int (zI part)] (cW ce h pl ar G L B J) (QI D (TY ce) (fun r w1 => ∃ z : Int, ∃ G2 : Nat → Int, ∃ L2 : Nat → Nat → Int64, ∃ B2 : Nat → Int, ∃ J2 : Nat → Nat → Int64, r = zI z ∧ w1 = cW ce h pl ar G2 L2 B2 J2 ∧ (cOK G2 B2) ∧ (∀ k, k < 3 → L2 k = L k) ∧ (¬ ((-9 ≤ u ∧ u ≤ 9 ∧ -9 ≤ v ∧ v ≤ 9 ∧ ¬ (u = 0 ∧ v = 0)) ∧ 0 ≤ part ∧ part ≤ 2) → z = -1000000) ∧ (((-9 ≤ u ∧ u ≤ 9 ∧ -9 ≤ v ∧ v ≤ 9 ∧ ¬ (u = 0 ∧ v = 0)) ∧ 0 ≤ part ∧ part ≤ 2) → ∃ (n : Int) (c1 c2 : Int64), HP L n ∧ cgE (wOf (L 0) u v n) (wOf (L 1) u v n) c1 ∧ cgE c1 (wOf (L 2) u v n) c2 ∧ ((c2 = 0 ∧ z = 0) ∨ (¬ c2 = 0 ∧ ((wOf (L part.toNat) u v n) / c2).toInt32 = zI z))))) := by
  refine Ct.ofI (by decide) (Nat.le_of_ble_eq_true rfl) ?_
  intro p e s m args below meth c A Q hX hnm hR
  refine Z.pick (lv' := [(0, .ref (h 0)), (1, .int (zI u)), (2, .int (zI v)), (3, .int (zI part))]) [0, 1, 2, 3] rfl ?_
  obtain ⟨hB, hg0, hg2, hg3, hg5, hg6, hg1, hg4⟩ := id hok
  unfold bl at hg0 hg2 hg3 hg5 hg6
  refine Z.iload_n hX dX6_value_0 rfl rfl ?_
  refine Z.iload_n hX dX6_value_1 rfl rfl ?_
  refine Z.callS0i (As := [.int (zI u), .int (zI v)]) (rest := []) hX (ct_X6_isParameter l D ce u v (by omega) (by omega)) mc_X6_isParameter ml_X6_88 st_X6_isParameter ini_X6 nd_X6_isParameter ⟨Nat.le_of_ble_eq_true rfl, Nat.le_of_ble_eq_true rfl⟩ ⟨rfl, rfl⟩ ⟨Nat.le_refl _, Nat.le_refl _⟩ rfl (Nat.le_of_ble_eq_true rfl) dX6_value_2 ?_
  rintro r_1 w1 ⟨z1, hr_, hw_, p1⟩
  subst hr_
  refine ⟨hw_, ?_⟩
  refine Z.if_eq hX 15 dX6_value_5 (by decide) ⟨by omega, by omega⟩ ?_ ?_
  · intro c2
    refine Z.ldc hX (-1000000) dX6_value_15 co_X6_87 rfl ?_
    exact hR _ _ _ _ dX6_value_17 ⟨((-1000000)), G, L, B, J, rfl, rfl, hok, (fun _ _ => rfl), (fun _ => rfl), (fun q => by omega)⟩
  · intro c2
    refine Z.iload_n hX dX6_value_8 rfl rfl ?_
    refine Z.callS0i (As := [.int (zI part)]) (rest := []) hX (ct_X6_isPart l D ce part (by omega)) mc_X6_isPart ml_X6_58 st_X6_isPart ini_X6 nd_X6_isPart ⟨Nat.le_of_ble_eq_true rfl, Nat.le_of_ble_eq_true rfl⟩ ⟨rfl, rfl⟩ ⟨Nat.le_refl _, Nat.le_refl _⟩ rfl (Nat.le_of_ble_eq_true rfl) dX6_value_9 ?_
    rintro r_3 w1 ⟨z2, hr_, hw_, p2⟩
    subst hr_
    refine ⟨hw_, ?_⟩
    refine Z.if_ne hX 18 dX6_value_12 (by decide) ⟨by omega, by omega⟩ ?_ ?_
    · intro c4
      refine Z.aload_n hX dX6_value_18 rfl rfl ?_
      refine Z.iload_n hX dX6_value_19 rfl rfl ?_
      refine Z.iload_n hX dX6_value_20 rfl rfl ?_
      refine Z.callVfv (As := [.int (zI u), .int (zI v)]) (rest := []) hX 6 0 rfl rfl (ct_X6_moveTo l D ce h pl ar G L B J u v (by omega) (by omega)) mc_X6_moveTo ml_X6_91 im_X6_moveTo se_X6_moveTo ini_X6 nd_X6_moveTo ⟨Nat.le_of_ble_eq_true rfl, Nat.le_of_ble_eq_true rfl⟩ ⟨rfl, rfl⟩ ⟨Nat.le_refl _, Nat.le_refl _⟩ rfl (Nat.le_of_ble_eq_true rfl) dX6_value_21 ?_
      rintro w1 ⟨n, Lm, hw_, mv1, mv2, mv3⟩
      subst hw_
      have s0 : Lm 9 (0 : Int).toNat = wOf (L 0) u v n := mv2 0 (by decide) (by decide)
      have s1 : Lm 9 (1 : Int).toNat = wOf (L 1) u v n := mv2 1 (by decide) (by decide)
      have s2 : Lm 9 (2 : Int).toNat = wOf (L 2) u v n := mv2 2 (by decide) (by decide)
      refine Z.aload_n hX dX6_value_24 rfl rfl ?_
      refine Z.getf hX 6 0 7 dX6_value_25 rfl rfl inX6 (by decide) fl_X6_50 rfl rfl ?_
      refine Z.iconst hX dX6_value_28 ?_
      refine Z.laload hX 8 1 dX6_value_29 rfl rfl (by omega) (by omega) (by decide) ?_
      refine Z.aload_n hX dX6_value_30 rfl rfl ?_
      refine Z.getf hX 6 0 7 dX6_value_31 rfl rfl inX6 (by decide) fl_X6_50 rfl rfl ?_
      refine Z.iconst hX dX6_value_34 ?_
      refine Z.laload hX 8 1 dX6_value_35 rfl rfl (by omega) (by omega) (by decide) ?_
      refine Z.callS0l (As := [.long (Lm 9 (0 : Int).toNat), .long (Lm 9 (1 : Int).toNat)]) (rest := []) hX (ct_X6_commonOf l D ce (Lm 9 (0 : Int).toNat) (Lm 9 (1 : Int).toNat) ) mc_X6_commonOf ml_X6_95 st_X6_commonOf ini_X6 nd_X6_commonOf ⟨Nat.le_of_ble_eq_true rfl, Nat.le_of_ble_eq_true rfl⟩ ⟨rfl, rfl⟩ ⟨Nat.le_refl _, Nat.le_refl _⟩ rfl (Nat.le_of_ble_eq_true rfl) dX6_value_36 ?_
      rintro c1 w1 ⟨r07, hr_, hw_, hc1⟩
      subst hr_
      refine ⟨hw_, ?_⟩
      refine Z.aload_n hX dX6_value_39 rfl rfl ?_
      refine Z.getf hX 6 0 7 dX6_value_40 rfl rfl inX6 (by decide) fl_X6_50 rfl rfl ?_
      refine Z.iconst hX dX6_value_43 ?_
      refine Z.laload hX 8 1 dX6_value_44 rfl rfl (by omega) (by omega) (by decide) ?_
      refine Z.callS0l (As := [.long c1, .long (Lm 9 (2 : Int).toNat)]) (rest := []) hX (ct_X6_commonOf l D ce c1 (Lm 9 (2 : Int).toNat) ) mc_X6_commonOf ml_X6_95 st_X6_commonOf ini_X6 nd_X6_commonOf ⟨Nat.le_of_ble_eq_true rfl, Nat.le_of_ble_eq_true rfl⟩ ⟨rfl, rfl⟩ ⟨Nat.le_refl _, Nat.le_refl _⟩ rfl (Nat.le_of_ble_eq_true rfl) dX6_value_45 ?_
      rintro c2 w1 ⟨r09, hr_, hw_, hc2⟩
      subst hr_
      refine ⟨hw_, ?_⟩
      refine Z.lstore (lv' := [(4, .long c2), (0, .ref (h 0)), (1, .int (zI u)), (2, .int (zI v)), (3, .int (zI part))]) hX dX6_value_48 (by decide) rfl ?_
      refine Z.lload hX dX6_value_50 rfl ?_
      refine Z.lconst (v := 0) hX dX6_value_52 rfl ?_
      refine Z.lcmp_ne hX 61 dX6_value_53 dX6_value_54 (by decide) ?_ ?_
      · intro c10
        refine Z.aload_n hX dX6_value_61 rfl rfl ?_
        refine Z.getf hX 6 0 7 dX6_value_62 rfl rfl inX6 (by decide) fl_X6_50 rfl rfl ?_
        refine Z.iload_n hX dX6_value_65 rfl rfl ?_
        refine Z.laload hX 8 1 dX6_value_66 rfl rfl (by omega) (by omega) (by decide) ?_
        refine Z.lload hX dX6_value_67 rfl ?_
        refine Z.ldiv hX dX6_value_69 (by assumption) ?_
        refine Z.l2i hX dX6_value_70 ?_
        refine Z.topi (fun z11 hz11 kz11 ez11 => ?_)
        exact hR _ _ _ _ dX6_value_71 ⟨z11, G, Lm, B, J, rfl, rfl, hok, (fun k h => mv3 k (by omega)), (fun q => absurd (by omega) q), (fun _ => ⟨n, c1, c2, mv1, by rw [← s0, ← s1]; exact hc1, by rw [← s2]; exact hc2, Or.inr ⟨by assumption, by rw [← mv2 part (by omega) (by omega)]; assumption⟩⟩)⟩
      · intro c10
        refine Z.iconst hX dX6_value_57 ?_
        refine Z.goto hX 71 dX6_value_58 (by decide) ?_
        exact hR _ _ _ _ dX6_value_71 ⟨0, G, Lm, B, J, rfl, rfl, hok, (fun k h => mv3 k (by omega)), (fun q => absurd (by omega) q), (fun _ => ⟨n, c1, c2, mv1, by rw [← s0, ← s1]; exact hc1, by rw [← s2]; exact hc2, Or.inl ⟨by assumption, rfl⟩⟩)⟩
    · intro c4
      refine Z.ldc hX (-1000000) dX6_value_15 co_X6_87 rfl ?_
      exact hR _ _ _ _ dX6_value_17 ⟨((-1000000)), G, L, B, J, rfl, rfl, hok, (fun _ _ => rfl), (fun _ => rfl), (fun q => by omega)⟩

theorem dX6_at_0 : decode cX6_at 0 = .ok (.iload_n 1, 1) := by decide +kernel
theorem dX6_at_1 : decode cX6_at 1 = .ok (.iload_n 2, 1) := by decide +kernel
theorem dX6_at_2 : decode cX6_at 2 = .ok (.invokestatic 88, 3) := by decide +kernel
theorem dX6_at_5 : decode cX6_at 5 = .ok (.ifCond .eq 14, 3) := by decide +kernel
theorem dX6_at_8 : decode cX6_at 8 = .ok (.iload_n 3, 1) := by decide +kernel
theorem dX6_at_9 : decode cX6_at 9 = .ok (.iload 4, 2) := by decide +kernel
theorem dX6_at_11 : decode cX6_at 11 = .ok (.iload 5, 2) := by decide +kernel
theorem dX6_at_13 : decode cX6_at 13 = .ok (.invokestatic 129, 3) := by decide +kernel
theorem dX6_at_16 : decode cX6_at 16 = .ok (.ifCond .ne 6, 3) := by decide +kernel
theorem dX6_at_19 : decode cX6_at 19 = .ok (.bipush (-9), 2) := by decide +kernel
theorem dX6_at_21 : decode cX6_at 21 = .ok (.ireturn, 1) := by decide +kernel
theorem dX6_at_22 : decode cX6_at 22 = .ok (.aload_n 0, 1) := by decide +kernel
theorem dX6_at_23 : decode cX6_at 23 = .ok (.iload_n 1, 1) := by decide +kernel
theorem dX6_at_24 : decode cX6_at 24 = .ok (.iload_n 2, 1) := by decide +kernel
theorem dX6_at_25 : decode cX6_at 25 = .ok (.invokevirtual 91, 3) := by decide +kernel
theorem dX6_at_28 : decode cX6_at 28 = .ok (.aload_n 0, 1) := by decide +kernel
theorem dX6_at_29 : decode cX6_at 29 = .ok (.getfield 50, 3) := by decide +kernel
theorem dX6_at_32 : decode cX6_at 32 = .ok (.iconst 2, 1) := by decide +kernel
theorem dX6_at_33 : decode cX6_at 33 = .ok (.laload, 1) := by decide +kernel
theorem dX6_at_34 : decode cX6_at 34 = .ok (.lconst 0, 1) := by decide +kernel
theorem dX6_at_35 : decode cX6_at 35 = .ok (.lcmp, 1) := by decide +kernel
theorem dX6_at_36 : decode cX6_at 36 = .ok (.ifCond .eq 54, 3) := by decide +kernel
theorem dX6_at_39 : decode cX6_at 39 = .ok (.aload_n 0, 1) := by decide +kernel
theorem dX6_at_40 : decode cX6_at 40 = .ok (.getfield 50, 3) := by decide +kernel
theorem dX6_at_43 : decode cX6_at 43 = .ok (.iconst 0, 1) := by decide +kernel
theorem dX6_at_44 : decode cX6_at 44 = .ok (.laload, 1) := by decide +kernel
theorem dX6_at_45 : decode cX6_at 45 = .ok (.iload 5, 2) := by decide +kernel
theorem dX6_at_47 : decode cX6_at 47 = .ok (.i2l, 1) := by decide +kernel
theorem dX6_at_48 : decode cX6_at 48 = .ok (.lmul, 1) := by decide +kernel
theorem dX6_at_49 : decode cX6_at 49 = .ok (.aload_n 0, 1) := by decide +kernel
theorem dX6_at_50 : decode cX6_at 50 = .ok (.getfield 50, 3) := by decide +kernel
theorem dX6_at_53 : decode cX6_at 53 = .ok (.iconst 2, 1) := by decide +kernel
theorem dX6_at_54 : decode cX6_at 54 = .ok (.laload, 1) := by decide +kernel
theorem dX6_at_55 : decode cX6_at 55 = .ok (.iload_n 3, 1) := by decide +kernel
theorem dX6_at_56 : decode cX6_at 56 = .ok (.i2l, 1) := by decide +kernel
theorem dX6_at_57 : decode cX6_at 57 = .ok (.lmul, 1) := by decide +kernel
theorem dX6_at_58 : decode cX6_at 58 = .ok (.lcmp, 1) := by decide +kernel
theorem dX6_at_59 : decode cX6_at 59 = .ok (.ifCond .ne 31, 3) := by decide +kernel
theorem dX6_at_62 : decode cX6_at 62 = .ok (.aload_n 0, 1) := by decide +kernel
theorem dX6_at_63 : decode cX6_at 63 = .ok (.getfield 50, 3) := by decide +kernel
theorem dX6_at_66 : decode cX6_at 66 = .ok (.iconst 1, 1) := by decide +kernel
theorem dX6_at_67 : decode cX6_at 67 = .ok (.laload, 1) := by decide +kernel
theorem dX6_at_68 : decode cX6_at 68 = .ok (.iload 5, 2) := by decide +kernel
theorem dX6_at_70 : decode cX6_at 70 = .ok (.i2l, 1) := by decide +kernel
theorem dX6_at_71 : decode cX6_at 71 = .ok (.lmul, 1) := by decide +kernel
theorem dX6_at_72 : decode cX6_at 72 = .ok (.aload_n 0, 1) := by decide +kernel
theorem dX6_at_73 : decode cX6_at 73 = .ok (.getfield 50, 3) := by decide +kernel
theorem dX6_at_76 : decode cX6_at 76 = .ok (.iconst 2, 1) := by decide +kernel
theorem dX6_at_77 : decode cX6_at 77 = .ok (.laload, 1) := by decide +kernel
theorem dX6_at_78 : decode cX6_at 78 = .ok (.iload 4, 2) := by decide +kernel
theorem dX6_at_80 : decode cX6_at 80 = .ok (.i2l, 1) := by decide +kernel
theorem dX6_at_81 : decode cX6_at 81 = .ok (.lmul, 1) := by decide +kernel
theorem dX6_at_82 : decode cX6_at 82 = .ok (.lcmp, 1) := by decide +kernel
theorem dX6_at_83 : decode cX6_at 83 = .ok (.ifCond .ne 7, 3) := by decide +kernel
theorem dX6_at_86 : decode cX6_at 86 = .ok (.iconst 1, 1) := by decide +kernel
theorem dX6_at_87 : decode cX6_at 87 = .ok (.goto 4, 3) := by decide +kernel
theorem dX6_at_90 : decode cX6_at 90 = .ok (.iconst 0, 1) := by decide +kernel
theorem dX6_at_91 : decode cX6_at 91 = .ok (.istore 6, 2) := by decide +kernel
theorem dX6_at_93 : decode cX6_at 93 = .ok (.iload 6, 2) := by decide +kernel
theorem dX6_at_95 : decode cX6_at 95 = .ok (.ifCond .eq 7, 3) := by decide +kernel
theorem dX6_at_98 : decode cX6_at 98 = .ok (.iconst 1, 1) := by decide +kernel
theorem dX6_at_99 : decode cX6_at 99 = .ok (.goto 4, 3) := by decide +kernel
theorem dX6_at_102 : decode cX6_at 102 = .ok (.iconst 0, 1) := by decide +kernel
theorem dX6_at_103 : decode cX6_at 103 = .ok (.ireturn, 1) := by decide +kernel
set_option maxHeartbeats 4000000 in
set_option maxRecDepth 100000 in
theorem ct_X6_at (l : Launch) (D : va_G) (ce : Nat → ClassId) (h pl ar : Nat → Nat) (G : Nat → Int) (L : Nat → Nat → Int64) (B : Nat → Int) (J : Nat → Nat → Int64) (u v pp qq ss : Int) (hok : cOK G B) (hu : -2147483648 ≤ u ∧ u < 2147483648) (hv : -2147483648 ≤ v ∧ v < 2147483648) (hp : -2147483648 ≤ pp ∧ pp < 2147483648) (hq : -2147483648 ≤ qq ∧ qq < 2147483648) (hs : -2147483648 ≤ ss ∧ ss < 2147483648) : Ct l yX6_at cX6_at 7 (some .int) { frames := 2, cells := 0, slots := 0, locals := 52 } 0 0 D (TY ce) [.ref (h 0), .int (zI u), .int (zI v), .int (zI pp), .int (zI qq), .int (zI ss)] (cW ce h pl ar G L B J) (QI D (TY ce) (fun r w1 => ∃ z : Int, ∃ G2 : Nat → Int, ∃ L2 : Nat → Nat → Int64, ∃ B2 : Nat → Int, ∃ J2 : Nat → Nat → Int64, r = zI z ∧ w1 = cW ce h pl ar G2 L2 B2 J2 ∧ (cOK G2 B2) ∧ (∀ k, k < 3 → L2 k = L k) ∧ (¬ ((-9 ≤ u ∧ u ≤ 9 ∧ -9 ≤ v ∧ v ≤ 9 ∧ ¬ (u = 0 ∧ v = 0)) ∧ (-20 ≤ pp ∧ pp ≤ 20 ∧ -20 ≤ qq ∧ qq ≤ 20 ∧ 1 ≤ ss ∧ ss ≤ 9)) → z = -9) ∧ (((-9 ≤ u ∧ u ≤ 9 ∧ -9 ≤ v ∧ v ≤ 9 ∧ ¬ (u = 0 ∧ v = 0)) ∧ (-20 ≤ pp ∧ pp ≤ 20 ∧ -20 ≤ qq ∧ qq ≤ 20 ∧ 1 ≤ ss ∧ ss ≤ 9)) → ∃ n : Int, HP L n ∧ ((z = 1 ∧ (¬ (wOf (L 2) u v n) = 0 ∧ (wOf (L 0) u v n) * zL ss = (wOf (L 2) u v n) * zL pp ∧ (wOf (L 1) u v n) * zL ss = (wOf (L 2) u v n) * zL qq)) ∨ (z = 0 ∧ ¬ (¬ (wOf (L 2) u v n) = 0 ∧ (wOf (L 0) u v n) * zL ss = (wOf (L 2) u v n) * zL pp ∧ (wOf (L 1) u v n) * zL ss = (wOf (L 2) u v n) * zL qq)))))) := by
  refine Ct.ofI (by decide) (Nat.le_of_ble_eq_true rfl) ?_
  intro p e s m args below meth c A Q hX hnm hR
  refine Z.pick (lv' := [(0, .ref (h 0)), (1, .int (zI u)), (2, .int (zI v)), (3, .int (zI pp)), (4, .int (zI qq)), (5, .int (zI ss))]) [0, 1, 2, 3, 4, 5] rfl ?_
  obtain ⟨hB, hg0, hg2, hg3, hg5, hg6, hg1, hg4⟩ := id hok
  unfold bl at hg0 hg2 hg3 hg5 hg6
  refine Z.iload_n hX dX6_at_0 rfl rfl ?_
  refine Z.iload_n hX dX6_at_1 rfl rfl ?_
  refine Z.callS0i (As := [.int (zI u), .int (zI v)]) (rest := []) hX (ct_X6_isParameter l D ce u v (by omega) (by omega)) mc_X6_isParameter ml_X6_88 st_X6_isParameter ini_X6 nd_X6_isParameter ⟨Nat.le_of_ble_eq_true rfl, Nat.le_of_ble_eq_true rfl⟩ ⟨rfl, rfl⟩ ⟨Nat.le_refl _, Nat.le_refl _⟩ rfl (Nat.le_of_ble_eq_true rfl) dX6_at_2 ?_
  rintro r_1 w1 ⟨z1, hr_, hw_, p1⟩
  subst hr_
  refine ⟨hw_, ?_⟩
  refine Z.if_eq hX 19 dX6_at_5 (by decide) ⟨by omega, by omega⟩ ?_ ?_
  · intro c2
    refine Z.bipush hX dX6_at_19 (by decide) ?_
    exact hR _ _ _ _ dX6_at_21 ⟨(-9), G, L, B, J, rfl, rfl, hok, (fun _ _ => rfl), (fun _ => rfl), (fun q => by omega)⟩
  · intro c2
    refine Z.iload_n hX dX6_at_8 rfl rfl ?_
    refine Z.iload hX dX6_at_9 rfl ?_
    refine Z.iload hX dX6_at_11 rfl ?_
    refine Z.callS0i (As := [.int (zI pp), .int (zI qq), .int (zI ss)]) (rest := []) hX (ct_X6_isPlace l D ce pp qq ss (by omega) (by omega) (by omega)) mc_X6_isPlace ml_X6_129 st_X6_isPlace ini_X6 nd_X6_isPlace ⟨Nat.le_of_ble_eq_true rfl, Nat.le_of_ble_eq_true rfl⟩ ⟨rfl, rfl⟩ ⟨Nat.le_refl _, Nat.le_refl _⟩ rfl (Nat.le_of_ble_eq_true rfl) dX6_at_13 ?_
    rintro r_3 w1 ⟨z2, hr_, hw_, p2⟩
    subst hr_
    refine ⟨hw_, ?_⟩
    refine Z.if_ne hX 22 dX6_at_16 (by decide) ⟨by omega, by omega⟩ ?_ ?_
    · intro c4
      refine Z.aload_n hX dX6_at_22 rfl rfl ?_
      refine Z.iload_n hX dX6_at_23 rfl rfl ?_
      refine Z.iload_n hX dX6_at_24 rfl rfl ?_
      refine Z.callVfv (As := [.int (zI u), .int (zI v)]) (rest := []) hX 6 0 rfl rfl (ct_X6_moveTo l D ce h pl ar G L B J u v (by omega) (by omega)) mc_X6_moveTo ml_X6_91 im_X6_moveTo se_X6_moveTo ini_X6 nd_X6_moveTo ⟨Nat.le_of_ble_eq_true rfl, Nat.le_of_ble_eq_true rfl⟩ ⟨rfl, rfl⟩ ⟨Nat.le_refl _, Nat.le_refl _⟩ rfl (Nat.le_of_ble_eq_true rfl) dX6_at_25 ?_
      rintro w1 ⟨n, Lm, hw_, mv1, mv2, mv3⟩
      subst hw_
      have s0 : Lm 9 (0 : Int).toNat = wOf (L 0) u v n := mv2 0 (by decide) (by decide)
      have s1 : Lm 9 (1 : Int).toNat = wOf (L 1) u v n := mv2 1 (by decide) (by decide)
      have s2 : Lm 9 (2 : Int).toNat = wOf (L 2) u v n := mv2 2 (by decide) (by decide)
      have key_91 : ∀ (bz : Int), (hbz : (bz = 1 ∧ (¬ (wOf (L 2) u v n) = 0 ∧ (wOf (L 0) u v n) * zL ss = (wOf (L 2) u v n) * zL pp ∧ (wOf (L 1) u v n) * zL ss = (wOf (L 2) u v n) * zL qq)) ∨ (bz = 0 ∧ ¬ (¬ (wOf (L 2) u v n) = 0 ∧ (wOf (L 0) u v n) * zL ss = (wOf (L 2) u v n) * zL pp ∧ (wOf (L 1) u v n) * zL ss = (wOf (L 2) u v n) * zL qq))) → Z p l e { frames := 2, cells := 0, slots := 0, locals := 52 } s m args below meth c D A 7 0 0 Q 91 [(0, .ref (h 0))] [.int (zI bz)] (cW ce h pl ar G Lm B J) := by
        intro bz hbz
        refine Z.istore (lv' := [(6, .int (zI bz)), (0, .ref (h 0))]) hX dX6_at_91 (by decide) rfl ?_
        refine Z.iload hX dX6_at_93 rfl ?_
        refine Z.if_eq hX 102 dX6_at_95 (by decide) ⟨by omega, by omega⟩ ?_ ?_
        · intro c6
          refine Z.iconst hX dX6_at_102 ?_
          exact hR _ _ _ _ dX6_at_103 ⟨0, G, Lm, B, J, rfl, rfl, hok, (fun k h => mv3 k (by omega)), (fun q => absurd (by omega) q), (fun _ => ⟨n, mv1, Or.inr ⟨rfl, (hbz.resolve_left (fun q => by omega)).2⟩⟩)⟩
        · intro c6
          refine Z.iconst hX dX6_at_98 ?_
          refine Z.goto hX 103 dX6_at_99 (by decide) ?_
          exact hR _ _ _ _ dX6_at_103 ⟨1, G, Lm, B, J, rfl, rfl, hok, (fun k h => mv3 k (by omega)), (fun q => absurd (by omega) q), (fun _ => ⟨n, mv1, Or.inl ⟨rfl, (hbz.resolve_right (fun q => by omega)).2⟩⟩)⟩
      refine Z.aload_n hX dX6_at_28 rfl rfl ?_
      refine Z.getf hX 6 0 7 dX6_at_29 rfl rfl inX6 (by decide) fl_X6_50 rfl rfl ?_
      refine Z.iconst hX dX6_at_32 ?_
      refine Z.laload hX 8 1 dX6_at_33 rfl rfl (by omega) (by omega) (by decide) ?_
      refine Z.lconst (v := 0) hX dX6_at_34 rfl ?_
      refine Z.lcmp_eq hX 90 dX6_at_35 dX6_at_36 (by decide) ?_ ?_
      · intro c7
        refine Z.iconst hX dX6_at_90 ?_
        refine Z.pick [0] rfl ?_
        exact key_91 _ (Or.inr ⟨rfl, fun q => by rw [← s0, ← s1, ← s2] at q; first | exact q.1 (by assumption) | exact absurd q.2.1 (by assumption) | exact absurd q.2.2 (by assumption)⟩)
      · intro c7
        refine Z.aload_n hX dX6_at_39 rfl rfl ?_
        refine Z.getf hX 6 0 7 dX6_at_40 rfl rfl inX6 (by decide) fl_X6_50 rfl rfl ?_
        refine Z.iconst hX dX6_at_43 ?_
        refine Z.laload hX 8 1 dX6_at_44 rfl rfl (by omega) (by omega) (by decide) ?_
        refine Z.iload hX dX6_at_45 rfl ?_
        refine Z.i2l hX dX6_at_47 ⟨by omega, by omega⟩ ?_
        refine Z.lmul hX dX6_at_48 ?_
        refine Z.aload_n hX dX6_at_49 rfl rfl ?_
        refine Z.getf hX 6 0 7 dX6_at_50 rfl rfl inX6 (by decide) fl_X6_50 rfl rfl ?_
        refine Z.iconst hX dX6_at_53 ?_
        refine Z.laload hX 8 1 dX6_at_54 rfl rfl (by omega) (by omega) (by decide) ?_
        refine Z.iload_n hX dX6_at_55 rfl rfl ?_
        refine Z.i2l hX dX6_at_56 ⟨by omega, by omega⟩ ?_
        refine Z.lmul hX dX6_at_57 ?_
        refine Z.lcmp_ne hX 90 dX6_at_58 dX6_at_59 (by decide) ?_ ?_
        · intro c8
          refine Z.iconst hX dX6_at_90 ?_
          refine Z.pick [0] rfl ?_
          exact key_91 _ (Or.inr ⟨rfl, fun q => by rw [← s0, ← s1, ← s2] at q; first | exact q.1 (by assumption) | exact absurd q.2.1 (by assumption) | exact absurd q.2.2 (by assumption)⟩)
        · intro c8
          refine Z.aload_n hX dX6_at_62 rfl rfl ?_
          refine Z.getf hX 6 0 7 dX6_at_63 rfl rfl inX6 (by decide) fl_X6_50 rfl rfl ?_
          refine Z.iconst hX dX6_at_66 ?_
          refine Z.laload hX 8 1 dX6_at_67 rfl rfl (by omega) (by omega) (by decide) ?_
          refine Z.iload hX dX6_at_68 rfl ?_
          refine Z.i2l hX dX6_at_70 ⟨by omega, by omega⟩ ?_
          refine Z.lmul hX dX6_at_71 ?_
          refine Z.aload_n hX dX6_at_72 rfl rfl ?_
          refine Z.getf hX 6 0 7 dX6_at_73 rfl rfl inX6 (by decide) fl_X6_50 rfl rfl ?_
          refine Z.iconst hX dX6_at_76 ?_
          refine Z.laload hX 8 1 dX6_at_77 rfl rfl (by omega) (by omega) (by decide) ?_
          refine Z.iload hX dX6_at_78 rfl ?_
          refine Z.i2l hX dX6_at_80 ⟨by omega, by omega⟩ ?_
          refine Z.lmul hX dX6_at_81 ?_
          refine Z.lcmp_ne hX 90 dX6_at_82 dX6_at_83 (by decide) ?_ ?_
          · intro c9
            refine Z.iconst hX dX6_at_90 ?_
            refine Z.pick [0] rfl ?_
            exact key_91 _ (Or.inr ⟨rfl, fun q => by rw [← s0, ← s1, ← s2] at q; first | exact q.1 (by assumption) | exact absurd q.2.1 (by assumption) | exact absurd q.2.2 (by assumption)⟩)
          · intro c9
            refine Z.iconst hX dX6_at_86 ?_
            refine Z.goto hX 91 dX6_at_87 (by decide) ?_
            refine Z.pick [0] rfl ?_
            exact key_91 _ (Or.inl ⟨rfl, by rw [← s2]; assumption, by rw [← s0, ← s2]; assumption, by rw [← s1, ← s2]; assumption⟩)
    · intro c4
      refine Z.bipush hX dX6_at_19 (by decide) ?_
      exact hR _ _ _ _ dX6_at_21 ⟨(-9), G, L, B, J, rfl, rfl, hok, (fun _ _ => rfl), (fun _ => rfl), (fun q => by omega)⟩

theorem dX6_trace_0 : decode cX6_trace 0 = .ok (.iload_n 1, 1) := by decide +kernel
theorem dX6_trace_1 : decode cX6_trace 1 = .ok (.invokestatic 99, 3) := by decide +kernel
theorem dX6_trace_4 : decode cX6_trace 4 = .ok (.ifCond .ne 5, 3) := by decide +kernel
theorem dX6_trace_7 : decode cX6_trace 7 = .ok (.iconst (-1), 1) := by decide +kernel
theorem dX6_trace_8 : decode cX6_trace 8 = .ok (.ireturn, 1) := by decide +kernel
theorem dX6_trace_9 : decode cX6_trace 9 = .ok (.aload_n 0, 1) := by decide +kernel
theorem dX6_trace_10 : decode cX6_trace 10 = .ok (.iload_n 1, 1) := by decide +kernel
theorem dX6_trace_11 : decode cX6_trace 11 = .ok (.invokevirtual 102, 3) := by decide +kernel
theorem dX6_trace_14 : decode cX6_trace 14 = .ok (.astore_n 2, 1) := by decide +kernel
theorem dX6_trace_15 : decode cX6_trace 15 = .ok (.aload_n 2, 1) := by decide +kernel
theorem dX6_trace_16 : decode cX6_trace 16 = .ok (.getfield 106, 3) := by decide +kernel
theorem dX6_trace_19 : decode cX6_trace 19 = .ok (.ifCond .eq 13, 3) := by decide +kernel
theorem dX6_trace_22 : decode cX6_trace 22 = .ok (.aload_n 2, 1) := by decide +kernel
theorem dX6_trace_23 : decode cX6_trace 23 = .ok (.getfield 109, 3) := by decide +kernel
theorem dX6_trace_26 : decode cX6_trace 26 = .ok (.getfield 113, 3) := by decide +kernel
theorem dX6_trace_29 : decode cX6_trace 29 = .ok (.goto 5, 3) := by decide +kernel
theorem dX6_trace_32 : decode cX6_trace 32 = .ok (.bipush (-2), 2) := by decide +kernel
theorem dX6_trace_34 : decode cX6_trace 34 = .ok (.ireturn, 1) := by decide +kernel
set_option maxHeartbeats 4000000 in
set_option maxRecDepth 100000 in
theorem ct_X6_trace (l : Launch) (D : va_G) (ce : Nat → ClassId) (h pl ar : Nat → Nat) (G : Nat → Int) (L : Nat → Nat → Int64) (B : Nat → Int) (J : Nat → Nat → Int64) (sort : Int) (hok : cOK G B) (hs : -2147483648 ≤ sort ∧ sort < 2147483648) : Ct l yX6_trace cX6_trace 3 (some .int) { frames := 6, cells := 0, slots := 0, locals := 162 } 0 0 D (TY ce) [.ref (h 0), .int (zI sort)] (cW ce h pl ar G L B J) (QI D (TY ce) (fun r w1 => ∃ z : Int, ∃ G2 : Nat → Int, ∃ L2 : Nat → Nat → Int64, ∃ B2 : Nat → Int, ∃ J2 : Nat → Nat → Int64, r = zI z ∧ w1 = cW ce h pl ar G2 L2 B2 J2 ∧ (cOK G2 B2) ∧ (∀ k, k < 3 → L2 k = L k) ∧ (¬ (sort = 0 ∨ sort = 1) → z = -1))) := by
  refine Ct.ofI (by decide) (Nat.le_of_ble_eq_true rfl) ?_
  intro p e s m args below meth c A Q hX hnm hR
  refine Z.pick (lv' := [(0, .ref (h 0)), (1, .int (zI sort))]) [0, 1] rfl ?_
  obtain ⟨hB, hg0, hg2, hg3, hg5, hg6, hg1, hg4⟩ := id hok
  unfold bl at hg0 hg2 hg3 hg5 hg6
  refine Z.iload_n hX dX6_trace_0 rfl rfl ?_
  refine Z.callS0i (As := [.int (zI sort)]) (rest := []) hX (ct_X6_isSort l D ce sort (by omega)) mc_X6_isSort ml_X6_99 st_X6_isSort ini_X6 nd_X6_isSort ⟨Nat.le_of_ble_eq_true rfl, Nat.le_of_ble_eq_true rfl⟩ ⟨rfl, rfl⟩ ⟨Nat.le_refl _, Nat.le_refl _⟩ rfl (Nat.le_of_ble_eq_true rfl) dX6_trace_1 ?_
  rintro r_1 w1 ⟨z1, hr_, hw_, p1⟩
  subst hr_
  refine ⟨hw_, ?_⟩
  refine Z.if_ne hX 9 dX6_trace_4 (by decide) ⟨by omega, by omega⟩ ?_ ?_
  · intro c2
    rcases (show sort = 0 ∨ sort = 1 by omega) with rfl | rfl
    · skip
      refine Z.aload_n hX dX6_trace_9 rfl rfl ?_
      refine Z.iload_n hX dX6_trace_10 rfl rfl ?_
      refine Z.callVfr (As := [.int (zI 0)]) (rest := []) hX 6 0 rfl rfl (ct_X6_curveOf_l l D ce h pl ar G L B J hok) mc_X6_curveOf ml_X6_102 im_X6_curveOf se_X6_curveOf ini_X6 nd_X6_curveOf ⟨Nat.le_of_ble_eq_true rfl, Nat.le_of_ble_eq_true rfl⟩ ⟨rfl, rfl⟩ ⟨Nat.le_refl _, Nat.le_refl _⟩ rfl (Nat.le_of_ble_eq_true rfl) dX6_trace_11 ?_
      rintro r_3 w1 ⟨Gc, Lc, Bc, Jc, hr_, hw_, cv1, cv2⟩
      subst hr_
      subst hw_
      obtain ⟨dB, dg0, dg2, dg3, dg5, dg6, dg1, dg4⟩ := id cv1
      unfold bl at dg0 dg2 dg3 dg5 dg6
      have dB40 := dB 40 (by decide)
      have dB41 := dB 41 (by decide)
      refine Z.astore_n (lv' := [(2, .ref (h 6)), (0, .ref (h 0)), (1, .int (zI 0))]) hX dX6_trace_14 rfl (by decide) rfl ?_
      refine Z.aload_n hX dX6_trace_15 rfl rfl ?_
      refine Z.getf hX 0 6 3 dX6_trace_16 rfl rfl inX0 (by decide) fl_X6_106 rfl rfl ?_
      refine Z.if_eq hX 32 dX6_trace_19 (by decide) ⟨by omega, by omega⟩ ?_ ?_
      · intro c4
        refine Z.bipush hX dX6_trace_32 (by decide) ?_
        exact hR _ _ _ _ dX6_trace_34 ⟨(-2), Gc, Lc, Bc, Jc, rfl, rfl, cv1, cv2, (fun q => absurd (by decide) q)⟩
      · intro c4
        refine Z.aload_n hX dX6_trace_22 rfl rfl ?_
        refine Z.getf hX 0 6 0 dX6_trace_23 rfl rfl inX0 (by decide) fl_X6_109 rfl rfl ?_
        refine Z.getf hX 3 (24 + 40) 1 dX6_trace_26 (cW_pl (by decide)) rfl inX3 (by decide) fl_X6_113 rfl rfl ?_
        refine Z.goto hX 34 dX6_trace_29 (by decide) ?_
        exact hR _ _ _ _ dX6_trace_34 ⟨(Bc 40), Gc, Lc, Bc, Jc, rfl, rfl, cv1, cv2, (fun q => absurd (by decide) q)⟩
    · skip
      refine Z.aload_n hX dX6_trace_9 rfl rfl ?_
      refine Z.iload_n hX dX6_trace_10 rfl rfl ?_
      refine Z.callVfr (As := [.int (zI 1)]) (rest := []) hX 6 0 rfl rfl (ct_X6_curveOf_e l D ce h pl ar G L B J hok) mc_X6_curveOf ml_X6_102 im_X6_curveOf se_X6_curveOf ini_X6 nd_X6_curveOf ⟨Nat.le_of_ble_eq_true rfl, Nat.le_of_ble_eq_true rfl⟩ ⟨rfl, rfl⟩ ⟨Nat.le_refl _, Nat.le_refl _⟩ rfl (Nat.le_of_ble_eq_true rfl) dX6_trace_11 ?_
      rintro r_5 w1 ⟨Gc, Lc, Bc, Jc, hr_, hw_, cv1, cv2⟩
      subst hr_
      subst hw_
      obtain ⟨dB, dg0, dg2, dg3, dg5, dg6, dg1, dg4⟩ := id cv1
      unfold bl at dg0 dg2 dg3 dg5 dg6
      have dB40 := dB 40 (by decide)
      have dB41 := dB 41 (by decide)
      refine Z.astore_n (lv' := [(2, .ref (h 7)), (0, .ref (h 0)), (1, .int (zI 1))]) hX dX6_trace_14 rfl (by decide) rfl ?_
      refine Z.aload_n hX dX6_trace_15 rfl rfl ?_
      refine Z.getf hX 0 7 3 dX6_trace_16 rfl rfl inX0 (by decide) fl_X6_106 rfl rfl ?_
      refine Z.if_eq hX 32 dX6_trace_19 (by decide) ⟨by omega, by omega⟩ ?_ ?_
      · intro c6
        refine Z.bipush hX dX6_trace_32 (by decide) ?_
        exact hR _ _ _ _ dX6_trace_34 ⟨(-2), Gc, Lc, Bc, Jc, rfl, rfl, cv1, cv2, (fun q => absurd (by decide) q)⟩
      · intro c6
        refine Z.aload_n hX dX6_trace_22 rfl rfl ?_
        refine Z.getf hX 0 7 0 dX6_trace_23 rfl rfl inX0 (by decide) fl_X6_109 rfl rfl ?_
        refine Z.getf hX 3 (24 + 41) 1 dX6_trace_26 (cW_pl (by decide)) rfl inX3 (by decide) fl_X6_113 rfl rfl ?_
        refine Z.goto hX 34 dX6_trace_29 (by decide) ?_
        exact hR _ _ _ _ dX6_trace_34 ⟨(Bc 41), Gc, Lc, Bc, Jc, rfl, rfl, cv1, cv2, (fun q => absurd (by decide) q)⟩
  · intro c2
    refine Z.iconst hX dX6_trace_7 ?_
    exact hR _ _ _ _ dX6_trace_8 ⟨(-1), G, L, B, J, rfl, rfl, hok, (fun _ _ => rfl), (fun _ => rfl)⟩

theorem dX6_times_0 : decode cX6_times 0 = .ok (.iload_n 1, 1) := by decide +kernel
theorem dX6_times_1 : decode cX6_times 1 = .ok (.invokestatic 99, 3) := by decide +kernel
theorem dX6_times_4 : decode cX6_times 4 = .ok (.ifCond .ne 5, 3) := by decide +kernel
theorem dX6_times_7 : decode cX6_times 7 = .ok (.iconst (-1), 1) := by decide +kernel
theorem dX6_times_8 : decode cX6_times 8 = .ok (.ireturn, 1) := by decide +kernel
theorem dX6_times_9 : decode cX6_times 9 = .ok (.aload_n 0, 1) := by decide +kernel
theorem dX6_times_10 : decode cX6_times 10 = .ok (.iload_n 1, 1) := by decide +kernel
theorem dX6_times_11 : decode cX6_times 11 = .ok (.invokevirtual 102, 3) := by decide +kernel
theorem dX6_times_14 : decode cX6_times 14 = .ok (.astore_n 2, 1) := by decide +kernel
theorem dX6_times_15 : decode cX6_times 15 = .ok (.aload_n 2, 1) := by decide +kernel
theorem dX6_times_16 : decode cX6_times 16 = .ok (.getfield 106, 3) := by decide +kernel
theorem dX6_times_19 : decode cX6_times 19 = .ok (.ifCond .eq 10, 3) := by decide +kernel
theorem dX6_times_22 : decode cX6_times 22 = .ok (.aload_n 2, 1) := by decide +kernel
theorem dX6_times_23 : decode cX6_times 23 = .ok (.getfield 119, 3) := by decide +kernel
theorem dX6_times_26 : decode cX6_times 26 = .ok (.goto 5, 3) := by decide +kernel
theorem dX6_times_29 : decode cX6_times 29 = .ok (.bipush (-2), 2) := by decide +kernel
theorem dX6_times_31 : decode cX6_times 31 = .ok (.ireturn, 1) := by decide +kernel
set_option maxHeartbeats 4000000 in
set_option maxRecDepth 100000 in
theorem ct_X6_times (l : Launch) (D : va_G) (ce : Nat → ClassId) (h pl ar : Nat → Nat) (G : Nat → Int) (L : Nat → Nat → Int64) (B : Nat → Int) (J : Nat → Nat → Int64) (sort : Int) (hok : cOK G B) (hs : -2147483648 ≤ sort ∧ sort < 2147483648) : Ct l yX6_times cX6_times 3 (some .int) { frames := 6, cells := 0, slots := 0, locals := 162 } 0 0 D (TY ce) [.ref (h 0), .int (zI sort)] (cW ce h pl ar G L B J) (QI D (TY ce) (fun r w1 => ∃ z : Int, ∃ G2 : Nat → Int, ∃ L2 : Nat → Nat → Int64, ∃ B2 : Nat → Int, ∃ J2 : Nat → Nat → Int64, r = zI z ∧ w1 = cW ce h pl ar G2 L2 B2 J2 ∧ (cOK G2 B2) ∧ (∀ k, k < 3 → L2 k = L k) ∧ (¬ (sort = 0 ∨ sort = 1) → z = -1))) := by
  refine Ct.ofI (by decide) (Nat.le_of_ble_eq_true rfl) ?_
  intro p e s m args below meth c A Q hX hnm hR
  refine Z.pick (lv' := [(0, .ref (h 0)), (1, .int (zI sort))]) [0, 1] rfl ?_
  obtain ⟨hB, hg0, hg2, hg3, hg5, hg6, hg1, hg4⟩ := id hok
  unfold bl at hg0 hg2 hg3 hg5 hg6
  refine Z.iload_n hX dX6_times_0 rfl rfl ?_
  refine Z.callS0i (As := [.int (zI sort)]) (rest := []) hX (ct_X6_isSort l D ce sort (by omega)) mc_X6_isSort ml_X6_99 st_X6_isSort ini_X6 nd_X6_isSort ⟨Nat.le_of_ble_eq_true rfl, Nat.le_of_ble_eq_true rfl⟩ ⟨rfl, rfl⟩ ⟨Nat.le_refl _, Nat.le_refl _⟩ rfl (Nat.le_of_ble_eq_true rfl) dX6_times_1 ?_
  rintro r_1 w1 ⟨z1, hr_, hw_, p1⟩
  subst hr_
  refine ⟨hw_, ?_⟩
  refine Z.if_ne hX 9 dX6_times_4 (by decide) ⟨by omega, by omega⟩ ?_ ?_
  · intro c2
    rcases (show sort = 0 ∨ sort = 1 by omega) with rfl | rfl
    · skip
      refine Z.aload_n hX dX6_times_9 rfl rfl ?_
      refine Z.iload_n hX dX6_times_10 rfl rfl ?_
      refine Z.callVfr (As := [.int (zI 0)]) (rest := []) hX 6 0 rfl rfl (ct_X6_curveOf_l l D ce h pl ar G L B J hok) mc_X6_curveOf ml_X6_102 im_X6_curveOf se_X6_curveOf ini_X6 nd_X6_curveOf ⟨Nat.le_of_ble_eq_true rfl, Nat.le_of_ble_eq_true rfl⟩ ⟨rfl, rfl⟩ ⟨Nat.le_refl _, Nat.le_refl _⟩ rfl (Nat.le_of_ble_eq_true rfl) dX6_times_11 ?_
      rintro r_3 w1 ⟨Gc, Lc, Bc, Jc, hr_, hw_, cv1, cv2⟩
      subst hr_
      subst hw_
      obtain ⟨dB, dg0, dg2, dg3, dg5, dg6, dg1, dg4⟩ := id cv1
      unfold bl at dg0 dg2 dg3 dg5 dg6
      have dB40 := dB 40 (by decide)
      have dB41 := dB 41 (by decide)
      refine Z.astore_n (lv' := [(2, .ref (h 6)), (0, .ref (h 0)), (1, .int (zI 0))]) hX dX6_times_14 rfl (by decide) rfl ?_
      refine Z.aload_n hX dX6_times_15 rfl rfl ?_
      refine Z.getf hX 0 6 3 dX6_times_16 rfl rfl inX0 (by decide) fl_X6_106 rfl rfl ?_
      refine Z.if_eq hX 29 dX6_times_19 (by decide) ⟨by omega, by omega⟩ ?_ ?_
      · intro c4
        refine Z.bipush hX dX6_times_29 (by decide) ?_
        exact hR _ _ _ _ dX6_times_31 ⟨(-2), Gc, Lc, Bc, Jc, rfl, rfl, cv1, cv2, (fun q => absurd (by decide) q)⟩
      · intro c4
        refine Z.aload_n hX dX6_times_22 rfl rfl ?_
        refine Z.getf hX 0 6 1 dX6_times_23 rfl rfl inX0 (by decide) fl_X6_119 rfl rfl ?_
        refine Z.goto hX 31 dX6_times_26 (by decide) ?_
        exact hR _ _ _ _ dX6_times_31 ⟨(Gc 1), Gc, Lc, Bc, Jc, rfl, rfl, cv1, cv2, (fun q => absurd (by decide) q)⟩
    · skip
      refine Z.aload_n hX dX6_times_9 rfl rfl ?_
      refine Z.iload_n hX dX6_times_10 rfl rfl ?_
      refine Z.callVfr (As := [.int (zI 1)]) (rest := []) hX 6 0 rfl rfl (ct_X6_curveOf_e l D ce h pl ar G L B J hok) mc_X6_curveOf ml_X6_102 im_X6_curveOf se_X6_curveOf ini_X6 nd_X6_curveOf ⟨Nat.le_of_ble_eq_true rfl, Nat.le_of_ble_eq_true rfl⟩ ⟨rfl, rfl⟩ ⟨Nat.le_refl _, Nat.le_refl _⟩ rfl (Nat.le_of_ble_eq_true rfl) dX6_times_11 ?_
      rintro r_5 w1 ⟨Gc, Lc, Bc, Jc, hr_, hw_, cv1, cv2⟩
      subst hr_
      subst hw_
      obtain ⟨dB, dg0, dg2, dg3, dg5, dg6, dg1, dg4⟩ := id cv1
      unfold bl at dg0 dg2 dg3 dg5 dg6
      have dB40 := dB 40 (by decide)
      have dB41 := dB 41 (by decide)
      refine Z.astore_n (lv' := [(2, .ref (h 7)), (0, .ref (h 0)), (1, .int (zI 1))]) hX dX6_times_14 rfl (by decide) rfl ?_
      refine Z.aload_n hX dX6_times_15 rfl rfl ?_
      refine Z.getf hX 0 7 3 dX6_times_16 rfl rfl inX0 (by decide) fl_X6_106 rfl rfl ?_
      refine Z.if_eq hX 29 dX6_times_19 (by decide) ⟨by omega, by omega⟩ ?_ ?_
      · intro c6
        refine Z.bipush hX dX6_times_29 (by decide) ?_
        exact hR _ _ _ _ dX6_times_31 ⟨(-2), Gc, Lc, Bc, Jc, rfl, rfl, cv1, cv2, (fun q => absurd (by decide) q)⟩
      · intro c6
        refine Z.aload_n hX dX6_times_22 rfl rfl ?_
        refine Z.getf hX 0 7 1 dX6_times_23 rfl rfl inX0 (by decide) fl_X6_119 rfl rfl ?_
        refine Z.goto hX 31 dX6_times_26 (by decide) ?_
        exact hR _ _ _ _ dX6_times_31 ⟨(Gc 4), Gc, Lc, Bc, Jc, rfl, rfl, cv1, cv2, (fun q => absurd (by decide) q)⟩
  · intro c2
    refine Z.iconst hX dX6_times_7 ?_
    exact hR _ _ _ _ dX6_times_8 ⟨(-1), G, L, B, J, rfl, rfl, hok, (fun _ _ => rfl), (fun _ => rfl)⟩

theorem dX6_coefficient_0 : decode cX6_coefficient 0 = .ok (.iload_n 1, 1) := by decide +kernel
theorem dX6_coefficient_1 : decode cX6_coefficient 1 = .ok (.invokestatic 99, 3) := by decide +kernel
theorem dX6_coefficient_4 : decode cX6_coefficient 4 = .ok (.ifCond .eq 23, 3) := by decide +kernel
theorem dX6_coefficient_7 : decode cX6_coefficient 7 = .ok (.iload_n 2, 1) := by decide +kernel
theorem dX6_coefficient_8 : decode cX6_coefficient 8 = .ok (.ifCond .lt 19, 3) := by decide +kernel
theorem dX6_coefficient_11 : decode cX6_coefficient 11 = .ok (.iload_n 2, 1) := by decide +kernel
theorem dX6_coefficient_12 : decode cX6_coefficient 12 = .ok (.bipush 6, 2) := by decide +kernel
theorem dX6_coefficient_14 : decode cX6_coefficient 14 = .ok (.if_icmp .gt 13, 3) := by decide +kernel
theorem dX6_coefficient_17 : decode cX6_coefficient 17 = .ok (.iload_n 3, 1) := by decide +kernel
theorem dX6_coefficient_18 : decode cX6_coefficient 18 = .ok (.ifCond .lt 9, 3) := by decide +kernel
theorem dX6_coefficient_21 : decode cX6_coefficient 21 = .ok (.iload_n 3, 1) := by decide +kernel
theorem dX6_coefficient_22 : decode cX6_coefficient 22 = .ok (.bipush 6, 2) := by decide +kernel
theorem dX6_coefficient_24 : decode cX6_coefficient 24 = .ok (.if_icmp .le 5, 3) := by decide +kernel
theorem dX6_coefficient_27 : decode cX6_coefficient 27 = .ok (.lconst 0, 1) := by decide +kernel
theorem dX6_coefficient_28 : decode cX6_coefficient 28 = .ok (.lreturn, 1) := by decide +kernel
theorem dX6_coefficient_29 : decode cX6_coefficient 29 = .ok (.aload_n 0, 1) := by decide +kernel
theorem dX6_coefficient_30 : decode cX6_coefficient 30 = .ok (.iload_n 1, 1) := by decide +kernel
theorem dX6_coefficient_31 : decode cX6_coefficient 31 = .ok (.invokevirtual 102, 3) := by decide +kernel
theorem dX6_coefficient_34 : decode cX6_coefficient 34 = .ok (.astore 4, 2) := by decide +kernel
theorem dX6_coefficient_36 : decode cX6_coefficient 36 = .ok (.aload 4, 2) := by decide +kernel
theorem dX6_coefficient_38 : decode cX6_coefficient 38 = .ok (.getfield 106, 3) := by decide +kernel
theorem dX6_coefficient_41 : decode cX6_coefficient 41 = .ok (.ifCond .eq 30, 3) := by decide +kernel
theorem dX6_coefficient_44 : decode cX6_coefficient 44 = .ok (.iload_n 2, 1) := by decide +kernel
theorem dX6_coefficient_45 : decode cX6_coefficient 45 = .ok (.iload_n 3, 1) := by decide +kernel
theorem dX6_coefficient_46 : decode cX6_coefficient 46 = .ok (.iadd, 1) := by decide +kernel
theorem dX6_coefficient_47 : decode cX6_coefficient 47 = .ok (.bipush 6, 2) := by decide +kernel
theorem dX6_coefficient_49 : decode cX6_coefficient 49 = .ok (.if_icmp .gt 22, 3) := by decide +kernel
theorem dX6_coefficient_52 : decode cX6_coefficient 52 = .ok (.aload 4, 2) := by decide +kernel
theorem dX6_coefficient_54 : decode cX6_coefficient 54 = .ok (.getfield 109, 3) := by decide +kernel
theorem dX6_coefficient_57 : decode cX6_coefficient 57 = .ok (.getfield 122, 3) := by decide +kernel
theorem dX6_coefficient_60 : decode cX6_coefficient 60 = .ok (.iload_n 2, 1) := by decide +kernel
theorem dX6_coefficient_61 : decode cX6_coefficient 61 = .ok (.iload_n 3, 1) := by decide +kernel
theorem dX6_coefficient_62 : decode cX6_coefficient 62 = .ok (.iadd, 1) := by decide +kernel
theorem dX6_coefficient_63 : decode cX6_coefficient 63 = .ok (.iload_n 3, 1) := by decide +kernel
theorem dX6_coefficient_64 : decode cX6_coefficient 64 = .ok (.invokestatic 125, 3) := by decide +kernel
theorem dX6_coefficient_67 : decode cX6_coefficient 67 = .ok (.laload, 1) := by decide +kernel
theorem dX6_coefficient_68 : decode cX6_coefficient 68 = .ok (.goto 4, 3) := by decide +kernel
theorem dX6_coefficient_71 : decode cX6_coefficient 71 = .ok (.lconst 0, 1) := by decide +kernel
theorem dX6_coefficient_72 : decode cX6_coefficient 72 = .ok (.lreturn, 1) := by decide +kernel
set_option maxHeartbeats 4000000 in
set_option maxRecDepth 100000 in
theorem ct_X6_coefficient (l : Launch) (D : va_G) (ce : Nat → ClassId) (h pl ar : Nat → Nat) (G : Nat → Int) (L : Nat → Nat → Int64) (B : Nat → Int) (J : Nat → Nat → Int64) (sort i j : Int) (hok : cOK G B) (hs : -2147483648 ≤ sort ∧ sort < 2147483648) (hi : -2147483648 ≤ i ∧ i < 2147483648) (hj : -2147483648 ≤ j ∧ j < 2147483648) : Ct l yX6_coefficient cX6_coefficient 5 (some .long) { frames := 6, cells := 0, slots := 0, locals := 162 } 0 0 D (TY ce) [.ref (h 0), .int (zI sort), .int (zI i), .int (zI j)] (cW ce h pl ar G L B J) (QL D (TY ce) (fun r w1 => ∃ r0 : Int64, ∃ G2 : Nat → Int, ∃ L2 : Nat → Nat → Int64, ∃ B2 : Nat → Int, ∃ J2 : Nat → Nat → Int64, r = r0 ∧ w1 = cW ce h pl ar G2 L2 B2 J2 ∧ (cOK G2 B2) ∧ (∀ k, k < 3 → L2 k = L k) ∧ (¬ ((sort = 0 ∨ sort = 1) ∧ 0 ≤ i ∧ i ≤ 6 ∧ 0 ≤ j ∧ j ≤ 6) → r0 = 0))) := by
  refine Ct.ofL (by decide) (Nat.le_of_ble_eq_true rfl) ?_
  intro p e s m args below meth c A Q hX hnm hR
  refine Z.pick (lv' := [(0, .ref (h 0)), (1, .int (zI sort)), (2, .int (zI i)), (3, .int (zI j))]) [0, 1, 2, 3] rfl ?_
  obtain ⟨hB, hg0, hg2, hg3, hg5, hg6, hg1, hg4⟩ := id hok
  unfold bl at hg0 hg2 hg3 hg5 hg6
  refine Z.iload_n hX dX6_coefficient_0 rfl rfl ?_
  refine Z.callS0i (As := [.int (zI sort)]) (rest := []) hX (ct_X6_isSort l D ce sort (by omega)) mc_X6_isSort ml_X6_99 st_X6_isSort ini_X6 nd_X6_isSort ⟨Nat.le_of_ble_eq_true rfl, Nat.le_of_ble_eq_true rfl⟩ ⟨rfl, rfl⟩ ⟨Nat.le_refl _, Nat.le_refl _⟩ rfl (Nat.le_of_ble_eq_true rfl) dX6_coefficient_1 ?_
  rintro r_1 w1 ⟨z1, hr_, hw_, p1⟩
  subst hr_
  refine ⟨hw_, ?_⟩
  refine Z.if_eq hX 27 dX6_coefficient_4 (by decide) ⟨by omega, by omega⟩ ?_ ?_
  · intro c2
    refine Z.lconst (v := 0) hX dX6_coefficient_27 rfl ?_
    exact hR _ _ _ _ dX6_coefficient_28 ⟨0, G, L, B, J, rfl, rfl, hok, (fun _ _ => rfl), (fun _ => rfl)⟩
  · intro c2
    refine Z.iload_n hX dX6_coefficient_7 rfl rfl ?_
    refine Z.if_lt hX 27 dX6_coefficient_8 (by decide) ⟨by omega, by omega⟩ ?_ ?_
    · intro c3
      refine Z.lconst (v := 0) hX dX6_coefficient_27 rfl ?_
      exact hR _ _ _ _ dX6_coefficient_28 ⟨0, G, L, B, J, rfl, rfl, hok, (fun _ _ => rfl), (fun _ => rfl)⟩
    · intro c3
      refine Z.iload_n hX dX6_coefficient_11 rfl rfl ?_
      refine Z.bipush hX dX6_coefficient_12 (by decide) ?_
      refine Z.icmp_gt hX 27 dX6_coefficient_14 (by decide) ⟨by omega, by omega⟩ ⟨by omega, by omega⟩ ?_ ?_
      · intro c4
        refine Z.lconst (v := 0) hX dX6_coefficient_27 rfl ?_
        exact hR _ _ _ _ dX6_coefficient_28 ⟨0, G, L, B, J, rfl, rfl, hok, (fun _ _ => rfl), (fun _ => rfl)⟩
      · intro c4
        refine Z.iload_n hX dX6_coefficient_17 rfl rfl ?_
        refine Z.if_lt hX 27 dX6_coefficient_18 (by decide) ⟨by omega, by omega⟩ ?_ ?_
        · intro c5
          refine Z.lconst (v := 0) hX dX6_coefficient_27 rfl ?_
          exact hR _ _ _ _ dX6_coefficient_28 ⟨0, G, L, B, J, rfl, rfl, hok, (fun _ _ => rfl), (fun _ => rfl)⟩
        · intro c5
          refine Z.iload_n hX dX6_coefficient_21 rfl rfl ?_
          refine Z.bipush hX dX6_coefficient_22 (by decide) ?_
          refine Z.icmp_le hX 29 dX6_coefficient_24 (by decide) ⟨by omega, by omega⟩ ⟨by omega, by omega⟩ ?_ ?_
          · intro c6
            rcases (show sort = 0 ∨ sort = 1 by omega) with rfl | rfl
            · skip
              refine Z.aload_n hX dX6_coefficient_29 rfl rfl ?_
              refine Z.iload_n hX dX6_coefficient_30 rfl rfl ?_
              refine Z.callVfr (As := [.int (zI 0)]) (rest := []) hX 6 0 rfl rfl (ct_X6_curveOf_l l D ce h pl ar G L B J hok) mc_X6_curveOf ml_X6_102 im_X6_curveOf se_X6_curveOf ini_X6 nd_X6_curveOf ⟨Nat.le_of_ble_eq_true rfl, Nat.le_of_ble_eq_true rfl⟩ ⟨rfl, rfl⟩ ⟨Nat.le_refl _, Nat.le_refl _⟩ rfl (Nat.le_of_ble_eq_true rfl) dX6_coefficient_31 ?_
              rintro r_7 w1 ⟨Gc, Lc, Bc, Jc, hr_, hw_, cv1, cv2⟩
              subst hr_
              subst hw_
              obtain ⟨dB, dg0, dg2, dg3, dg5, dg6, dg1, dg4⟩ := id cv1
              unfold bl at dg0 dg2 dg3 dg5 dg6
              refine Z.astore (lv' := [(4, .ref (h 6)), (0, .ref (h 0)), (1, .int (zI 0)), (2, .int (zI i)), (3, .int (zI j))]) hX dX6_coefficient_34 (by decide) rfl ?_
              refine Z.aload hX dX6_coefficient_36 rfl ?_
              refine Z.getf hX 0 6 3 dX6_coefficient_38 rfl rfl inX0 (by decide) fl_X6_106 rfl rfl ?_
              refine Z.if_eq hX 71 dX6_coefficient_41 (by decide) ⟨by omega, by omega⟩ ?_ ?_
              · intro c8
                refine Z.lconst (v := 0) hX dX6_coefficient_71 rfl ?_
                exact hR _ _ _ _ dX6_coefficient_72 ⟨0, Gc, Lc, Bc, Jc, rfl, rfl, cv1, cv2, (fun q => absurd (by omega) q)⟩
              · intro c8
                refine Z.iload_n hX dX6_coefficient_44 rfl rfl ?_
                refine Z.iload_n hX dX6_coefficient_45 rfl rfl ?_
                refine Z.iadd hX dX6_coefficient_46 ?_
                refine Z.bipush hX dX6_coefficient_47 (by decide) ?_
                refine Z.icmp_gt hX 71 dX6_coefficient_49 (by decide) ⟨by omega, by omega⟩ ⟨by omega, by omega⟩ ?_ ?_
                · intro c9
                  refine Z.lconst (v := 0) hX dX6_coefficient_71 rfl ?_
                  exact hR _ _ _ _ dX6_coefficient_72 ⟨0, Gc, Lc, Bc, Jc, rfl, rfl, cv1, cv2, (fun q => absurd (by omega) q)⟩
                · intro c9
                  refine Z.aload hX dX6_coefficient_52 rfl ?_
                  refine Z.getf hX 0 6 0 dX6_coefficient_54 rfl rfl inX0 (by decide) fl_X6_109 rfl rfl ?_
                  refine Z.getf hX 3 (24 + 40) 0 dX6_coefficient_57 (cW_pl (by decide)) rfl inX3 (by decide) fl_X6_122 rfl rfl ?_
                  refine Z.iload_n hX dX6_coefficient_60 rfl rfl ?_
                  refine Z.iload_n hX dX6_coefficient_61 rfl rfl ?_
                  refine Z.iadd hX dX6_coefficient_62 ?_
                  refine Z.iload_n hX dX6_coefficient_63 rfl rfl ?_
                  refine Z.callS0i (As := [.int (zI (i + j)), .int (zI j)]) (rest := [.ref (ar 40)]) hX (ct_X6_slotOf l D ce (i + j) j (by omega) (by omega)) mc_X6_slotOf ml_X6_125 st_X6_slotOf ini_X6 nd_X6_slotOf ⟨Nat.le_of_ble_eq_true rfl, Nat.le_of_ble_eq_true rfl⟩ ⟨rfl, rfl⟩ ⟨Nat.le_refl _, Nat.le_refl _⟩ rfl (Nat.le_of_ble_eq_true rfl) dX6_coefficient_64 ?_
                  rintro r_10 w1 ⟨z11, hr_, hw_, hq12, hq13⟩
                  subst hr_
                  refine ⟨hw_, ?_⟩
                  refine Z.laload hX (66 + 40) 1 dX6_coefficient_67 (cW_ar (by decide)) rfl (by omega) (by omega) (by decide) ?_
                  refine Z.goto hX 72 dX6_coefficient_68 (by decide) ?_
                  exact hR _ _ _ _ dX6_coefficient_72 ⟨(Jc 40 (z11 : Int).toNat), Gc, Lc, Bc, Jc, rfl, rfl, cv1, cv2, (fun q => absurd (by omega) q)⟩
            · skip
              refine Z.aload_n hX dX6_coefficient_29 rfl rfl ?_
              refine Z.iload_n hX dX6_coefficient_30 rfl rfl ?_
              refine Z.callVfr (As := [.int (zI 1)]) (rest := []) hX 6 0 rfl rfl (ct_X6_curveOf_e l D ce h pl ar G L B J hok) mc_X6_curveOf ml_X6_102 im_X6_curveOf se_X6_curveOf ini_X6 nd_X6_curveOf ⟨Nat.le_of_ble_eq_true rfl, Nat.le_of_ble_eq_true rfl⟩ ⟨rfl, rfl⟩ ⟨Nat.le_refl _, Nat.le_refl _⟩ rfl (Nat.le_of_ble_eq_true rfl) dX6_coefficient_31 ?_
              rintro r_14 w1 ⟨Gc, Lc, Bc, Jc, hr_, hw_, cv1, cv2⟩
              subst hr_
              subst hw_
              obtain ⟨dB, dg0, dg2, dg3, dg5, dg6, dg1, dg4⟩ := id cv1
              unfold bl at dg0 dg2 dg3 dg5 dg6
              refine Z.astore (lv' := [(4, .ref (h 7)), (0, .ref (h 0)), (1, .int (zI 1)), (2, .int (zI i)), (3, .int (zI j))]) hX dX6_coefficient_34 (by decide) rfl ?_
              refine Z.aload hX dX6_coefficient_36 rfl ?_
              refine Z.getf hX 0 7 3 dX6_coefficient_38 rfl rfl inX0 (by decide) fl_X6_106 rfl rfl ?_
              refine Z.if_eq hX 71 dX6_coefficient_41 (by decide) ⟨by omega, by omega⟩ ?_ ?_
              · intro c15
                refine Z.lconst (v := 0) hX dX6_coefficient_71 rfl ?_
                exact hR _ _ _ _ dX6_coefficient_72 ⟨0, Gc, Lc, Bc, Jc, rfl, rfl, cv1, cv2, (fun q => absurd (by omega) q)⟩
              · intro c15
                refine Z.iload_n hX dX6_coefficient_44 rfl rfl ?_
                refine Z.iload_n hX dX6_coefficient_45 rfl rfl ?_
                refine Z.iadd hX dX6_coefficient_46 ?_
                refine Z.bipush hX dX6_coefficient_47 (by decide) ?_
                refine Z.icmp_gt hX 71 dX6_coefficient_49 (by decide) ⟨by omega, by omega⟩ ⟨by omega, by omega⟩ ?_ ?_
                · intro c16
                  refine Z.lconst (v := 0) hX dX6_coefficient_71 rfl ?_
                  exact hR _ _ _ _ dX6_coefficient_72 ⟨0, Gc, Lc, Bc, Jc, rfl, rfl, cv1, cv2, (fun q => absurd (by omega) q)⟩
                · intro c16
                  refine Z.aload hX dX6_coefficient_52 rfl ?_
                  refine Z.getf hX 0 7 0 dX6_coefficient_54 rfl rfl inX0 (by decide) fl_X6_109 rfl rfl ?_
                  refine Z.getf hX 3 (24 + 41) 0 dX6_coefficient_57 (cW_pl (by decide)) rfl inX3 (by decide) fl_X6_122 rfl rfl ?_
                  refine Z.iload_n hX dX6_coefficient_60 rfl rfl ?_
                  refine Z.iload_n hX dX6_coefficient_61 rfl rfl ?_
                  refine Z.iadd hX dX6_coefficient_62 ?_
                  refine Z.iload_n hX dX6_coefficient_63 rfl rfl ?_
                  refine Z.callS0i (As := [.int (zI (i + j)), .int (zI j)]) (rest := [.ref (ar 41)]) hX (ct_X6_slotOf l D ce (i + j) j (by omega) (by omega)) mc_X6_slotOf ml_X6_125 st_X6_slotOf ini_X6 nd_X6_slotOf ⟨Nat.le_of_ble_eq_true rfl, Nat.le_of_ble_eq_true rfl⟩ ⟨rfl, rfl⟩ ⟨Nat.le_refl _, Nat.le_refl _⟩ rfl (Nat.le_of_ble_eq_true rfl) dX6_coefficient_64 ?_
                  rintro r_17 w1 ⟨z18, hr_, hw_, hq19, hq20⟩
                  subst hr_
                  refine ⟨hw_, ?_⟩
                  refine Z.laload hX (66 + 41) 1 dX6_coefficient_67 (cW_ar (by decide)) rfl (by omega) (by omega) (by decide) ?_
                  refine Z.goto hX 72 dX6_coefficient_68 (by decide) ?_
                  exact hR _ _ _ _ dX6_coefficient_72 ⟨(Jc 41 (z18 : Int).toNat), Gc, Lc, Bc, Jc, rfl, rfl, cv1, cv2, (fun q => absurd (by omega) q)⟩
          · intro c6
            refine Z.lconst (v := 0) hX dX6_coefficient_27 rfl ?_
            exact hR _ _ _ _ dX6_coefficient_28 ⟨0, G, L, B, J, rfl, rfl, hok, (fun _ _ => rfl), (fun _ => rfl)⟩

theorem dX6_side_0 : decode cX6_side 0 = .ok (.iload_n 1, 1) := by decide +kernel
theorem dX6_side_1 : decode cX6_side 1 = .ok (.invokestatic 99, 3) := by decide +kernel
theorem dX6_side_4 : decode cX6_side 4 = .ok (.ifCond .eq 13, 3) := by decide +kernel
theorem dX6_side_7 : decode cX6_side 7 = .ok (.iload_n 2, 1) := by decide +kernel
theorem dX6_side_8 : decode cX6_side 8 = .ok (.iload_n 3, 1) := by decide +kernel
theorem dX6_side_9 : decode cX6_side 9 = .ok (.iload 4, 2) := by decide +kernel
theorem dX6_side_11 : decode cX6_side 11 = .ok (.invokestatic 129, 3) := by decide +kernel
theorem dX6_side_14 : decode cX6_side 14 = .ok (.ifCond .ne 6, 3) := by decide +kernel
theorem dX6_side_17 : decode cX6_side 17 = .ok (.bipush (-9), 2) := by decide +kernel
theorem dX6_side_19 : decode cX6_side 19 = .ok (.ireturn, 1) := by decide +kernel
theorem dX6_side_20 : decode cX6_side 20 = .ok (.aload_n 0, 1) := by decide +kernel
theorem dX6_side_21 : decode cX6_side 21 = .ok (.iload_n 1, 1) := by decide +kernel
theorem dX6_side_22 : decode cX6_side 22 = .ok (.invokevirtual 102, 3) := by decide +kernel
theorem dX6_side_25 : decode cX6_side 25 = .ok (.astore 5, 2) := by decide +kernel
theorem dX6_side_27 : decode cX6_side 27 = .ok (.aload 5, 2) := by decide +kernel
theorem dX6_side_29 : decode cX6_side 29 = .ok (.getfield 106, 3) := by decide +kernel
theorem dX6_side_32 : decode cX6_side 32 = .ok (.ifCond .ne 6, 3) := by decide +kernel
theorem dX6_side_35 : decode cX6_side 35 = .ok (.bipush (-8), 2) := by decide +kernel
theorem dX6_side_37 : decode cX6_side 37 = .ok (.ireturn, 1) := by decide +kernel
theorem dX6_side_38 : decode cX6_side 38 = .ok (.aload 5, 2) := by decide +kernel
theorem dX6_side_40 : decode cX6_side 40 = .ok (.getfield 109, 3) := by decide +kernel
theorem dX6_side_43 : decode cX6_side 43 = .ok (.iload_n 2, 1) := by decide +kernel
theorem dX6_side_44 : decode cX6_side 44 = .ok (.i2l, 1) := by decide +kernel
theorem dX6_side_45 : decode cX6_side 45 = .ok (.iload_n 3, 1) := by decide +kernel
theorem dX6_side_46 : decode cX6_side 46 = .ok (.i2l, 1) := by decide +kernel
theorem dX6_side_47 : decode cX6_side 47 = .ok (.iload 4, 2) := by decide +kernel
theorem dX6_side_49 : decode cX6_side 49 = .ok (.i2l, 1) := by decide +kernel
theorem dX6_side_50 : decode cX6_side 50 = .ok (.invokevirtual 133, 3) := by decide +kernel
theorem dX6_side_53 : decode cX6_side 53 = .ok (.lstore 6, 2) := by decide +kernel
theorem dX6_side_55 : decode cX6_side 55 = .ok (.lload 6, 2) := by decide +kernel
theorem dX6_side_57 : decode cX6_side 57 = .ok (.lconst 0, 1) := by decide +kernel
theorem dX6_side_58 : decode cX6_side 58 = .ok (.lcmp, 1) := by decide +kernel
theorem dX6_side_59 : decode cX6_side 59 = .ok (.ifCond .ge 7, 3) := by decide +kernel
theorem dX6_side_62 : decode cX6_side 62 = .ok (.iconst (-1), 1) := by decide +kernel
theorem dX6_side_63 : decode cX6_side 63 = .ok (.goto 15, 3) := by decide +kernel
theorem dX6_side_66 : decode cX6_side 66 = .ok (.lload 6, 2) := by decide +kernel
theorem dX6_side_68 : decode cX6_side 68 = .ok (.lconst 0, 1) := by decide +kernel
theorem dX6_side_69 : decode cX6_side 69 = .ok (.lcmp, 1) := by decide +kernel
theorem dX6_side_70 : decode cX6_side 70 = .ok (.ifCond .le 7, 3) := by decide +kernel
theorem dX6_side_73 : decode cX6_side 73 = .ok (.iconst 1, 1) := by decide +kernel
theorem dX6_side_74 : decode cX6_side 74 = .ok (.goto 4, 3) := by decide +kernel
theorem dX6_side_77 : decode cX6_side 77 = .ok (.iconst 0, 1) := by decide +kernel
theorem dX6_side_78 : decode cX6_side 78 = .ok (.ireturn, 1) := by decide +kernel
set_option maxHeartbeats 4000000 in
set_option maxRecDepth 100000 in
theorem ct_X6_side (l : Launch) (D : va_G) (ce : Nat → ClassId) (h pl ar : Nat → Nat) (G : Nat → Int) (L : Nat → Nat → Int64) (B : Nat → Int) (J : Nat → Nat → Int64) (sort pp qq ss : Int) (hok : cOK G B) (hs : -2147483648 ≤ sort ∧ sort < 2147483648) (hp : -2147483648 ≤ pp ∧ pp < 2147483648) (hq : -2147483648 ≤ qq ∧ qq < 2147483648) (hss : -2147483648 ≤ ss ∧ ss < 2147483648) : Ct l yX6_side cX6_side 8 (some .int) { frames := 6, cells := 0, slots := 0, locals := 162 } 0 0 D (TY ce) [.ref (h 0), .int (zI sort), .int (zI pp), .int (zI qq), .int (zI ss)] (cW ce h pl ar G L B J) (QI D (TY ce) (fun r w1 => ∃ z : Int, ∃ G2 : Nat → Int, ∃ L2 : Nat → Nat → Int64, ∃ B2 : Nat → Int, ∃ J2 : Nat → Nat → Int64, r = zI z ∧ w1 = cW ce h pl ar G2 L2 B2 J2 ∧ (cOK G2 B2) ∧ (∀ k, k < 3 → L2 k = L k) ∧ (¬ ((sort = 0 ∨ sort = 1) ∧ (-20 ≤ pp ∧ pp ≤ 20 ∧ -20 ≤ qq ∧ qq ≤ 20 ∧ 1 ≤ ss ∧ ss ≤ 9)) → z = -9))) := by
  refine Ct.ofI (by decide) (Nat.le_of_ble_eq_true rfl) ?_
  intro p e s m args below meth c A Q hX hnm hR
  refine Z.pick (lv' := [(0, .ref (h 0)), (1, .int (zI sort)), (2, .int (zI pp)), (3, .int (zI qq)), (4, .int (zI ss))]) [0, 1, 2, 3, 4] rfl ?_
  obtain ⟨hB, hg0, hg2, hg3, hg5, hg6, hg1, hg4⟩ := id hok
  unfold bl at hg0 hg2 hg3 hg5 hg6
  refine Z.iload_n hX dX6_side_0 rfl rfl ?_
  refine Z.callS0i (As := [.int (zI sort)]) (rest := []) hX (ct_X6_isSort l D ce sort (by omega)) mc_X6_isSort ml_X6_99 st_X6_isSort ini_X6 nd_X6_isSort ⟨Nat.le_of_ble_eq_true rfl, Nat.le_of_ble_eq_true rfl⟩ ⟨rfl, rfl⟩ ⟨Nat.le_refl _, Nat.le_refl _⟩ rfl (Nat.le_of_ble_eq_true rfl) dX6_side_1 ?_
  rintro r_1 w1 ⟨z1, hr_, hw_, p1⟩
  subst hr_
  refine ⟨hw_, ?_⟩
  refine Z.if_eq hX 17 dX6_side_4 (by decide) ⟨by omega, by omega⟩ ?_ ?_
  · intro c2
    refine Z.bipush hX dX6_side_17 (by decide) ?_
    exact hR _ _ _ _ dX6_side_19 ⟨(-9), G, L, B, J, rfl, rfl, hok, (fun _ _ => rfl), (fun _ => rfl)⟩
  · intro c2
    refine Z.iload_n hX dX6_side_7 rfl rfl ?_
    refine Z.iload_n hX dX6_side_8 rfl rfl ?_
    refine Z.iload hX dX6_side_9 rfl ?_
    refine Z.callS0i (As := [.int (zI pp), .int (zI qq), .int (zI ss)]) (rest := []) hX (ct_X6_isPlace l D ce pp qq ss (by omega) (by omega) (by omega)) mc_X6_isPlace ml_X6_129 st_X6_isPlace ini_X6 nd_X6_isPlace ⟨Nat.le_of_ble_eq_true rfl, Nat.le_of_ble_eq_true rfl⟩ ⟨rfl, rfl⟩ ⟨Nat.le_refl _, Nat.le_refl _⟩ rfl (Nat.le_of_ble_eq_true rfl) dX6_side_11 ?_
    rintro r_3 w1 ⟨z2, hr_, hw_, p2⟩
    subst hr_
    refine ⟨hw_, ?_⟩
    refine Z.if_ne hX 20 dX6_side_14 (by decide) ⟨by omega, by omega⟩ ?_ ?_
    · intro c4
      rcases (show sort = 0 ∨ sort = 1 by omega) with rfl | rfl
      · skip
        refine Z.aload_n hX dX6_side_20 rfl rfl ?_
        refine Z.iload_n hX dX6_side_21 rfl rfl ?_
        refine Z.callVfr (As := [.int (zI 0)]) (rest := []) hX 6 0 rfl rfl (ct_X6_curveOf_l l D ce h pl ar G L B J hok) mc_X6_curveOf ml_X6_102 im_X6_curveOf se_X6_curveOf ini_X6 nd_X6_curveOf ⟨Nat.le_of_ble_eq_true rfl, Nat.le_of_ble_eq_true rfl⟩ ⟨rfl, rfl⟩ ⟨Nat.le_refl _, Nat.le_refl _⟩ rfl (Nat.le_of_ble_eq_true rfl) dX6_side_22 ?_
        rintro r_5 w1 ⟨Gc, Lc, Bc, Jc, hr_, hw_, cv1, cv2⟩
        subst hr_
        subst hw_
        obtain ⟨dB, dg0, dg2, dg3, dg5, dg6, dg1, dg4⟩ := id cv1
        unfold bl at dg0 dg2 dg3 dg5 dg6
        refine Z.astore (lv' := [(5, .ref (h 6)), (0, .ref (h 0)), (1, .int (zI 0)), (2, .int (zI pp)), (3, .int (zI qq)), (4, .int (zI ss))]) hX dX6_side_25 (by decide) rfl ?_
        refine Z.aload hX dX6_side_27 rfl ?_
        refine Z.getf hX 0 6 3 dX6_side_29 rfl rfl inX0 (by decide) fl_X6_106 rfl rfl ?_
        refine Z.if_ne hX 38 dX6_side_32 (by decide) ⟨by omega, by omega⟩ ?_ ?_
        · intro c6
          refine Z.aload hX dX6_side_38 rfl ?_
          refine Z.getf hX 0 6 0 dX6_side_40 rfl rfl inX0 (by decide) fl_X6_109 rfl rfl ?_
          refine Z.iload_n hX dX6_side_43 rfl rfl ?_
          refine Z.i2l hX dX6_side_44 ⟨by omega, by omega⟩ ?_
          refine Z.iload_n hX dX6_side_45 rfl rfl ?_
          refine Z.i2l hX dX6_side_46 ⟨by omega, by omega⟩ ?_
          refine Z.iload hX dX6_side_47 rfl ?_
          refine Z.i2l hX dX6_side_49 ⟨by omega, by omega⟩ ?_
          refine Z.callVfl (As := [.long (zL pp), .long (zL qq), .long (zL ss)]) (rest := []) hX 3 (24 + 40) rfl (cW_pl (by decide)) (ct_X3_scaledValue l D ce h pl ar Gc Lc Bc Jc 40 (zL pp) (zL qq) (zL ss) (by decide) dB) mc_X3_scaledValue ml_X6_133 im_X3_scaledValue se_X3_scaledValue ini_X3 nd_X3_scaledValue ⟨Nat.le_of_ble_eq_true rfl, Nat.le_of_ble_eq_true rfl⟩ ⟨rfl, rfl⟩ ⟨Nat.le_refl _, Nat.le_refl _⟩ rfl (Nat.le_of_ble_eq_true rfl) dX6_side_50 ?_
          rintro r_7 w1 ⟨r08, hr_, hw_⟩
          subst hr_
          subst hw_
          refine Z.lstore (lv' := [(6, .long r_7), (5, .ref (h 6)), (0, .ref (h 0)), (1, .int (zI 0)), (2, .int (zI pp)), (3, .int (zI qq)), (4, .int (zI ss))]) hX dX6_side_53 (by decide) rfl ?_
          refine Z.lload hX dX6_side_55 rfl ?_
          refine Z.lconst (v := 0) hX dX6_side_57 rfl ?_
          refine Z.lcmp_ge hX 66 dX6_side_58 dX6_side_59 (by decide) ?_ ?_
          · intro c9
            refine Z.lload hX dX6_side_66 rfl ?_
            refine Z.lconst (v := 0) hX dX6_side_68 rfl ?_
            refine Z.lcmp_le hX 77 dX6_side_69 dX6_side_70 (by decide) ?_ ?_
            · intro c10
              refine Z.iconst hX dX6_side_77 ?_
              exact hR _ _ _ _ dX6_side_78 ⟨0, Gc, Lc, Bc, Jc, rfl, rfl, cv1, cv2, (fun q => absurd (by omega) q)⟩
            · intro c10
              refine Z.iconst hX dX6_side_73 ?_
              refine Z.goto hX 78 dX6_side_74 (by decide) ?_
              exact hR _ _ _ _ dX6_side_78 ⟨1, Gc, Lc, Bc, Jc, rfl, rfl, cv1, cv2, (fun q => absurd (by omega) q)⟩
          · intro c9
            refine Z.iconst hX dX6_side_62 ?_
            refine Z.goto hX 78 dX6_side_63 (by decide) ?_
            exact hR _ _ _ _ dX6_side_78 ⟨(-1), Gc, Lc, Bc, Jc, rfl, rfl, cv1, cv2, (fun q => absurd (by omega) q)⟩
        · intro c6
          refine Z.bipush hX dX6_side_35 (by decide) ?_
          exact hR _ _ _ _ dX6_side_37 ⟨(-8), Gc, Lc, Bc, Jc, rfl, rfl, cv1, cv2, (fun q => absurd (by omega) q)⟩
      · skip
        refine Z.aload_n hX dX6_side_20 rfl rfl ?_
        refine Z.iload_n hX dX6_side_21 rfl rfl ?_
        refine Z.callVfr (As := [.int (zI 1)]) (rest := []) hX 6 0 rfl rfl (ct_X6_curveOf_e l D ce h pl ar G L B J hok) mc_X6_curveOf ml_X6_102 im_X6_curveOf se_X6_curveOf ini_X6 nd_X6_curveOf ⟨Nat.le_of_ble_eq_true rfl, Nat.le_of_ble_eq_true rfl⟩ ⟨rfl, rfl⟩ ⟨Nat.le_refl _, Nat.le_refl _⟩ rfl (Nat.le_of_ble_eq_true rfl) dX6_side_22 ?_
        rintro r_11 w1 ⟨Gc, Lc, Bc, Jc, hr_, hw_, cv1, cv2⟩
        subst hr_
        subst hw_
        obtain ⟨dB, dg0, dg2, dg3, dg5, dg6, dg1, dg4⟩ := id cv1
        unfold bl at dg0 dg2 dg3 dg5 dg6
        refine Z.astore (lv' := [(5, .ref (h 7)), (0, .ref (h 0)), (1, .int (zI 1)), (2, .int (zI pp)), (3, .int (zI qq)), (4, .int (zI ss))]) hX dX6_side_25 (by decide) rfl ?_
        refine Z.aload hX dX6_side_27 rfl ?_
        refine Z.getf hX 0 7 3 dX6_side_29 rfl rfl inX0 (by decide) fl_X6_106 rfl rfl ?_
        refine Z.if_ne hX 38 dX6_side_32 (by decide) ⟨by omega, by omega⟩ ?_ ?_
        · intro c12
          refine Z.aload hX dX6_side_38 rfl ?_
          refine Z.getf hX 0 7 0 dX6_side_40 rfl rfl inX0 (by decide) fl_X6_109 rfl rfl ?_
          refine Z.iload_n hX dX6_side_43 rfl rfl ?_
          refine Z.i2l hX dX6_side_44 ⟨by omega, by omega⟩ ?_
          refine Z.iload_n hX dX6_side_45 rfl rfl ?_
          refine Z.i2l hX dX6_side_46 ⟨by omega, by omega⟩ ?_
          refine Z.iload hX dX6_side_47 rfl ?_
          refine Z.i2l hX dX6_side_49 ⟨by omega, by omega⟩ ?_
          refine Z.callVfl (As := [.long (zL pp), .long (zL qq), .long (zL ss)]) (rest := []) hX 3 (24 + 41) rfl (cW_pl (by decide)) (ct_X3_scaledValue l D ce h pl ar Gc Lc Bc Jc 41 (zL pp) (zL qq) (zL ss) (by decide) dB) mc_X3_scaledValue ml_X6_133 im_X3_scaledValue se_X3_scaledValue ini_X3 nd_X3_scaledValue ⟨Nat.le_of_ble_eq_true rfl, Nat.le_of_ble_eq_true rfl⟩ ⟨rfl, rfl⟩ ⟨Nat.le_refl _, Nat.le_refl _⟩ rfl (Nat.le_of_ble_eq_true rfl) dX6_side_50 ?_
          rintro r_13 w1 ⟨r014, hr_, hw_⟩
          subst hr_
          subst hw_
          refine Z.lstore (lv' := [(6, .long r_13), (5, .ref (h 7)), (0, .ref (h 0)), (1, .int (zI 1)), (2, .int (zI pp)), (3, .int (zI qq)), (4, .int (zI ss))]) hX dX6_side_53 (by decide) rfl ?_
          refine Z.lload hX dX6_side_55 rfl ?_
          refine Z.lconst (v := 0) hX dX6_side_57 rfl ?_
          refine Z.lcmp_ge hX 66 dX6_side_58 dX6_side_59 (by decide) ?_ ?_
          · intro c15
            refine Z.lload hX dX6_side_66 rfl ?_
            refine Z.lconst (v := 0) hX dX6_side_68 rfl ?_
            refine Z.lcmp_le hX 77 dX6_side_69 dX6_side_70 (by decide) ?_ ?_
            · intro c16
              refine Z.iconst hX dX6_side_77 ?_
              exact hR _ _ _ _ dX6_side_78 ⟨0, Gc, Lc, Bc, Jc, rfl, rfl, cv1, cv2, (fun q => absurd (by omega) q)⟩
            · intro c16
              refine Z.iconst hX dX6_side_73 ?_
              refine Z.goto hX 78 dX6_side_74 (by decide) ?_
              exact hR _ _ _ _ dX6_side_78 ⟨1, Gc, Lc, Bc, Jc, rfl, rfl, cv1, cv2, (fun q => absurd (by omega) q)⟩
          · intro c15
            refine Z.iconst hX dX6_side_62 ?_
            refine Z.goto hX 78 dX6_side_63 (by decide) ?_
            exact hR _ _ _ _ dX6_side_78 ⟨(-1), Gc, Lc, Bc, Jc, rfl, rfl, cv1, cv2, (fun q => absurd (by omega) q)⟩
        · intro c12
          refine Z.bipush hX dX6_side_35 (by decide) ?_
          exact hR _ _ _ _ dX6_side_37 ⟨(-8), Gc, Lc, Bc, Jc, rfl, rfl, cv1, cv2, (fun q => absurd (by omega) q)⟩
    · intro c4
      refine Z.bipush hX dX6_side_17 (by decide) ?_
      exact hR _ _ _ _ dX6_side_19 ⟨(-9), G, L, B, J, rfl, rfl, hok, (fun _ _ => rfl), (fun _ => rfl)⟩

theorem dX6_follows_0 : decode cX6_follows 0 = .ok (.iload_n 1, 1) := by decide +kernel
theorem dX6_follows_1 : decode cX6_follows 1 = .ok (.iload_n 2, 1) := by decide +kernel
theorem dX6_follows_2 : decode cX6_follows 2 = .ok (.invokestatic 88, 3) := by decide +kernel
theorem dX6_follows_5 : decode cX6_follows 5 = .ok (.ifCond .ne 5, 3) := by decide +kernel
theorem dX6_follows_8 : decode cX6_follows 8 = .ok (.iconst (-1), 1) := by decide +kernel
theorem dX6_follows_9 : decode cX6_follows 9 = .ok (.ireturn, 1) := by decide +kernel
theorem dX6_follows_10 : decode cX6_follows 10 = .ok (.aload_n 0, 1) := by decide +kernel
theorem dX6_follows_11 : decode cX6_follows 11 = .ok (.iload_n 1, 1) := by decide +kernel
theorem dX6_follows_12 : decode cX6_follows 12 = .ok (.iload_n 2, 1) := by decide +kernel
theorem dX6_follows_13 : decode cX6_follows 13 = .ok (.invokevirtual 91, 3) := by decide +kernel
theorem dX6_follows_16 : decode cX6_follows 16 = .ok (.aload_n 0, 1) := by decide +kernel
theorem dX6_follows_17 : decode cX6_follows 17 = .ok (.getfield 50, 3) := by decide +kernel
theorem dX6_follows_20 : decode cX6_follows 20 = .ok (.iconst 2, 1) := by decide +kernel
theorem dX6_follows_21 : decode cX6_follows 21 = .ok (.laload, 1) := by decide +kernel
theorem dX6_follows_22 : decode cX6_follows 22 = .ok (.lconst 0, 1) := by decide +kernel
theorem dX6_follows_23 : decode cX6_follows 23 = .ok (.lcmp, 1) := by decide +kernel
theorem dX6_follows_24 : decode cX6_follows 24 = .ok (.ifCond .eq 18, 3) := by decide +kernel
theorem dX6_follows_27 : decode cX6_follows 27 = .ok (.aload_n 0, 1) := by decide +kernel
theorem dX6_follows_28 : decode cX6_follows 28 = .ok (.iconst 0, 1) := by decide +kernel
theorem dX6_follows_29 : decode cX6_follows 29 = .ok (.invokevirtual 102, 3) := by decide +kernel
theorem dX6_follows_32 : decode cX6_follows 32 = .ok (.getfield 106, 3) := by decide +kernel
theorem dX6_follows_35 : decode cX6_follows 35 = .ok (.ifCond .eq 7, 3) := by decide +kernel
theorem dX6_follows_38 : decode cX6_follows 38 = .ok (.iconst 1, 1) := by decide +kernel
theorem dX6_follows_39 : decode cX6_follows 39 = .ok (.goto 5, 3) := by decide +kernel
theorem dX6_follows_42 : decode cX6_follows 42 = .ok (.bipush (-2), 2) := by decide +kernel
theorem dX6_follows_44 : decode cX6_follows 44 = .ok (.ireturn, 1) := by decide +kernel
set_option maxHeartbeats 4000000 in
set_option maxRecDepth 100000 in
theorem ct_X6_follows (l : Launch) (D : va_G) (ce : Nat → ClassId) (h pl ar : Nat → Nat) (G : Nat → Int) (L : Nat → Nat → Int64) (B : Nat → Int) (J : Nat → Nat → Int64) (u v : Int) (hok : cOK G B) (hu : -2147483648 ≤ u ∧ u < 2147483648) (hv : -2147483648 ≤ v ∧ v < 2147483648) : Ct l yX6_follows cX6_follows 3 (some .int) { frames := 6, cells := 0, slots := 0, locals := 162 } 0 0 D (TY ce) [.ref (h 0), .int (zI u), .int (zI v)] (cW ce h pl ar G L B J) (QI D (TY ce) (fun r w1 => ∃ z : Int, ∃ G2 : Nat → Int, ∃ L2 : Nat → Nat → Int64, ∃ B2 : Nat → Int, ∃ J2 : Nat → Nat → Int64, r = zI z ∧ w1 = cW ce h pl ar G2 L2 B2 J2 ∧ (cOK G2 B2) ∧ (∀ k, k < 3 → L2 k = L k) ∧ (¬ (-9 ≤ u ∧ u ≤ 9 ∧ -9 ≤ v ∧ v ≤ 9 ∧ ¬ (u = 0 ∧ v = 0)) → z = -1))) := by
  refine Ct.ofI (by decide) (Nat.le_of_ble_eq_true rfl) ?_
  intro p e s m args below meth c A Q hX hnm hR
  refine Z.pick (lv' := [(0, .ref (h 0)), (1, .int (zI u)), (2, .int (zI v))]) [0, 1, 2] rfl ?_
  obtain ⟨hB, hg0, hg2, hg3, hg5, hg6, hg1, hg4⟩ := id hok
  unfold bl at hg0 hg2 hg3 hg5 hg6
  refine Z.iload_n hX dX6_follows_0 rfl rfl ?_
  refine Z.iload_n hX dX6_follows_1 rfl rfl ?_
  refine Z.callS0i (As := [.int (zI u), .int (zI v)]) (rest := []) hX (ct_X6_isParameter l D ce u v (by omega) (by omega)) mc_X6_isParameter ml_X6_88 st_X6_isParameter ini_X6 nd_X6_isParameter ⟨Nat.le_of_ble_eq_true rfl, Nat.le_of_ble_eq_true rfl⟩ ⟨rfl, rfl⟩ ⟨Nat.le_refl _, Nat.le_refl _⟩ rfl (Nat.le_of_ble_eq_true rfl) dX6_follows_2 ?_
  rintro r_1 w1 ⟨z1, hr_, hw_, p1⟩
  subst hr_
  refine ⟨hw_, ?_⟩
  refine Z.if_ne hX 10 dX6_follows_5 (by decide) ⟨by omega, by omega⟩ ?_ ?_
  · intro c2
    refine Z.aload_n hX dX6_follows_10 rfl rfl ?_
    refine Z.iload_n hX dX6_follows_11 rfl rfl ?_
    refine Z.iload_n hX dX6_follows_12 rfl rfl ?_
    refine Z.callVfv (As := [.int (zI u), .int (zI v)]) (rest := []) hX 6 0 rfl rfl (ct_X6_moveTo l D ce h pl ar G L B J u v (by omega) (by omega)) mc_X6_moveTo ml_X6_91 im_X6_moveTo se_X6_moveTo ini_X6 nd_X6_moveTo ⟨Nat.le_of_ble_eq_true rfl, Nat.le_of_ble_eq_true rfl⟩ ⟨rfl, rfl⟩ ⟨Nat.le_refl _, Nat.le_refl _⟩ rfl (Nat.le_of_ble_eq_true rfl) dX6_follows_13 ?_
    rintro w1 ⟨n, Lm, hw_, mv1, mv2, mv3⟩
    subst hw_
    refine Z.aload_n hX dX6_follows_16 rfl rfl ?_
    refine Z.getf hX 6 0 7 dX6_follows_17 rfl rfl inX6 (by decide) fl_X6_50 rfl rfl ?_
    refine Z.iconst hX dX6_follows_20 ?_
    refine Z.laload hX 8 1 dX6_follows_21 rfl rfl (by omega) (by omega) (by decide) ?_
    refine Z.lconst (v := 0) hX dX6_follows_22 rfl ?_
    refine Z.lcmp_eq hX 42 dX6_follows_23 dX6_follows_24 (by decide) ?_ ?_
    · intro c4
      refine Z.bipush hX dX6_follows_42 (by decide) ?_
      exact hR _ _ _ _ dX6_follows_44 ⟨(-2), G, Lm, B, J, rfl, rfl, hok, (fun k h => mv3 k (by omega)), (fun q => absurd (by omega) q)⟩
    · intro c4
      refine Z.aload_n hX dX6_follows_27 rfl rfl ?_
      refine Z.iconst hX dX6_follows_28 ?_
      refine Z.callVfr (As := [.int (zI 0)]) (rest := []) hX 6 0 rfl rfl (ct_X6_curveOf_l l D ce h pl ar G Lm B J hok) mc_X6_curveOf ml_X6_102 im_X6_curveOf se_X6_curveOf ini_X6 nd_X6_curveOf ⟨Nat.le_of_ble_eq_true rfl, Nat.le_of_ble_eq_true rfl⟩ ⟨rfl, rfl⟩ ⟨Nat.le_refl _, Nat.le_refl _⟩ rfl (Nat.le_of_ble_eq_true rfl) dX6_follows_29 ?_
      rintro r_5 w1 ⟨Gc, Lc, Bc, Jc, hr_, hw_, cv1, cv2⟩
      subst hr_
      subst hw_
      obtain ⟨dB, dg0, dg2, dg3, dg5, dg6, dg1, dg4⟩ := id cv1
      unfold bl at dg0 dg2 dg3 dg5 dg6
      refine Z.getf hX 0 6 3 dX6_follows_32 rfl rfl inX0 (by decide) fl_X6_106 rfl rfl ?_
      refine Z.if_eq hX 42 dX6_follows_35 (by decide) ⟨by omega, by omega⟩ ?_ ?_
      · intro c6
        refine Z.bipush hX dX6_follows_42 (by decide) ?_
        exact hR _ _ _ _ dX6_follows_44 ⟨(-2), Gc, Lc, Bc, Jc, rfl, rfl, cv1, (fun k h => (cv2 k h).trans (mv3 k (by omega))), (fun q => absurd (by omega) q)⟩
      · intro c6
        refine Z.iconst hX dX6_follows_38 ?_
        refine Z.goto hX 44 dX6_follows_39 (by decide) ?_
        exact hR _ _ _ _ dX6_follows_44 ⟨1, Gc, Lc, Bc, Jc, rfl, rfl, cv1, (fun k h => (cv2 k h).trans (mv3 k (by omega))), (fun q => absurd (by omega) q)⟩
  · intro c2
    refine Z.iconst hX dX6_follows_8 ?_
    exact hR _ _ _ _ dX6_follows_9 ⟨(-1), G, L, B, J, rfl, rfl, hok, (fun _ _ => rfl), (fun _ => rfl)⟩

theorem dX6_touches_0 : decode cX6_touches 0 = .ok (.iload_n 1, 1) := by decide +kernel
theorem dX6_touches_1 : decode cX6_touches 1 = .ok (.iload_n 2, 1) := by decide +kernel
theorem dX6_touches_2 : decode cX6_touches 2 = .ok (.invokestatic 88, 3) := by decide +kernel
theorem dX6_touches_5 : decode cX6_touches 5 = .ok (.ifCond .ne 5, 3) := by decide +kernel
theorem dX6_touches_8 : decode cX6_touches 8 = .ok (.iconst (-1), 1) := by decide +kernel
theorem dX6_touches_9 : decode cX6_touches 9 = .ok (.ireturn, 1) := by decide +kernel
theorem dX6_touches_10 : decode cX6_touches 10 = .ok (.aload_n 0, 1) := by decide +kernel
theorem dX6_touches_11 : decode cX6_touches 11 = .ok (.iconst 1, 1) := by decide +kernel
theorem dX6_touches_12 : decode cX6_touches 12 = .ok (.invokevirtual 102, 3) := by decide +kernel
theorem dX6_touches_15 : decode cX6_touches 15 = .ok (.getfield 106, 3) := by decide +kernel
theorem dX6_touches_18 : decode cX6_touches 18 = .ok (.ifCond .ne 6, 3) := by decide +kernel
theorem dX6_touches_21 : decode cX6_touches 21 = .ok (.bipush (-2), 2) := by decide +kernel
theorem dX6_touches_23 : decode cX6_touches 23 = .ok (.ireturn, 1) := by decide +kernel
theorem dX6_touches_24 : decode cX6_touches 24 = .ok (.aload_n 0, 1) := by decide +kernel
theorem dX6_touches_25 : decode cX6_touches 25 = .ok (.getfield 10, 3) := by decide +kernel
theorem dX6_touches_28 : decode cX6_touches 28 = .ok (.invokevirtual 80, 3) := by decide +kernel
theorem dX6_touches_31 : decode cX6_touches 31 = .ok (.istore_n 3, 1) := by decide +kernel
theorem dX6_touches_32 : decode cX6_touches 32 = .ok (.aload_n 0, 1) := by decide +kernel
theorem dX6_touches_33 : decode cX6_touches 33 = .ok (.iconst 0, 1) := by decide +kernel
theorem dX6_touches_34 : decode cX6_touches 34 = .ok (.iload_n 1, 1) := by decide +kernel
theorem dX6_touches_35 : decode cX6_touches 35 = .ok (.iload_n 2, 1) := by decide +kernel
theorem dX6_touches_36 : decode cX6_touches 36 = .ok (.iload_n 3, 1) := by decide +kernel
theorem dX6_touches_37 : decode cX6_touches 37 = .ok (.invokevirtual 137, 3) := by decide +kernel
theorem dX6_touches_40 : decode cX6_touches 40 = .ok (.aload_n 0, 1) := by decide +kernel
theorem dX6_touches_41 : decode cX6_touches 41 = .ok (.iconst 1, 1) := by decide +kernel
theorem dX6_touches_42 : decode cX6_touches 42 = .ok (.iload_n 1, 1) := by decide +kernel
theorem dX6_touches_43 : decode cX6_touches 43 = .ok (.iload_n 2, 1) := by decide +kernel
theorem dX6_touches_44 : decode cX6_touches 44 = .ok (.iload_n 3, 1) := by decide +kernel
theorem dX6_touches_45 : decode cX6_touches 45 = .ok (.invokevirtual 141, 3) := by decide +kernel
theorem dX6_touches_48 : decode cX6_touches 48 = .ok (.lmul, 1) := by decide +kernel
theorem dX6_touches_49 : decode cX6_touches 49 = .ok (.aload_n 0, 1) := by decide +kernel
theorem dX6_touches_50 : decode cX6_touches 50 = .ok (.iconst 1, 1) := by decide +kernel
theorem dX6_touches_51 : decode cX6_touches 51 = .ok (.iload_n 1, 1) := by decide +kernel
theorem dX6_touches_52 : decode cX6_touches 52 = .ok (.iload_n 2, 1) := by decide +kernel
theorem dX6_touches_53 : decode cX6_touches 53 = .ok (.iload_n 3, 1) := by decide +kernel
theorem dX6_touches_54 : decode cX6_touches 54 = .ok (.invokevirtual 137, 3) := by decide +kernel
theorem dX6_touches_57 : decode cX6_touches 57 = .ok (.aload_n 0, 1) := by decide +kernel
theorem dX6_touches_58 : decode cX6_touches 58 = .ok (.iconst 0, 1) := by decide +kernel
theorem dX6_touches_59 : decode cX6_touches 59 = .ok (.iload_n 1, 1) := by decide +kernel
theorem dX6_touches_60 : decode cX6_touches 60 = .ok (.iload_n 2, 1) := by decide +kernel
theorem dX6_touches_61 : decode cX6_touches 61 = .ok (.iload_n 3, 1) := by decide +kernel
theorem dX6_touches_62 : decode cX6_touches 62 = .ok (.invokevirtual 141, 3) := by decide +kernel
theorem dX6_touches_65 : decode cX6_touches 65 = .ok (.lmul, 1) := by decide +kernel
theorem dX6_touches_66 : decode cX6_touches 66 = .ok (.lsub, 1) := by decide +kernel
theorem dX6_touches_67 : decode cX6_touches 67 = .ok (.lstore 4, 2) := by decide +kernel
theorem dX6_touches_69 : decode cX6_touches 69 = .ok (.lload 4, 2) := by decide +kernel
theorem dX6_touches_71 : decode cX6_touches 71 = .ok (.lconst 0, 1) := by decide +kernel
theorem dX6_touches_72 : decode cX6_touches 72 = .ok (.lcmp, 1) := by decide +kernel
theorem dX6_touches_73 : decode cX6_touches 73 = .ok (.ifCond .eq 7, 3) := by decide +kernel
theorem dX6_touches_76 : decode cX6_touches 76 = .ok (.iconst 1, 1) := by decide +kernel
theorem dX6_touches_77 : decode cX6_touches 77 = .ok (.goto 5, 3) := by decide +kernel
theorem dX6_touches_80 : decode cX6_touches 80 = .ok (.bipush (-2), 2) := by decide +kernel
theorem dX6_touches_82 : decode cX6_touches 82 = .ok (.ireturn, 1) := by decide +kernel
set_option maxHeartbeats 4000000 in
set_option maxRecDepth 100000 in
theorem ct_X6_touches (l : Launch) (D : va_G) (ce : Nat → ClassId) (h pl ar : Nat → Nat) (G : Nat → Int) (L : Nat → Nat → Int64) (B : Nat → Int) (J : Nat → Nat → Int64) (u v : Int) (hok : cOK G B) (hu : -2147483648 ≤ u ∧ u < 2147483648) (hv : -2147483648 ≤ v ∧ v < 2147483648) : Ct l yX6_touches cX6_touches 6 (some .int) { frames := 6, cells := 0, slots := 0, locals := 162 } 0 0 D (TY ce) [.ref (h 0), .int (zI u), .int (zI v)] (cW ce h pl ar G L B J) (QI D (TY ce) (fun r w1 => ∃ z : Int, ∃ G2 : Nat → Int, ∃ L2 : Nat → Nat → Int64, ∃ B2 : Nat → Int, ∃ J2 : Nat → Nat → Int64, r = zI z ∧ w1 = cW ce h pl ar G2 L2 B2 J2 ∧ (cOK G2 B2) ∧ (∀ k, k < 3 → L2 k = L k) ∧ (¬ (-9 ≤ u ∧ u ≤ 9 ∧ -9 ≤ v ∧ v ≤ 9 ∧ ¬ (u = 0 ∧ v = 0)) → z = -1))) := by
  refine Ct.ofI (by decide) (Nat.le_of_ble_eq_true rfl) ?_
  intro p e s m args below meth c A Q hX hnm hR
  refine Z.pick (lv' := [(0, .ref (h 0)), (1, .int (zI u)), (2, .int (zI v))]) [0, 1, 2] rfl ?_
  obtain ⟨hB, hg0, hg2, hg3, hg5, hg6, hg1, hg4⟩ := id hok
  unfold bl at hg0 hg2 hg3 hg5 hg6
  refine Z.iload_n hX dX6_touches_0 rfl rfl ?_
  refine Z.iload_n hX dX6_touches_1 rfl rfl ?_
  refine Z.callS0i (As := [.int (zI u), .int (zI v)]) (rest := []) hX (ct_X6_isParameter l D ce u v (by omega) (by omega)) mc_X6_isParameter ml_X6_88 st_X6_isParameter ini_X6 nd_X6_isParameter ⟨Nat.le_of_ble_eq_true rfl, Nat.le_of_ble_eq_true rfl⟩ ⟨rfl, rfl⟩ ⟨Nat.le_refl _, Nat.le_refl _⟩ rfl (Nat.le_of_ble_eq_true rfl) dX6_touches_2 ?_
  rintro r_1 w1 ⟨z1, hr_, hw_, p1⟩
  subst hr_
  refine ⟨hw_, ?_⟩
  refine Z.if_ne hX 10 dX6_touches_5 (by decide) ⟨by omega, by omega⟩ ?_ ?_
  · intro c2
    refine Z.aload_n hX dX6_touches_10 rfl rfl ?_
    refine Z.iconst hX dX6_touches_11 ?_
    refine Z.callVfr (As := [.int (zI 1)]) (rest := []) hX 6 0 rfl rfl (ct_X6_curveOf_e l D ce h pl ar G L B J hok) mc_X6_curveOf ml_X6_102 im_X6_curveOf se_X6_curveOf ini_X6 nd_X6_curveOf ⟨Nat.le_of_ble_eq_true rfl, Nat.le_of_ble_eq_true rfl⟩ ⟨rfl, rfl⟩ ⟨Nat.le_refl _, Nat.le_refl _⟩ rfl (Nat.le_of_ble_eq_true rfl) dX6_touches_12 ?_
    rintro r_3 w1 ⟨Gc, Lc, Bc, Jc, hr_, hw_, cv1, cv2⟩
    subst hr_
    subst hw_
    obtain ⟨dB, dg0, dg2, dg3, dg5, dg6, dg1, dg4⟩ := id cv1
    unfold bl at dg0 dg2 dg3 dg5 dg6
    refine Z.getf hX 0 7 3 dX6_touches_15 rfl rfl inX0 (by decide) fl_X6_106 rfl rfl ?_
    refine Z.if_ne hX 24 dX6_touches_18 (by decide) ⟨by omega, by omega⟩ ?_ ?_
    · intro c4
      refine Z.aload_n hX dX6_touches_24 rfl rfl ?_
      refine Z.getf hX 6 0 0 dX6_touches_25 rfl rfl inX6 (by decide) fl_X6_10 rfl rfl ?_
      refine Z.callVfi (As := []) (rest := []) hX 5 1 rfl rfl (ct_X5_highestPower_r l D ce h pl ar Gc Lc Bc Jc ) mc_X5_highestPower ml_X6_80 im_X5_highestPower se_X5_highestPower ini_X5 nd_X5_highestPower ⟨Nat.le_of_ble_eq_true rfl, Nat.le_of_ble_eq_true rfl⟩ ⟨rfl, rfl⟩ ⟨Nat.le_refl _, Nat.le_refl _⟩ rfl (Nat.le_of_ble_eq_true rfl) dX6_touches_28 ?_
      rintro r_5 w1 ⟨tp, hr_, hw_, n1, n2, n3⟩
      subst hr_
      subst hw_
      refine Z.istore_n (lv' := [(3, .int (zI tp)), (0, .ref (h 0)), (1, .int (zI u)), (2, .int (zI v))]) hX dX6_touches_31 rfl (by decide) rfl ?_
      refine Z.aload_n hX dX6_touches_32 rfl rfl ?_
      refine Z.iconst hX dX6_touches_33 ?_
      refine Z.iload_n hX dX6_touches_34 rfl rfl ?_
      refine Z.iload_n hX dX6_touches_35 rfl rfl ?_
      refine Z.iload_n hX dX6_touches_36 rfl rfl ?_
      refine Z.callVfl (As := [.int (zI 0), .int (zI u), .int (zI v), .int (zI tp)]) (rest := []) hX 6 0 rfl rfl (ct_X6_slopeByU l D ce h pl ar Gc Lc Bc Jc 0 u v tp (by omega) hu hv (by omega)) mc_X6_slopeByU ml_X6_137 im_X6_slopeByU se_X6_slopeByU ini_X6 nd_X6_slopeByU ⟨Nat.le_of_ble_eq_true rfl, Nat.le_of_ble_eq_true rfl⟩ ⟨rfl, rfl⟩ ⟨Nat.le_refl _, Nat.le_refl _⟩ rfl (Nat.le_of_ble_eq_true rfl) dX6_touches_37 ?_
      rintro r_6 w1 ⟨r07, hr_, hw_⟩
      subst hr_
      subst hw_
      refine Z.aload_n hX dX6_touches_40 rfl rfl ?_
      refine Z.iconst hX dX6_touches_41 ?_
      refine Z.iload_n hX dX6_touches_42 rfl rfl ?_
      refine Z.iload_n hX dX6_touches_43 rfl rfl ?_
      refine Z.iload_n hX dX6_touches_44 rfl rfl ?_
      refine Z.callVfl (As := [.int (zI 1), .int (zI u), .int (zI v), .int (zI tp)]) (rest := [.long r_6]) hX 6 0 rfl rfl (ct_X6_slopeByV l D ce h pl ar Gc Lc Bc Jc 1 u v tp (by omega) hu hv (by omega)) mc_X6_slopeByV ml_X6_141 im_X6_slopeByV se_X6_slopeByV ini_X6 nd_X6_slopeByV ⟨Nat.le_of_ble_eq_true rfl, Nat.le_of_ble_eq_true rfl⟩ ⟨rfl, rfl⟩ ⟨Nat.le_refl _, Nat.le_refl _⟩ rfl (Nat.le_of_ble_eq_true rfl) dX6_touches_45 ?_
      rintro r_8 w1 ⟨r09, hr_, hw_⟩
      subst hr_
      subst hw_
      refine Z.lmul hX dX6_touches_48 ?_
      refine Z.aload_n hX dX6_touches_49 rfl rfl ?_
      refine Z.iconst hX dX6_touches_50 ?_
      refine Z.iload_n hX dX6_touches_51 rfl rfl ?_
      refine Z.iload_n hX dX6_touches_52 rfl rfl ?_
      refine Z.iload_n hX dX6_touches_53 rfl rfl ?_
      refine Z.callVfl (As := [.int (zI 1), .int (zI u), .int (zI v), .int (zI tp)]) (rest := [.long (r_6 * r_8)]) hX 6 0 rfl rfl (ct_X6_slopeByU l D ce h pl ar Gc Lc Bc Jc 1 u v tp (by omega) hu hv (by omega)) mc_X6_slopeByU ml_X6_137 im_X6_slopeByU se_X6_slopeByU ini_X6 nd_X6_slopeByU ⟨Nat.le_of_ble_eq_true rfl, Nat.le_of_ble_eq_true rfl⟩ ⟨rfl, rfl⟩ ⟨Nat.le_refl _, Nat.le_refl _⟩ rfl (Nat.le_of_ble_eq_true rfl) dX6_touches_54 ?_
      rintro r_10 w1 ⟨r011, hr_, hw_⟩
      subst hr_
      subst hw_
      refine Z.aload_n hX dX6_touches_57 rfl rfl ?_
      refine Z.iconst hX dX6_touches_58 ?_
      refine Z.iload_n hX dX6_touches_59 rfl rfl ?_
      refine Z.iload_n hX dX6_touches_60 rfl rfl ?_
      refine Z.iload_n hX dX6_touches_61 rfl rfl ?_
      refine Z.callVfl (As := [.int (zI 0), .int (zI u), .int (zI v), .int (zI tp)]) (rest := [.long r_10, .long (r_6 * r_8)]) hX 6 0 rfl rfl (ct_X6_slopeByV l D ce h pl ar Gc Lc Bc Jc 0 u v tp (by omega) hu hv (by omega)) mc_X6_slopeByV ml_X6_141 im_X6_slopeByV se_X6_slopeByV ini_X6 nd_X6_slopeByV ⟨Nat.le_of_ble_eq_true rfl, Nat.le_of_ble_eq_true rfl⟩ ⟨rfl, rfl⟩ ⟨Nat.le_refl _, Nat.le_refl _⟩ rfl (Nat.le_of_ble_eq_true rfl) dX6_touches_62 ?_
      rintro r_12 w1 ⟨r013, hr_, hw_⟩
      subst hr_
      subst hw_
      refine Z.lmul hX dX6_touches_65 ?_
      refine Z.lsub hX dX6_touches_66 ?_
      refine Z.lstore (lv' := [(4, .long ((r_6 * r_8) - (r_10 * r_12))), (3, .int (zI tp)), (0, .ref (h 0)), (1, .int (zI u)), (2, .int (zI v))]) hX dX6_touches_67 (by decide) rfl ?_
      refine Z.lload hX dX6_touches_69 rfl ?_
      refine Z.lconst (v := 0) hX dX6_touches_71 rfl ?_
      refine Z.lcmp_eq hX 80 dX6_touches_72 dX6_touches_73 (by decide) ?_ ?_
      · intro c14
        refine Z.bipush hX dX6_touches_80 (by decide) ?_
        exact hR _ _ _ _ dX6_touches_82 ⟨(-2), Gc, Lc, Bc, Jc, rfl, rfl, cv1, cv2, (fun q => absurd (by omega) q)⟩
      · intro c14
        refine Z.iconst hX dX6_touches_76 ?_
        refine Z.goto hX 82 dX6_touches_77 (by decide) ?_
        exact hR _ _ _ _ dX6_touches_82 ⟨1, Gc, Lc, Bc, Jc, rfl, rfl, cv1, cv2, (fun q => absurd (by omega) q)⟩
    · intro c4
      refine Z.bipush hX dX6_touches_21 (by decide) ?_
      exact hR _ _ _ _ dX6_touches_23 ⟨(-2), Gc, Lc, Bc, Jc, rfl, rfl, cv1, cv2, (fun q => absurd (by omega) q)⟩
  · intro c2
    refine Z.iconst hX dX6_touches_8 ?_
    exact hR _ _ _ _ dX6_touches_9 ⟨(-1), G, L, B, J, rfl, rfl, hok, (fun _ _ => rfl), (fun _ => rfl)⟩
end
