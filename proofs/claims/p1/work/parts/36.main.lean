theorem dX6_forget_0 : decode cX6_forget 0 = .ok (.aload_n 0, 1) := by decide +kernel
theorem dX6_forget_1 : decode cX6_forget 1 = .ok (.iconst 0, 1) := by decide +kernel
theorem dX6_forget_2 : decode cX6_forget 2 = .ok (.putfield 54, 3) := by decide +kernel
theorem dX6_forget_5 : decode cX6_forget 5 = .ok (.aload_n 0, 1) := by decide +kernel
theorem dX6_forget_6 : decode cX6_forget 6 = .ok (.getfield 43, 3) := by decide +kernel
theorem dX6_forget_9 : decode cX6_forget 9 = .ok (.iconst 0, 1) := by decide +kernel
theorem dX6_forget_10 : decode cX6_forget 10 = .ok (.putfield 144, 3) := by decide +kernel
theorem dX6_forget_13 : decode cX6_forget 13 = .ok (.aload_n 0, 1) := by decide +kernel
theorem dX6_forget_14 : decode cX6_forget 14 = .ok (.getfield 47, 3) := by decide +kernel
theorem dX6_forget_17 : decode cX6_forget 17 = .ok (.iconst 0, 1) := by decide +kernel
theorem dX6_forget_18 : decode cX6_forget 18 = .ok (.putfield 144, 3) := by decide +kernel
theorem dX6_forget_21 : decode cX6_forget 21 = .ok (.return_, 1) := by decide +kernel
set_option maxHeartbeats 4000000 in
set_option maxRecDepth 100000 in
theorem ct_X6_forget (l : Launch) (D : va_G) (ce : Nat → ClassId) (h pl ar : Nat → Nat) (G : Nat → Int) (L : Nat → Nat → Int64) (B : Nat → Int) (J : Nat → Nat → Int64)  : Ct l yX6_forget cX6_forget 1 none { frames := 0, cells := 0, slots := 0, locals := 0 } 0 0 D (TY ce) [.ref (h 0)] (cW ce h pl ar G L B J) (QV D (TY ce) (fun w1 => ∃ G2 : Nat → Int, w1 = cW ce h pl ar G2 L B J ∧ (∀ k, k ≠ 0 → k ≠ 2 → k ≠ 5 → G2 k = G k) ∧ (G2 0 = 0 ∧ G2 2 = 0 ∧ G2 5 = 0))) := by
  refine Ct.ofV (by decide) (Nat.le_of_ble_eq_true rfl) ?_
  intro p e s m args below meth c A Q hX hnm hR
  refine Z.pick (lv' := [(0, .ref (h 0))]) [0] rfl ?_
  refine Z.aload_n hX dX6_forget_0 rfl rfl ?_
  refine Z.iconst hX dX6_forget_1 ?_
  refine Z.putf (ty := .boolean) hX 6 0 8 tyX6 dX6_forget_2 rfl rfl inX6 tyX6_ok nmX6 (by decide) fl_X6_54 rfl rfl (by decide +kernel) rfl rfl (Nat.le_of_ble_eq_true rfl) ?_
  obtain ⟨G1, eG1⟩ : ∃ F' : Nat → Int, F' = va_up G 0 (0) := ⟨_, rfl⟩
  refine Z.toW (w' := cW ce h pl ar G1 L B J) (by rw [eG1]; rfl) ?_
  have gG1 : G1 0 = 0 := by rw [eG1]; exact up_eq
  have fG1 : ∀ j_, j_ ≠ 0 → G1 j_ = G j_ := fun j_ hj_ => by rw [eG1]; exact up_ne hj_
  refine Z.aload_n hX dX6_forget_5 rfl rfl ?_
  refine Z.getf hX 6 0 5 dX6_forget_6 rfl rfl inX6 (by decide) fl_X6_43 rfl rfl ?_
  refine Z.iconst hX dX6_forget_9 ?_
  refine Z.putf (ty := .boolean) hX 0 6 2 tyX0 dX6_forget_10 rfl rfl inX0 tyX0_ok nmX0 (by decide) fl_X6_144 rfl rfl (by decide +kernel) rfl rfl (Nat.le_of_ble_eq_true rfl) ?_
  obtain ⟨G2, eG2⟩ : ∃ F' : Nat → Int, F' = va_up G1 2 (0) := ⟨_, rfl⟩
  refine Z.toW (w' := cW ce h pl ar G2 L B J) (by rw [eG2]; rfl) ?_
  have gG2 : G2 2 = 0 := by rw [eG2]; exact up_eq
  have fG2 : ∀ j_, j_ ≠ 2 → G2 j_ = G1 j_ := fun j_ hj_ => by rw [eG2]; exact up_ne hj_
  refine Z.aload_n hX dX6_forget_13 rfl rfl ?_
  refine Z.getf hX 6 0 6 dX6_forget_14 rfl rfl inX6 (by decide) fl_X6_47 rfl rfl ?_
  refine Z.iconst hX dX6_forget_17 ?_
  refine Z.putf (ty := .boolean) hX 0 7 2 tyX0 dX6_forget_18 rfl rfl inX0 tyX0_ok nmX0 (by decide) fl_X6_144 rfl rfl (by decide +kernel) rfl rfl (Nat.le_of_ble_eq_true rfl) ?_
  obtain ⟨G3, eG3⟩ : ∃ F' : Nat → Int, F' = va_up G2 5 (0) := ⟨_, rfl⟩
  refine Z.toW (w' := cW ce h pl ar G3 L B J) (by rw [eG3]; rfl) ?_
  have gG3 : G3 5 = 0 := by rw [eG3]; exact up_eq
  have fG3 : ∀ j_, j_ ≠ 5 → G3 j_ = G2 j_ := fun j_ hj_ => by rw [eG3]; exact up_ne hj_
  exact hR _ _ _ dX6_forget_21 ⟨G3, rfl, (fun j_ h_0 h_2 h_5 => ((fG3 j_ h_5).trans ((fG2 j_ h_2).trans ((fG1 j_ h_0).trans rfl)))), ⟨((fG3 0 (by decide)).trans ((fG2 0 (by decide)).trans gG1)), ((fG3 2 (by decide)).trans gG2), gG3⟩⟩

theorem dX6_freeRow_0 : decode cX6_freeRow 0 = .ok (.aload_n 0, 1) := by decide +kernel
theorem dX6_freeRow_1 : decode cX6_freeRow 1 = .ok (.getfield 54, 3) := by decide +kernel
theorem dX6_freeRow_4 : decode cX6_freeRow 4 = .ok (.ifCond .ne 23, 3) := by decide +kernel
theorem dX6_freeRow_7 : decode cX6_freeRow 7 = .ok (.aload_n 0, 1) := by decide +kernel
theorem dX6_freeRow_8 : decode cX6_freeRow 8 = .ok (.getfield 22, 3) := by decide +kernel
theorem dX6_freeRow_11 : decode cX6_freeRow 11 = .ok (.aload_n 0, 1) := by decide +kernel
theorem dX6_freeRow_12 : decode cX6_freeRow 12 = .ok (.getfield 10, 3) := by decide +kernel
theorem dX6_freeRow_15 : decode cX6_freeRow 15 = .ok (.aload_n 0, 1) := by decide +kernel
theorem dX6_freeRow_16 : decode cX6_freeRow 16 = .ok (.getfield 16, 3) := by decide +kernel
theorem dX6_freeRow_19 : decode cX6_freeRow 19 = .ok (.invokevirtual 147, 3) := by decide +kernel
theorem dX6_freeRow_22 : decode cX6_freeRow 22 = .ok (.aload_n 0, 1) := by decide +kernel
theorem dX6_freeRow_23 : decode cX6_freeRow 23 = .ok (.iconst 1, 1) := by decide +kernel
theorem dX6_freeRow_24 : decode cX6_freeRow 24 = .ok (.putfield 54, 3) := by decide +kernel
theorem dX6_freeRow_27 : decode cX6_freeRow 27 = .ok (.aload_n 0, 1) := by decide +kernel
theorem dX6_freeRow_28 : decode cX6_freeRow 28 = .ok (.getfield 16, 3) := by decide +kernel
theorem dX6_freeRow_31 : decode cX6_freeRow 31 = .ok (.areturn, 1) := by decide +kernel
set_option maxHeartbeats 4000000 in
set_option maxRecDepth 100000 in
theorem ct_X6_freeRow (l : Launch) (D : va_G) (ce : Nat → ClassId) (h pl ar : Nat → Nat) (G : Nat → Int) (L : Nat → Nat → Int64) (B : Nat → Int) (J : Nat → Nat → Int64) (hok : cOK G B) : Ct l yX6_freeRow cX6_freeRow 1 (some (.object "EliminateLoci$Row")) { frames := 4, cells := 0, slots := 0, locals := 108 } 0 0 D (TY ce) [.ref (h 0)] (cW ce h pl ar G L B J) (QR D (TY ce) (fun r w1 => ∃ G2 : Nat → Int, ∃ L2 : Nat → Nat → Int64, r = (h 2) ∧ w1 = cW ce h pl ar G2 L2 B J ∧ (∀ k, k ≠ 0 → G2 k = G k) ∧ (bl (G2 0)) ∧ (∀ k, k < 3 → L2 k = L k))) := by
  refine Ct.ofR (by decide) (Nat.le_of_ble_eq_true rfl) (Or.inl ⟨_, rfl⟩) ?_
  intro p e s m args below meth c A Q hX hnm hR
  refine Z.pick (lv' := [(0, .ref (h 0))]) [0] rfl ?_
  obtain ⟨hB, hg0, hg2, hg3, hg5, hg6, hg1, hg4⟩ := id hok
  unfold bl at hg0 hg2 hg3 hg5 hg6
  refine Z.aload_n hX dX6_freeRow_0 rfl rfl ?_
  refine Z.getf hX 6 0 8 dX6_freeRow_1 rfl rfl inX6 (by decide) fl_X6_54 rfl rfl ?_
  refine Z.if_ne hX 27 dX6_freeRow_4 (by decide) ⟨by omega, by omega⟩ ?_ ?_
  · intro c1
    refine Z.aload_n hX dX6_freeRow_27 rfl rfl ?_
    refine Z.getf hX 6 0 1 dX6_freeRow_28 rfl rfl inX6 (by decide) fl_X6_16 rfl rfl ?_
    exact hR _ _ _ _ dX6_freeRow_31 ⟨G, L, rfl, rfl, (fun _ _ => rfl), (by unfold bl; omega), (fun _ _ => rfl)⟩
  · intro c1
    refine Z.aload_n hX dX6_freeRow_7 rfl rfl ?_
    refine Z.getf hX 6 0 2 dX6_freeRow_8 rfl rfl inX6 (by decide) fl_X6_22 rfl rfl ?_
    refine Z.aload_n hX dX6_freeRow_11 rfl rfl ?_
    refine Z.getf hX 6 0 0 dX6_freeRow_12 rfl rfl inX6 (by decide) fl_X6_10 rfl rfl ?_
    refine Z.aload_n hX dX6_freeRow_15 rfl rfl ?_
    refine Z.getf hX 6 0 1 dX6_freeRow_16 rfl rfl inX6 (by decide) fl_X6_16 rfl rfl ?_
    refine Z.callVfv (As := [.ref (h 1), .ref (h 2)]) (rest := []) hX 1 3 rfl rfl (ct_X1_free l D ce h pl ar G L B J ) mc_X1_free ml_X6_147 im_X1_free se_X1_free ini_X1 nd_X1_free ⟨Nat.le_of_ble_eq_true rfl, Nat.le_of_ble_eq_true rfl⟩ ⟨rfl, rfl⟩ ⟨Nat.le_refl _, Nat.le_refl _⟩ rfl (Nat.le_of_ble_eq_true rfl) dX6_freeRow_19 ?_
    rintro w1 ⟨L23, hw_, hfr⟩
    subst hw_
    refine Z.aload_n hX dX6_freeRow_22 rfl rfl ?_
    refine Z.iconst hX dX6_freeRow_23 ?_
    refine Z.putf (ty := .boolean) hX 6 0 8 tyX6 dX6_freeRow_24 rfl rfl inX6 tyX6_ok nmX6 (by decide) fl_X6_54 rfl rfl (by decide +kernel) rfl rfl (Nat.le_of_ble_eq_true rfl) ?_
    obtain ⟨G4, eG4⟩ : ∃ F' : Nat → Int, F' = va_up G 0 (1) := ⟨_, rfl⟩
    refine Z.toW (w' := cW ce h pl ar G4 L23 B J) (by rw [eG4]; rfl) ?_
    have gG4 : G4 0 = 1 := by rw [eG4]; exact up_eq
    have fG4 : ∀ j_, j_ ≠ 0 → G4 j_ = G j_ := fun j_ hj_ => by rw [eG4]; exact up_ne hj_
    refine Z.aload_n hX dX6_freeRow_27 rfl rfl ?_
    refine Z.getf hX 6 0 1 dX6_freeRow_28 rfl rfl inX6 (by decide) fl_X6_16 rfl rfl ?_
    exact hR _ _ _ _ dX6_freeRow_31 ⟨G4, L23, rfl, rfl, (fun j_ h_0 => ((fG4 j_ h_0).trans rfl)), (by rw [gG4]; exact Or.inr rfl), (fun k h => hfr k (by omega) (by omega) (by omega) (by omega) (by omega) (by omega))⟩

theorem dX6_curveOf_0 : decode cX6_curveOf 0 = .ok (.iload_n 1, 1) := by decide +kernel
theorem dX6_curveOf_1 : decode cX6_curveOf 1 = .ok (.ifCond .ne 10, 3) := by decide +kernel
theorem dX6_curveOf_4 : decode cX6_curveOf 4 = .ok (.aload_n 0, 1) := by decide +kernel
theorem dX6_curveOf_5 : decode cX6_curveOf 5 = .ok (.getfield 43, 3) := by decide +kernel
theorem dX6_curveOf_8 : decode cX6_curveOf 8 = .ok (.goto 7, 3) := by decide +kernel
theorem dX6_curveOf_15 : decode cX6_curveOf 15 = .ok (.astore_n 2, 1) := by decide +kernel
theorem dX6_curveOf_16 : decode cX6_curveOf 16 = .ok (.aload_n 2, 1) := by decide +kernel
theorem dX6_curveOf_17 : decode cX6_curveOf 17 = .ok (.getfield 144, 3) := by decide +kernel
theorem dX6_curveOf_20 : decode cX6_curveOf 20 = .ok (.ifCond .ne 70, 3) := by decide +kernel
theorem dX6_curveOf_23 : decode cX6_curveOf 23 = .ok (.iload_n 1, 1) := by decide +kernel
theorem dX6_curveOf_24 : decode cX6_curveOf 24 = .ok (.ifCond .ne 17, 3) := by decide +kernel
theorem dX6_curveOf_27 : decode cX6_curveOf 27 = .ok (.aload_n 0, 1) := by decide +kernel
theorem dX6_curveOf_28 : decode cX6_curveOf 28 = .ok (.getfield 29, 3) := by decide +kernel
theorem dX6_curveOf_31 : decode cX6_curveOf 31 = .ok (.aload_n 0, 1) := by decide +kernel
theorem dX6_curveOf_32 : decode cX6_curveOf 32 = .ok (.invokevirtual 83, 3) := by decide +kernel
theorem dX6_curveOf_35 : decode cX6_curveOf 35 = .ok (.invokevirtual 151, 3) := by decide +kernel
theorem dX6_curveOf_38 : decode cX6_curveOf 38 = .ok (.goto 14, 3) := by decide +kernel
theorem dX6_curveOf_52 : decode cX6_curveOf 52 = .ok (.istore_n 3, 1) := by decide +kernel
theorem dX6_curveOf_53 : decode cX6_curveOf 53 = .ok (.aload_n 2, 1) := by decide +kernel
theorem dX6_curveOf_54 : decode cX6_curveOf 54 = .ok (.iload_n 3, 1) := by decide +kernel
theorem dX6_curveOf_55 : decode cX6_curveOf 55 = .ok (.ifCond .le 26, 3) := by decide +kernel
theorem dX6_curveOf_58 : decode cX6_curveOf 58 = .ok (.aload_n 0, 1) := by decide +kernel
theorem dX6_curveOf_59 : decode cX6_curveOf 59 = .ok (.getfield 36, 3) := by decide +kernel
theorem dX6_curveOf_62 : decode cX6_curveOf 62 = .ok (.aload_n 0, 1) := by decide +kernel
theorem dX6_curveOf_63 : decode cX6_curveOf 63 = .ok (.getfield 29, 3) := by decide +kernel
theorem dX6_curveOf_66 : decode cX6_curveOf 66 = .ok (.iload_n 3, 1) := by decide +kernel
theorem dX6_curveOf_67 : decode cX6_curveOf 67 = .ok (.invokevirtual 158, 3) := by decide +kernel
theorem dX6_curveOf_70 : decode cX6_curveOf 70 = .ok (.aload_n 2, 1) := by decide +kernel
theorem dX6_curveOf_71 : decode cX6_curveOf 71 = .ok (.invokevirtual 162, 3) := by decide +kernel
theorem dX6_curveOf_74 : decode cX6_curveOf 74 = .ok (.ifCond .eq 7, 3) := by decide +kernel
theorem dX6_curveOf_77 : decode cX6_curveOf 77 = .ok (.iconst 1, 1) := by decide +kernel
theorem dX6_curveOf_78 : decode cX6_curveOf 78 = .ok (.goto 4, 3) := by decide +kernel
theorem dX6_curveOf_81 : decode cX6_curveOf 81 = .ok (.iconst 0, 1) := by decide +kernel
theorem dX6_curveOf_82 : decode cX6_curveOf 82 = .ok (.putfield 106, 3) := by decide +kernel
theorem dX6_curveOf_85 : decode cX6_curveOf 85 = .ok (.aload_n 2, 1) := by decide +kernel
theorem dX6_curveOf_86 : decode cX6_curveOf 86 = .ok (.iconst 1, 1) := by decide +kernel
theorem dX6_curveOf_87 : decode cX6_curveOf 87 = .ok (.putfield 144, 3) := by decide +kernel
theorem dX6_curveOf_90 : decode cX6_curveOf 90 = .ok (.aload_n 2, 1) := by decide +kernel
theorem dX6_curveOf_91 : decode cX6_curveOf 91 = .ok (.areturn, 1) := by decide +kernel
set_option maxHeartbeats 4000000 in
set_option maxRecDepth 100000 in
theorem ct_X6_curveOf_l (l : Launch) (D : va_G) (ce : Nat → ClassId) (h pl ar : Nat → Nat) (G : Nat → Int) (L : Nat → Nat → Int64) (B : Nat → Int) (J : Nat → Nat → Int64) (hok : cOK G B) : Ct l yX6_curveOf cX6_curveOf 4 (some (.object "EliminateLoci$Curve")) { frames := 5, cells := 0, slots := 0, locals := 139 } 0 0 D (TY ce) [.ref (h 0), .int (zI 0)] (cW ce h pl ar G L B J) (QR D (TY ce) (fun r w1 => ∃ G2 : Nat → Int, ∃ L2 : Nat → Nat → Int64, ∃ B2 : Nat → Int, ∃ J2 : Nat → Nat → Int64, r = (h 6) ∧ w1 = cW ce h pl ar G2 L2 B2 J2 ∧ (cOK G2 B2) ∧ (∀ k, k < 3 → L2 k = L k))) := by
  refine Ct.ofR (by decide) (Nat.le_of_ble_eq_true rfl) (Or.inl ⟨_, rfl⟩) ?_
  intro p e s m args below meth c A Q hX hnm hR
  refine Z.pick (lv' := [(0, .ref (h 0)), (1, .int (zI 0))]) [0, 1] rfl ?_
  obtain ⟨hB, hg0, hg2, hg3, hg5, hg6, hg1, hg4⟩ := id hok
  unfold bl at hg0 hg2 hg3 hg5 hg6
  refine Z.iload_n hX dX6_curveOf_0 rfl rfl ?_
  refine Z.if_ne hX 11 dX6_curveOf_1 (by decide) ⟨by omega, by omega⟩ ?_ ?_
  · intro c1; exfalso; revert c1; decide
  · intro c1
    refine Z.aload_n hX dX6_curveOf_4 rfl rfl ?_
    refine Z.getf hX 6 0 5 dX6_curveOf_5 rfl rfl inX6 (by decide) fl_X6_43 rfl rfl ?_
    refine Z.goto hX 15 dX6_curveOf_8 (by decide) ?_
    refine Z.astore_n (lv' := [(2, .ref (h 6)), (0, .ref (h 0)), (1, .int (zI 0))]) hX dX6_curveOf_15 rfl (by decide) rfl ?_
    refine Z.aload_n hX dX6_curveOf_16 rfl rfl ?_
    refine Z.getf hX 0 6 2 dX6_curveOf_17 rfl rfl inX0 (by decide) fl_X6_144 rfl rfl ?_
    refine Z.if_ne hX 90 dX6_curveOf_20 (by decide) ⟨by omega, by omega⟩ ?_ ?_
    · intro c2
      refine Z.aload_n hX dX6_curveOf_90 rfl rfl ?_
      exact hR _ _ _ _ dX6_curveOf_91 ⟨G, L, B, J, rfl, rfl, hok, (fun _ _ => rfl)⟩
    · intro c2
      refine Z.iload_n hX dX6_curveOf_23 rfl rfl ?_
      refine Z.if_ne hX 41 dX6_curveOf_24 (by decide) ⟨by omega, by omega⟩ ?_ ?_
      · intro c3; exfalso; revert c3; decide
      · intro c3
        refine Z.aload_n hX dX6_curveOf_27 rfl rfl ?_
        refine Z.getf hX 6 0 3 dX6_curveOf_28 rfl rfl inX6 (by decide) fl_X6_29 rfl rfl ?_
        refine Z.aload_n hX dX6_curveOf_31 rfl rfl ?_
        refine Z.callVfr (As := []) (rest := [.ref (h 4)]) hX 6 0 rfl rfl (ct_X6_freeRow l D ce h pl ar G L B J hok) mc_X6_freeRow ml_X6_83 im_X6_freeRow se_X6_freeRow ini_X6 nd_X6_freeRow ⟨Nat.le_of_ble_eq_true rfl, Nat.le_of_ble_eq_true rfl⟩ ⟨rfl, rfl⟩ ⟨Nat.le_refl _, Nat.le_refl _⟩ rfl (Nat.le_of_ble_eq_true rfl) dX6_curveOf_32 ?_
        rintro r_4 w1 ⟨G25, L26, hr_, hw_, fr1, fr2, fr3⟩
        subst hr_
        subst hw_
        refine Z.callVfi (As := [.ref (h 2)]) (rest := []) hX 2 4 rfl rfl (ct_X2_takeMover l D ce h pl ar G25 L26 B J hB) mc_X2_takeMover ml_X6_151 im_X2_takeMover se_X2_takeMover ini_X2 nd_X2_takeMover ⟨Nat.le_of_ble_eq_true rfl, Nat.le_of_ble_eq_true rfl⟩ ⟨rfl, rfl⟩ ⟨Nat.le_refl _, Nat.le_refl _⟩ rfl (Nat.le_of_ble_eq_true rfl) dX6_curveOf_35 ?_
        rintro r_7 w1 ⟨sz, B28, J29, hr_, hw_, tk1, tk2⟩
        subst hr_
        subst hw_
        refine Z.goto hX 52 dX6_curveOf_38 (by decide) ?_
        refine Z.istore_n (lv' := [(3, .int (zI sz)), (2, .ref (h 6)), (0, .ref (h 0)), (1, .int (zI 0))]) hX dX6_curveOf_52 rfl (by decide) rfl ?_
        refine Z.aload_n hX dX6_curveOf_53 rfl rfl ?_
        refine Z.iload_n hX dX6_curveOf_54 rfl rfl ?_
        refine Z.if_le hX 81 dX6_curveOf_55 (by decide) ⟨by omega, by omega⟩ ?_ ?_
        · intro c10
          refine Z.iconst hX dX6_curveOf_81 ?_
          refine Z.putf (ty := .boolean) hX 0 6 3 tyX0 dX6_curveOf_82 rfl rfl inX0 tyX0_ok nmX0 (by decide) fl_X6_106 rfl rfl (by decide +kernel) rfl rfl (Nat.le_of_ble_eq_true rfl) ?_
          obtain ⟨G11, eG11⟩ : ∃ F' : Nat → Int, F' = va_up G25 3 (0) := ⟨_, rfl⟩
          refine Z.toW (w' := cW ce h pl ar G11 L26 B28 J29) (by rw [eG11]; rfl) ?_
          have gG11 : G11 3 = 0 := by rw [eG11]; exact up_eq
          have fG11 : ∀ j_, j_ ≠ 3 → G11 j_ = G25 j_ := fun j_ hj_ => by rw [eG11]; exact up_ne hj_
          refine Z.aload_n hX dX6_curveOf_85 rfl rfl ?_
          refine Z.iconst hX dX6_curveOf_86 ?_
          refine Z.putf (ty := .boolean) hX 0 6 2 tyX0 dX6_curveOf_87 rfl rfl inX0 tyX0_ok nmX0 (by decide) fl_X6_144 rfl rfl (by decide +kernel) rfl rfl (Nat.le_of_ble_eq_true rfl) ?_
          obtain ⟨G12, eG12⟩ : ∃ F' : Nat → Int, F' = va_up G11 2 (1) := ⟨_, rfl⟩
          refine Z.toW (w' := cW ce h pl ar G12 L26 B28 J29) (by rw [eG12]; rfl) ?_
          have gG12 : G12 2 = 1 := by rw [eG12]; exact up_eq
          have fG12 : ∀ j_, j_ ≠ 2 → G12 j_ = G11 j_ := fun j_ hj_ => by rw [eG12]; exact up_ne hj_
          refine Z.aload_n hX dX6_curveOf_90 rfl rfl ?_
          exact hR _ _ _ _ dX6_curveOf_91 ⟨G12, L26, B28, J29, rfl, rfl, (cok_of tk1 (by have := fG11 0 (by decide); have := fG12 0 (by decide); unfold bl at *; omega) (by have := fr1 1 (by decide); have := fG11 1 (by decide); have := fG12 1 (by decide); unfold bl at *; omega) (by have := fr1 2 (by decide); have := fG11 2 (by decide); unfold bl at *; omega) (by have := fr1 3 (by decide); have := fG12 3 (by decide); unfold bl at *; omega) (by have := fr1 4 (by decide); have := fG11 4 (by decide); have := fG12 4 (by decide); unfold bl at *; omega) (by have := fr1 5 (by decide); have := fG11 5 (by decide); have := fG12 5 (by decide); unfold bl at *; omega) (by have := fr1 6 (by decide); have := fG11 6 (by decide); have := fG12 6 (by decide); unfold bl at *; omega)), (fun k h => fr3 k h)⟩
        · intro c10
          refine Z.aload_n hX dX6_curveOf_58 rfl rfl ?_
          refine Z.getf hX 6 0 4 dX6_curveOf_59 rfl rfl inX6 (by decide) fl_X6_36 rfl rfl ?_
          refine Z.aload_n hX dX6_curveOf_62 rfl rfl ?_
          refine Z.getf hX 6 0 3 dX6_curveOf_63 rfl rfl inX6 (by decide) fl_X6_29 rfl rfl ?_
          refine Z.iload_n hX dX6_curveOf_66 rfl rfl ?_
          refine Z.callVfr (As := [.int (zI sz)]) (rest := [.ref (h 5), .ref (h 6)]) hX 2 4 rfl rfl (ct_X2_resultant l D ce h pl ar G25 L26 B28 J29 sz tk1 (by omega)) mc_X2_resultant ml_X6_158 im_X2_resultant se_X2_resultant ini_X2 nd_X2_resultant ⟨Nat.le_of_ble_eq_true rfl, Nat.le_of_ble_eq_true rfl⟩ ⟨rfl, rfl⟩ ⟨Nat.le_refl _, Nat.le_refl _⟩ rfl (Nat.le_of_ble_eq_true rfl) dX6_curveOf_67 ?_
          rintro r_13 w1 ⟨k214, B215, J216, hr_, hw_, rs1, rs2⟩
          subst hr_
          subst hw_
          refine Z.aload_n hX dX6_curveOf_70 rfl rfl ?_
          refine Z.callVfi (As := [.ref (pl k214), .ref (h 6)]) (rest := [.ref (h 6)]) hX 4 5 rfl rfl (ct_X4_findRoot_l l D ce h pl ar G25 L26 B215 J216 k214 rs1 (by omega)) mc_X4_findRoot ml_X6_162 im_X4_findRoot se_X4_findRoot ini_X4 nd_X4_findRoot ⟨Nat.le_of_ble_eq_true rfl, Nat.le_of_ble_eq_true rfl⟩ ⟨rfl, rfl⟩ ⟨Nat.le_refl _, Nat.le_refl _⟩ rfl (Nat.le_of_ble_eq_true rfl) dX6_curveOf_71 ?_
          rintro r_17 w1 ⟨fz, G218, B219, J220, hr_, hw_, fz1, fz2, fz3, fz4⟩
          subst hr_
          subst hw_
          refine Z.if_eq hX 81 dX6_curveOf_74 (by decide) ⟨by omega, by omega⟩ ?_ ?_
          · intro c21
            refine Z.iconst hX dX6_curveOf_81 ?_
            refine Z.putf (ty := .boolean) hX 0 6 3 tyX0 dX6_curveOf_82 rfl rfl inX0 tyX0_ok nmX0 (by decide) fl_X6_106 rfl rfl (by decide +kernel) rfl rfl (Nat.le_of_ble_eq_true rfl) ?_
            obtain ⟨G22, eG22⟩ : ∃ F' : Nat → Int, F' = va_up G218 3 (0) := ⟨_, rfl⟩
            refine Z.toW (w' := cW ce h pl ar G22 L26 B219 J220) (by rw [eG22]; rfl) ?_
            have gG22 : G22 3 = 0 := by rw [eG22]; exact up_eq
            have fG22 : ∀ j_, j_ ≠ 3 → G22 j_ = G218 j_ := fun j_ hj_ => by rw [eG22]; exact up_ne hj_
            refine Z.aload_n hX dX6_curveOf_85 rfl rfl ?_
            refine Z.iconst hX dX6_curveOf_86 ?_
            refine Z.putf (ty := .boolean) hX 0 6 2 tyX0 dX6_curveOf_87 rfl rfl inX0 tyX0_ok nmX0 (by decide) fl_X6_144 rfl rfl (by decide +kernel) rfl rfl (Nat.le_of_ble_eq_true rfl) ?_
            obtain ⟨G23, eG23⟩ : ∃ F' : Nat → Int, F' = va_up G22 2 (1) := ⟨_, rfl⟩
            refine Z.toW (w' := cW ce h pl ar G23 L26 B219 J220) (by rw [eG23]; rfl) ?_
            have gG23 : G23 2 = 1 := by rw [eG23]; exact up_eq
            have fG23 : ∀ j_, j_ ≠ 2 → G23 j_ = G22 j_ := fun j_ hj_ => by rw [eG23]; exact up_ne hj_
            refine Z.aload_n hX dX6_curveOf_90 rfl rfl ?_
            exact hR _ _ _ _ dX6_curveOf_91 ⟨G23, L26, B219, J220, rfl, rfl, (cok_of fz2 (by have := fz3 0 (by decide); have := fG22 0 (by decide); have := fG23 0 (by decide); unfold bl at *; omega) (by have := fr1 1 (by decide); have := fG22 1 (by decide); have := fG23 1 (by decide); unfold bl at *; omega) (by have := fr1 2 (by decide); have := fz3 2 (by decide); have := fG22 2 (by decide); unfold bl at *; omega) (by have := fr1 3 (by decide); have := fz3 3 (by decide); have := fG23 3 (by decide); unfold bl at *; omega) (by have := fr1 4 (by decide); have := fz3 4 (by decide); have := fG22 4 (by decide); have := fG23 4 (by decide); unfold bl at *; omega) (by have := fr1 5 (by decide); have := fz3 5 (by decide); have := fG22 5 (by decide); have := fG23 5 (by decide); unfold bl at *; omega) (by have := fr1 6 (by decide); have := fz3 6 (by decide); have := fG22 6 (by decide); have := fG23 6 (by decide); unfold bl at *; omega)), (fun k h => fr3 k h)⟩
          · intro c21
            refine Z.iconst hX dX6_curveOf_77 ?_
            refine Z.goto hX 82 dX6_curveOf_78 (by decide) ?_
            refine Z.putf (ty := .boolean) hX 0 6 3 tyX0 dX6_curveOf_82 rfl rfl inX0 tyX0_ok nmX0 (by decide) fl_X6_106 rfl rfl (by decide +kernel) rfl rfl (Nat.le_of_ble_eq_true rfl) ?_
            obtain ⟨G24, eG24⟩ : ∃ F' : Nat → Int, F' = va_up G218 3 (1) := ⟨_, rfl⟩
            refine Z.toW (w' := cW ce h pl ar G24 L26 B219 J220) (by rw [eG24]; rfl) ?_
            have gG24 : G24 3 = 1 := by rw [eG24]; exact up_eq
            have fG24 : ∀ j_, j_ ≠ 3 → G24 j_ = G218 j_ := fun j_ hj_ => by rw [eG24]; exact up_ne hj_
            refine Z.aload_n hX dX6_curveOf_85 rfl rfl ?_
            refine Z.iconst hX dX6_curveOf_86 ?_
            refine Z.putf (ty := .boolean) hX 0 6 2 tyX0 dX6_curveOf_87 rfl rfl inX0 tyX0_ok nmX0 (by decide) fl_X6_144 rfl rfl (by decide +kernel) rfl rfl (Nat.le_of_ble_eq_true rfl) ?_
            obtain ⟨G25, eG25⟩ : ∃ F' : Nat → Int, F' = va_up G24 2 (1) := ⟨_, rfl⟩
            refine Z.toW (w' := cW ce h pl ar G25 L26 B219 J220) (by rw [eG25]; rfl) ?_
            have gG25 : G25 2 = 1 := by rw [eG25]; exact up_eq
            have fG25 : ∀ j_, j_ ≠ 2 → G25 j_ = G24 j_ := fun j_ hj_ => by rw [eG25]; exact up_ne hj_
            refine Z.aload_n hX dX6_curveOf_90 rfl rfl ?_
            exact hR _ _ _ _ dX6_curveOf_91 ⟨G25, L26, B219, J220, rfl, rfl, (cok_of fz2 (by have := fz3 0 (by decide); have := fG24 0 (by decide); have := fG25 0 (by decide); unfold bl at *; omega) (by have := fr1 1 (by decide); have := fG24 1 (by decide); have := fG25 1 (by decide); unfold bl at *; omega) (by have := fr1 2 (by decide); have := fz3 2 (by decide); have := fG24 2 (by decide); unfold bl at *; omega) (by have := fr1 3 (by decide); have := fz3 3 (by decide); have := fG25 3 (by decide); unfold bl at *; omega) (by have := fr1 4 (by decide); have := fz3 4 (by decide); have := fG24 4 (by decide); have := fG25 4 (by decide); unfold bl at *; omega) (by have := fr1 5 (by decide); have := fz3 5 (by decide); have := fG24 5 (by decide); have := fG25 5 (by decide); unfold bl at *; omega) (by have := fr1 6 (by decide); have := fz3 6 (by decide); have := fG24 6 (by decide); have := fG25 6 (by decide); unfold bl at *; omega)), (fun k h => fr3 k h)⟩

theorem dX6_curveOf_11 : decode cX6_curveOf 11 = .ok (.aload_n 0, 1) := by decide +kernel
theorem dX6_curveOf_12 : decode cX6_curveOf 12 = .ok (.getfield 47, 3) := by decide +kernel
theorem dX6_curveOf_41 : decode cX6_curveOf 41 = .ok (.aload_n 0, 1) := by decide +kernel
theorem dX6_curveOf_42 : decode cX6_curveOf 42 = .ok (.getfield 29, 3) := by decide +kernel
theorem dX6_curveOf_45 : decode cX6_curveOf 45 = .ok (.aload_n 0, 1) := by decide +kernel
theorem dX6_curveOf_46 : decode cX6_curveOf 46 = .ok (.getfield 10, 3) := by decide +kernel
theorem dX6_curveOf_49 : decode cX6_curveOf 49 = .ok (.invokevirtual 155, 3) := by decide +kernel
set_option maxHeartbeats 4000000 in
set_option maxRecDepth 100000 in
theorem ct_X6_curveOf_e (l : Launch) (D : va_G) (ce : Nat → ClassId) (h pl ar : Nat → Nat) (G : Nat → Int) (L : Nat → Nat → Int64) (B : Nat → Int) (J : Nat → Nat → Int64) (hok : cOK G B) : Ct l yX6_curveOf cX6_curveOf 4 (some (.object "EliminateLoci$Curve")) { frames := 5, cells := 0, slots := 0, locals := 139 } 0 0 D (TY ce) [.ref (h 0), .int (zI 1)] (cW ce h pl ar G L B J) (QR D (TY ce) (fun r w1 => ∃ G2 : Nat → Int, ∃ L2 : Nat → Nat → Int64, ∃ B2 : Nat → Int, ∃ J2 : Nat → Nat → Int64, r = (h 7) ∧ w1 = cW ce h pl ar G2 L2 B2 J2 ∧ (cOK G2 B2) ∧ (∀ k, k < 3 → L2 k = L k))) := by
  refine Ct.ofR (by decide) (Nat.le_of_ble_eq_true rfl) (Or.inl ⟨_, rfl⟩) ?_
  intro p e s m args below meth c A Q hX hnm hR
  refine Z.pick (lv' := [(0, .ref (h 0)), (1, .int (zI 1))]) [0, 1] rfl ?_
  obtain ⟨hB, hg0, hg2, hg3, hg5, hg6, hg1, hg4⟩ := id hok
  unfold bl at hg0 hg2 hg3 hg5 hg6
  refine Z.iload_n hX dX6_curveOf_0 rfl rfl ?_
  refine Z.if_ne hX 11 dX6_curveOf_1 (by decide) ⟨by omega, by omega⟩ ?_ ?_
  · intro c1
    refine Z.aload_n hX dX6_curveOf_11 rfl rfl ?_
    refine Z.getf hX 6 0 6 dX6_curveOf_12 rfl rfl inX6 (by decide) fl_X6_47 rfl rfl ?_
    refine Z.astore_n (lv' := [(2, .ref (h 7)), (0, .ref (h 0)), (1, .int (zI 1))]) hX dX6_curveOf_15 rfl (by decide) rfl ?_
    refine Z.aload_n hX dX6_curveOf_16 rfl rfl ?_
    refine Z.getf hX 0 7 2 dX6_curveOf_17 rfl rfl inX0 (by decide) fl_X6_144 rfl rfl ?_
    refine Z.if_ne hX 90 dX6_curveOf_20 (by decide) ⟨by omega, by omega⟩ ?_ ?_
    · intro c2
      refine Z.aload_n hX dX6_curveOf_90 rfl rfl ?_
      exact hR _ _ _ _ dX6_curveOf_91 ⟨G, L, B, J, rfl, rfl, hok, (fun _ _ => rfl)⟩
    · intro c2
      refine Z.iload_n hX dX6_curveOf_23 rfl rfl ?_
      refine Z.if_ne hX 41 dX6_curveOf_24 (by decide) ⟨by omega, by omega⟩ ?_ ?_
      · intro c3
        refine Z.aload_n hX dX6_curveOf_41 rfl rfl ?_
        refine Z.getf hX 6 0 3 dX6_curveOf_42 rfl rfl inX6 (by decide) fl_X6_29 rfl rfl ?_
        refine Z.aload_n hX dX6_curveOf_45 rfl rfl ?_
        refine Z.getf hX 6 0 0 dX6_curveOf_46 rfl rfl inX6 (by decide) fl_X6_10 rfl rfl ?_
        refine Z.callVfi (As := [.ref (h 1)]) (rest := []) hX 2 4 rfl rfl (ct_X2_takeLines l D ce h pl ar G L B J hB) mc_X2_takeLines ml_X6_155 im_X2_takeLines se_X2_takeLines ini_X2 nd_X2_takeLines ⟨Nat.le_of_ble_eq_true rfl, Nat.le_of_ble_eq_true rfl⟩ ⟨rfl, rfl⟩ ⟨Nat.le_refl _, Nat.le_refl _⟩ rfl (Nat.le_of_ble_eq_true rfl) dX6_curveOf_49 ?_
        rintro r_4 w1 ⟨sz, B25, J26, hr_, hw_, tk1, tk2⟩
        subst hr_
        subst hw_
        refine Z.istore_n (lv' := [(3, .int (zI sz)), (2, .ref (h 7)), (0, .ref (h 0)), (1, .int (zI 1))]) hX dX6_curveOf_52 rfl (by decide) rfl ?_
        refine Z.aload_n hX dX6_curveOf_53 rfl rfl ?_
        refine Z.iload_n hX dX6_curveOf_54 rfl rfl ?_
        refine Z.if_le hX 81 dX6_curveOf_55 (by decide) ⟨by omega, by omega⟩ ?_ ?_
        · intro c7
          refine Z.iconst hX dX6_curveOf_81 ?_
          refine Z.putf (ty := .boolean) hX 0 7 3 tyX0 dX6_curveOf_82 rfl rfl inX0 tyX0_ok nmX0 (by decide) fl_X6_106 rfl rfl (by decide +kernel) rfl rfl (Nat.le_of_ble_eq_true rfl) ?_
          obtain ⟨G8, eG8⟩ : ∃ F' : Nat → Int, F' = va_up G 6 (0) := ⟨_, rfl⟩
          refine Z.toW (w' := cW ce h pl ar G8 L B25 J26) (by rw [eG8]; rfl) ?_
          have gG8 : G8 6 = 0 := by rw [eG8]; exact up_eq
          have fG8 : ∀ j_, j_ ≠ 6 → G8 j_ = G j_ := fun j_ hj_ => by rw [eG8]; exact up_ne hj_
          refine Z.aload_n hX dX6_curveOf_85 rfl rfl ?_
          refine Z.iconst hX dX6_curveOf_86 ?_
          refine Z.putf (ty := .boolean) hX 0 7 2 tyX0 dX6_curveOf_87 rfl rfl inX0 tyX0_ok nmX0 (by decide) fl_X6_144 rfl rfl (by decide +kernel) rfl rfl (Nat.le_of_ble_eq_true rfl) ?_
          obtain ⟨G9, eG9⟩ : ∃ F' : Nat → Int, F' = va_up G8 5 (1) := ⟨_, rfl⟩
          refine Z.toW (w' := cW ce h pl ar G9 L B25 J26) (by rw [eG9]; rfl) ?_
          have gG9 : G9 5 = 1 := by rw [eG9]; exact up_eq
          have fG9 : ∀ j_, j_ ≠ 5 → G9 j_ = G8 j_ := fun j_ hj_ => by rw [eG9]; exact up_ne hj_
          refine Z.aload_n hX dX6_curveOf_90 rfl rfl ?_
          exact hR _ _ _ _ dX6_curveOf_91 ⟨G9, L, B25, J26, rfl, rfl, (cok_of tk1 (by have := fG8 0 (by decide); have := fG9 0 (by decide); unfold bl at *; omega) (by have := fG8 1 (by decide); have := fG9 1 (by decide); unfold bl at *; omega) (by have := fG8 2 (by decide); have := fG9 2 (by decide); unfold bl at *; omega) (by have := fG8 3 (by decide); have := fG9 3 (by decide); unfold bl at *; omega) (by have := fG8 4 (by decide); have := fG9 4 (by decide); unfold bl at *; omega) (by have := fG8 5 (by decide); unfold bl at *; omega) (by have := fG9 6 (by decide); unfold bl at *; omega)), (fun _ _ => rfl)⟩
        · intro c7
          refine Z.aload_n hX dX6_curveOf_58 rfl rfl ?_
          refine Z.getf hX 6 0 4 dX6_curveOf_59 rfl rfl inX6 (by decide) fl_X6_36 rfl rfl ?_
          refine Z.aload_n hX dX6_curveOf_62 rfl rfl ?_
          refine Z.getf hX 6 0 3 dX6_curveOf_63 rfl rfl inX6 (by decide) fl_X6_29 rfl rfl ?_
          refine Z.iload_n hX dX6_curveOf_66 rfl rfl ?_
          refine Z.callVfr (As := [.int (zI sz)]) (rest := [.ref (h 5), .ref (h 7)]) hX 2 4 rfl rfl (ct_X2_resultant l D ce h pl ar G L B25 J26 sz tk1 (by omega)) mc_X2_resultant ml_X6_158 im_X2_resultant se_X2_resultant ini_X2 nd_X2_resultant ⟨Nat.le_of_ble_eq_true rfl, Nat.le_of_ble_eq_true rfl⟩ ⟨rfl, rfl⟩ ⟨Nat.le_refl _, Nat.le_refl _⟩ rfl (Nat.le_of_ble_eq_true rfl) dX6_curveOf_67 ?_
          rintro r_10 w1 ⟨k211, B212, J213, hr_, hw_, rs1, rs2⟩
          subst hr_
          subst hw_
          refine Z.aload_n hX dX6_curveOf_70 rfl rfl ?_
          refine Z.callVfi (As := [.ref (pl k211), .ref (h 7)]) (rest := [.ref (h 7)]) hX 4 5 rfl rfl (ct_X4_findRoot_e l D ce h pl ar G L B212 J213 k211 rs1 (by omega)) mc_X4_findRoot ml_X6_162 im_X4_findRoot se_X4_findRoot ini_X4 nd_X4_findRoot ⟨Nat.le_of_ble_eq_true rfl, Nat.le_of_ble_eq_true rfl⟩ ⟨rfl, rfl⟩ ⟨Nat.le_refl _, Nat.le_refl _⟩ rfl (Nat.le_of_ble_eq_true rfl) dX6_curveOf_71 ?_
          rintro r_14 w1 ⟨fz, G215, B216, J217, hr_, hw_, fz1, fz2, fz3, fz4⟩
          subst hr_
          subst hw_
          refine Z.if_eq hX 81 dX6_curveOf_74 (by decide) ⟨by omega, by omega⟩ ?_ ?_
          · intro c18
            refine Z.iconst hX dX6_curveOf_81 ?_
            refine Z.putf (ty := .boolean) hX 0 7 3 tyX0 dX6_curveOf_82 rfl rfl inX0 tyX0_ok nmX0 (by decide) fl_X6_106 rfl rfl (by decide +kernel) rfl rfl (Nat.le_of_ble_eq_true rfl) ?_
            obtain ⟨G19, eG19⟩ : ∃ F' : Nat → Int, F' = va_up G215 6 (0) := ⟨_, rfl⟩
            refine Z.toW (w' := cW ce h pl ar G19 L B216 J217) (by rw [eG19]; rfl) ?_
            have gG19 : G19 6 = 0 := by rw [eG19]; exact up_eq
            have fG19 : ∀ j_, j_ ≠ 6 → G19 j_ = G215 j_ := fun j_ hj_ => by rw [eG19]; exact up_ne hj_
            refine Z.aload_n hX dX6_curveOf_85 rfl rfl ?_
            refine Z.iconst hX dX6_curveOf_86 ?_
            refine Z.putf (ty := .boolean) hX 0 7 2 tyX0 dX6_curveOf_87 rfl rfl inX0 tyX0_ok nmX0 (by decide) fl_X6_144 rfl rfl (by decide +kernel) rfl rfl (Nat.le_of_ble_eq_true rfl) ?_
            obtain ⟨G20, eG20⟩ : ∃ F' : Nat → Int, F' = va_up G19 5 (1) := ⟨_, rfl⟩
            refine Z.toW (w' := cW ce h pl ar G20 L B216 J217) (by rw [eG20]; rfl) ?_
            have gG20 : G20 5 = 1 := by rw [eG20]; exact up_eq
            have fG20 : ∀ j_, j_ ≠ 5 → G20 j_ = G19 j_ := fun j_ hj_ => by rw [eG20]; exact up_ne hj_
            refine Z.aload_n hX dX6_curveOf_90 rfl rfl ?_
            exact hR _ _ _ _ dX6_curveOf_91 ⟨G20, L, B216, J217, rfl, rfl, (cok_of fz2 (by have := fz3 0 (by decide); have := fG19 0 (by decide); have := fG20 0 (by decide); unfold bl at *; omega) (by have := fz3 1 (by decide); have := fG19 1 (by decide); have := fG20 1 (by decide); unfold bl at *; omega) (by have := fz3 2 (by decide); have := fG19 2 (by decide); have := fG20 2 (by decide); unfold bl at *; omega) (by have := fz3 3 (by decide); have := fG19 3 (by decide); have := fG20 3 (by decide); unfold bl at *; omega) (by have := fG19 4 (by decide); have := fG20 4 (by decide); unfold bl at *; omega) (by have := fz3 5 (by decide); have := fG19 5 (by decide); unfold bl at *; omega) (by have := fz3 6 (by decide); have := fG20 6 (by decide); unfold bl at *; omega)), (fun _ _ => rfl)⟩
          · intro c18
            refine Z.iconst hX dX6_curveOf_77 ?_
            refine Z.goto hX 82 dX6_curveOf_78 (by decide) ?_
            refine Z.putf (ty := .boolean) hX 0 7 3 tyX0 dX6_curveOf_82 rfl rfl inX0 tyX0_ok nmX0 (by decide) fl_X6_106 rfl rfl (by decide +kernel) rfl rfl (Nat.le_of_ble_eq_true rfl) ?_
            obtain ⟨G21, eG21⟩ : ∃ F' : Nat → Int, F' = va_up G215 6 (1) := ⟨_, rfl⟩
            refine Z.toW (w' := cW ce h pl ar G21 L B216 J217) (by rw [eG21]; rfl) ?_
            have gG21 : G21 6 = 1 := by rw [eG21]; exact up_eq
            have fG21 : ∀ j_, j_ ≠ 6 → G21 j_ = G215 j_ := fun j_ hj_ => by rw [eG21]; exact up_ne hj_
            refine Z.aload_n hX dX6_curveOf_85 rfl rfl ?_
            refine Z.iconst hX dX6_curveOf_86 ?_
            refine Z.putf (ty := .boolean) hX 0 7 2 tyX0 dX6_curveOf_87 rfl rfl inX0 tyX0_ok nmX0 (by decide) fl_X6_144 rfl rfl (by decide +kernel) rfl rfl (Nat.le_of_ble_eq_true rfl) ?_
            obtain ⟨G22, eG22⟩ : ∃ F' : Nat → Int, F' = va_up G21 5 (1) := ⟨_, rfl⟩
            refine Z.toW (w' := cW ce h pl ar G22 L B216 J217) (by rw [eG22]; rfl) ?_
            have gG22 : G22 5 = 1 := by rw [eG22]; exact up_eq
            have fG22 : ∀ j_, j_ ≠ 5 → G22 j_ = G21 j_ := fun j_ hj_ => by rw [eG22]; exact up_ne hj_
            refine Z.aload_n hX dX6_curveOf_90 rfl rfl ?_
            exact hR _ _ _ _ dX6_curveOf_91 ⟨G22, L, B216, J217, rfl, rfl, (cok_of fz2 (by have := fz3 0 (by decide); have := fG21 0 (by decide); have := fG22 0 (by decide); unfold bl at *; omega) (by have := fz3 1 (by decide); have := fG21 1 (by decide); have := fG22 1 (by decide); unfold bl at *; omega) (by have := fz3 2 (by decide); have := fG21 2 (by decide); have := fG22 2 (by decide); unfold bl at *; omega) (by have := fz3 3 (by decide); have := fG21 3 (by decide); have := fG22 3 (by decide); unfold bl at *; omega) (by have := fG21 4 (by decide); have := fG22 4 (by decide); unfold bl at *; omega) (by have := fz3 5 (by decide); have := fG21 5 (by decide); unfold bl at *; omega) (by have := fz3 6 (by decide); have := fG22 6 (by decide); unfold bl at *; omega)), (fun _ _ => rfl)⟩
      · intro c3; exfalso; revert c3; decide
  · intro c1; exfalso; revert c1; decide

theorem dX6_moveTo_0 : decode cX6_moveTo 0 = .ok (.aload_n 0, 1) := by decide +kernel
theorem dX6_moveTo_1 : decode cX6_moveTo 1 = .ok (.getfield 10, 3) := by decide +kernel
theorem dX6_moveTo_4 : decode cX6_moveTo 4 = .ok (.invokevirtual 80, 3) := by decide +kernel
theorem dX6_moveTo_7 : decode cX6_moveTo 7 = .ok (.istore_n 3, 1) := by decide +kernel
theorem dX6_moveTo_8 : decode cX6_moveTo 8 = .ok (.iconst 0, 1) := by decide +kernel
theorem dX6_moveTo_9 : decode cX6_moveTo 9 = .ok (.istore 4, 2) := by decide +kernel
theorem dX6_moveTo_11 : decode cX6_moveTo 11 = .ok (.iload 4, 2) := by decide +kernel
theorem dX6_moveTo_13 : decode cX6_moveTo 13 = .ok (.iconst 3, 1) := by decide +kernel
theorem dX6_moveTo_14 : decode cX6_moveTo 14 = .ok (.if_icmp .ge 72, 3) := by decide +kernel
theorem dX6_moveTo_17 : decode cX6_moveTo 17 = .ok (.lconst 0, 1) := by decide +kernel
theorem dX6_moveTo_18 : decode cX6_moveTo 18 = .ok (.lstore 5, 2) := by decide +kernel
theorem dX6_moveTo_20 : decode cX6_moveTo 20 = .ok (.iconst 0, 1) := by decide +kernel
theorem dX6_moveTo_21 : decode cX6_moveTo 21 = .ok (.istore 7, 2) := by decide +kernel
theorem dX6_moveTo_23 : decode cX6_moveTo 23 = .ok (.iload 7, 2) := by decide +kernel
theorem dX6_moveTo_25 : decode cX6_moveTo 25 = .ok (.iload_n 3, 1) := by decide +kernel
theorem dX6_moveTo_26 : decode cX6_moveTo 26 = .ok (.if_icmp .gt 45, 3) := by decide +kernel
theorem dX6_moveTo_29 : decode cX6_moveTo 29 = .ok (.lload 5, 2) := by decide +kernel
theorem dX6_moveTo_31 : decode cX6_moveTo 31 = .ok (.aload_n 0, 1) := by decide +kernel
theorem dX6_moveTo_32 : decode cX6_moveTo 32 = .ok (.getfield 10, 3) := by decide +kernel
theorem dX6_moveTo_35 : decode cX6_moveTo 35 = .ok (.getfield 69, 3) := by decide +kernel
theorem dX6_moveTo_38 : decode cX6_moveTo 38 = .ok (.iload 4, 2) := by decide +kernel
theorem dX6_moveTo_40 : decode cX6_moveTo 40 = .ok (.aaload, 1) := by decide +kernel
theorem dX6_moveTo_41 : decode cX6_moveTo 41 = .ok (.iload 7, 2) := by decide +kernel
theorem dX6_moveTo_43 : decode cX6_moveTo 43 = .ok (.laload, 1) := by decide +kernel
theorem dX6_moveTo_44 : decode cX6_moveTo 44 = .ok (.iload_n 1, 1) := by decide +kernel
theorem dX6_moveTo_45 : decode cX6_moveTo 45 = .ok (.i2l, 1) := by decide +kernel
theorem dX6_moveTo_46 : decode cX6_moveTo 46 = .ok (.iload 7, 2) := by decide +kernel
theorem dX6_moveTo_48 : decode cX6_moveTo 48 = .ok (.invokestatic 166, 3) := by decide +kernel
theorem dX6_moveTo_51 : decode cX6_moveTo 51 = .ok (.lmul, 1) := by decide +kernel
theorem dX6_moveTo_52 : decode cX6_moveTo 52 = .ok (.iload_n 2, 1) := by decide +kernel
theorem dX6_moveTo_53 : decode cX6_moveTo 53 = .ok (.i2l, 1) := by decide +kernel
theorem dX6_moveTo_54 : decode cX6_moveTo 54 = .ok (.iload_n 3, 1) := by decide +kernel
theorem dX6_moveTo_55 : decode cX6_moveTo 55 = .ok (.iload 7, 2) := by decide +kernel
theorem dX6_moveTo_57 : decode cX6_moveTo 57 = .ok (.isub, 1) := by decide +kernel
theorem dX6_moveTo_58 : decode cX6_moveTo 58 = .ok (.invokestatic 166, 3) := by decide +kernel
theorem dX6_moveTo_61 : decode cX6_moveTo 61 = .ok (.lmul, 1) := by decide +kernel
theorem dX6_moveTo_62 : decode cX6_moveTo 62 = .ok (.ladd, 1) := by decide +kernel
theorem dX6_moveTo_63 : decode cX6_moveTo 63 = .ok (.lstore 5, 2) := by decide +kernel
theorem dX6_moveTo_65 : decode cX6_moveTo 65 = .ok (.iinc 7 1, 3) := by decide +kernel
theorem dX6_moveTo_68 : decode cX6_moveTo 68 = .ok (.goto (-45), 3) := by decide +kernel
theorem dX6_moveTo_71 : decode cX6_moveTo 71 = .ok (.aload_n 0, 1) := by decide +kernel
theorem dX6_moveTo_72 : decode cX6_moveTo 72 = .ok (.getfield 50, 3) := by decide +kernel
theorem dX6_moveTo_75 : decode cX6_moveTo 75 = .ok (.iload 4, 2) := by decide +kernel
theorem dX6_moveTo_77 : decode cX6_moveTo 77 = .ok (.lload 5, 2) := by decide +kernel
theorem dX6_moveTo_79 : decode cX6_moveTo 79 = .ok (.lastore, 1) := by decide +kernel
theorem dX6_moveTo_80 : decode cX6_moveTo 80 = .ok (.iinc 4 1, 3) := by decide +kernel
theorem dX6_moveTo_83 : decode cX6_moveTo 83 = .ok (.goto (-72), 3) := by decide +kernel
theorem dX6_moveTo_86 : decode cX6_moveTo 86 = .ok (.return_, 1) := by decide +kernel
set_option maxHeartbeats 4000000 in
set_option maxRecDepth 100000 in
theorem ct_X6_moveTo (l : Launch) (D : va_G) (ce : Nat → ClassId) (h pl ar : Nat → Nat) (G : Nat → Int) (L : Nat → Nat → Int64) (B : Nat → Int) (J : Nat → Nat → Int64) (u v : Int) (hu : -2147483648 ≤ u ∧ u < 2147483648) (hv : -2147483648 ≤ v ∧ v < 2147483648) : Ct l yX6_moveTo cX6_moveTo 8 none { frames := 1, cells := 0, slots := 0, locals := 25 } 0 0 D (TY ce) [.ref (h 0), .int (zI u), .int (zI v)] (cW ce h pl ar G L B J) (QV D (TY ce) (fun w1 => ∃ n : Int, ∃ L2 : Nat → Nat → Int64, w1 = cW ce h pl ar G L2 B J ∧ (HP L n) ∧ (∀ q : Int, 0 ≤ q → q < 3 → L2 9 q.toNat = wOf (L q.toNat) u v n) ∧ (∀ k, k ≠ 9 → L2 k = L k))) := by
  refine Ct.ofV (by decide) (Nat.le_of_ble_eq_true rfl) ?_
  intro p e s m args below meth c A Q hX hnm hR
  refine Z.pick (lv' := [(0, .ref (h 0)), (1, .int (zI u)), (2, .int (zI v))]) [0, 1, 2] rfl ?_
  refine Z.aload_n hX dX6_moveTo_0 rfl rfl ?_
  refine Z.getf hX 6 0 0 dX6_moveTo_1 rfl rfl inX6 (by decide) fl_X6_10 rfl rfl ?_
  refine Z.callVfi (As := []) (rest := []) hX 5 1 rfl rfl (ct_X5_highestPower_r l D ce h pl ar G L B J ) mc_X5_highestPower ml_X6_80 im_X5_highestPower se_X5_highestPower ini_X5 nd_X5_highestPower ⟨Nat.le_of_ble_eq_true rfl, Nat.le_of_ble_eq_true rfl⟩ ⟨rfl, rfl⟩ ⟨Nat.le_refl _, Nat.le_refl _⟩ rfl (Nat.le_of_ble_eq_true rfl) dX6_moveTo_4 ?_
  rintro r_1 w1 ⟨n, hr_, hw_, n1, n2, n3⟩
  subst hr_
  subst hw_
  refine Z.istore_n (lv' := [(3, .int (zI n)), (0, .ref (h 0)), (1, .int (zI u)), (2, .int (zI v))]) hX dX6_moveTo_7 rfl (by decide) rfl ?_
  refine Z.iconst hX dX6_moveTo_8 ?_
  refine Z.istore (lv' := [(4, .int (zI 0)), (3, .int (zI n)), (0, .ref (h 0)), (1, .int (zI u)), (2, .int (zI v))]) hX dX6_moveTo_9 (by decide) rfl ?_
  have key_11 : ∀ (N : Nat), ∀ (pt_ : Int) (M : Nat → Nat → Int64), (3 - pt_).toNat < N → (hp : 0 ≤ pt_ ∧ pt_ ≤ 3) → (hs : ∀ q : Int, 0 ≤ q → q < pt_ → M 9 q.toNat = wOf (L q.toNat) u v n) → (hM : ∀ k, k ≠ 9 → M k = L k) → Z p l e { frames := 1, cells := 0, slots := 0, locals := 25 } s m args below meth c D A 8 0 0 Q 11 [(4, .int (zI pt_)), (3, .int (zI n)), (2, .int (zI v)), (1, .int (zI u)), (0, .ref (h 0))] [] (cW ce h pl ar G M B J) := by
    intro N
    induction N with
    | zero => intro pt_ M hm; exact absurd hm (Nat.not_lt_zero _)
    | succ N ih_11 =>
      intro pt_ M hm hp hs hM
      refine Z.iload hX dX6_moveTo_11 rfl ?_
      refine Z.iconst hX dX6_moveTo_13 ?_
      refine Z.icmp_ge hX 86 dX6_moveTo_14 (by decide) ⟨by omega, by omega⟩ ⟨by omega, by omega⟩ ?_ ?_
      · intro c2
        exact hR _ _ _ dX6_moveTo_86 ⟨_, M, rfl, ⟨n1, n2, n3⟩, (fun q h1 h2 => hs q h1 (by omega)), hM⟩
      · intro c2
        refine Z.lconst (v := 0) hX dX6_moveTo_17 rfl ?_
        refine Z.lstore (lv' := [(5, .long 0), (4, .int (zI pt_)), (3, .int (zI n)), (2, .int (zI v)), (1, .int (zI u)), (0, .ref (h 0))]) hX dX6_moveTo_18 (by decide) rfl ?_
        refine Z.iconst hX dX6_moveTo_20 ?_
        refine Z.istore (lv' := [(7, .int (zI 0)), (5, .long 0), (4, .int (zI pt_)), (3, .int (zI n)), (2, .int (zI v)), (1, .int (zI u)), (0, .ref (h 0))]) hX dX6_moveTo_21 (by decide) rfl ?_
        have key_23 : ∀ (N : Nat), ∀ (i : Int) (x : Int64), (n + 1 - i).toNat < N → (hi : 0 ≤ i ∧ i ≤ n + 1) → (hx : x = wsum (L (pt_ : Int).toNat) (zL u) (zL v) n i.toNat) → Z p l e { frames := 1, cells := 0, slots := 0, locals := 25 } s m args below meth c D A 8 0 0 Q 23 [(7, .int (zI i)), (5, .long x), (4, .int (zI pt_)), (3, .int (zI n)), (2, .int (zI v)), (1, .int (zI u)), (0, .ref (h 0))] [] (cW ce h pl ar G M B J) := by
          intro N
          induction N with
          | zero => intro i x hm; exact absurd hm (Nat.not_lt_zero _)
          | succ N ih_23 =>
            intro i x hm hi hx
            refine Z.iload hX dX6_moveTo_23 rfl ?_
            refine Z.iload_n hX dX6_moveTo_25 rfl rfl ?_
            refine Z.icmp_gt hX 71 dX6_moveTo_26 (by decide) ⟨by omega, by omega⟩ ⟨by omega, by omega⟩ ?_ ?_
            · intro c3
              refine Z.aload_n hX dX6_moveTo_71 rfl rfl ?_
              refine Z.getf hX 6 0 7 dX6_moveTo_72 rfl rfl inX6 (by decide) fl_X6_50 rfl rfl ?_
              refine Z.iload hX dX6_moveTo_75 rfl ?_
              refine Z.lload hX dX6_moveTo_77 rfl ?_
              refine Z.lastore hX 8 1 dX6_moveTo_79 rfl rfl (by omega) (by omega) (by decide) ?_
              obtain ⟨L4, eL4⟩ : ∃ J' : Nat → Nat → Int64, J' = va_up M 9 (vp_updL (M 9) (pt_ : Int).toNat (x)) := ⟨_, rfl⟩
              refine Z.toW (w' := cW ce h pl ar G L4 B J) (by rw [eL4]; rfl) ?_
              have gL4 : L4 9 = vp_updL (M 9) (pt_ : Int).toNat (x) := by rw [eL4]; exact up_eq
              have fL4 : ∀ j_, j_ ≠ 9 → L4 j_ = M j_ := fun j_ hj_ => by rw [eL4]; exact up_ne hj_
              refine Z.iinc (lv' := [(4, .int (zI (pt_ + 1))), (7, .int (zI i)), (5, .long x), (3, .int (zI n)), (2, .int (zI v)), (1, .int (zI u)), (0, .ref (h 0))]) hX dX6_moveTo_80 rfl (by decide) rfl ?_
              refine Z.goto hX 11 dX6_moveTo_83 (by decide) ?_
              refine Z.pick [0, 3, 4, 5, 6] rfl ?_
              exact ih_11 _ _ (by omega) (by omega) (sp_s (g := fun a => wOf (L a) u v n) hp.1 gL4 (by rw [hx]; unfold wOf; congr 1; omega) hs) (fun j_ h_9 => ((fL4 j_ h_9).trans (hM j_ h_9)))
            · intro c3
              refine Z.lload hX dX6_moveTo_29 rfl ?_
              refine Z.aload_n hX dX6_moveTo_31 rfl rfl ?_
              refine Z.getf hX 6 0 0 dX6_moveTo_32 rfl rfl inX6 (by decide) fl_X6_10 rfl rfl ?_
              refine Z.getf hX 5 1 0 dX6_moveTo_35 rfl rfl inX5 (by decide) fl_X6_69 rfl rfl ?_
              refine Z.iload hX dX6_moveTo_38 rfl ?_
              refine Z.aaload hX 9 3 dX6_moveTo_40 rfl rfl rfl (by omega) (by omega) (by decide) rfl ?_
              refine Z.iload hX dX6_moveTo_41 rfl ?_
              refine Z.laload hX (18 + (pt_ : Int).toNat) 1 dX6_moveTo_43 (cW_in (by omega)) rfl (by omega) (by omega) (by decide) ?_
              refine Z.iload_n hX dX6_moveTo_44 rfl rfl ?_
              refine Z.i2l hX dX6_moveTo_45 ⟨by omega, by omega⟩ ?_
              refine Z.iload hX dX6_moveTo_46 rfl ?_
              refine Z.callS0l (As := [.long (zL u), .int (zI i)]) (rest := [.long (M ((pt_ : Int).toNat) (i : Int).toNat), .long x]) hX (ct_X6_powerOf l D ce (zL u) i (by omega)) mc_X6_powerOf ml_X6_166 st_X6_powerOf ini_X6 nd_X6_powerOf ⟨Nat.le_of_ble_eq_true rfl, Nat.le_of_ble_eq_true rfl⟩ ⟨rfl, rfl⟩ ⟨Nat.le_refl _, Nat.le_refl _⟩ rfl (Nat.le_of_ble_eq_true rfl) dX6_moveTo_48 ?_
              rintro ra w1 ⟨r06, hr_, hw_, hra⟩
              subst hr_
              refine ⟨hw_, ?_⟩
              refine Z.lmul hX dX6_moveTo_51 ?_
              refine Z.iload_n hX dX6_moveTo_52 rfl rfl ?_
              refine Z.i2l hX dX6_moveTo_53 ⟨by omega, by omega⟩ ?_
              refine Z.iload_n hX dX6_moveTo_54 rfl rfl ?_
              refine Z.iload hX dX6_moveTo_55 rfl ?_
              refine Z.isub hX dX6_moveTo_57 ?_
              refine Z.callS0l (As := [.long (zL v), .int (zI (n - i))]) (rest := [.long ((M ((pt_ : Int).toNat) (i : Int).toNat) * ra), .long x]) hX (ct_X6_powerOf l D ce (zL v) (n - i) (by omega)) mc_X6_powerOf ml_X6_166 st_X6_powerOf ini_X6 nd_X6_powerOf ⟨Nat.le_of_ble_eq_true rfl, Nat.le_of_ble_eq_true rfl⟩ ⟨rfl, rfl⟩ ⟨Nat.le_refl _, Nat.le_refl _⟩ rfl (Nat.le_of_ble_eq_true rfl) dX6_moveTo_58 ?_
              rintro rb w1 ⟨r08, hr_, hw_, hrb⟩
              subst hr_
              refine ⟨hw_, ?_⟩
              refine Z.lmul hX dX6_moveTo_61 ?_
              refine Z.ladd hX dX6_moveTo_62 ?_
              refine Z.lstore (lv' := [(5, .long (x + (((M ((pt_ : Int).toNat) (i : Int).toNat) * ra) * rb))), (7, .int (zI i)), (4, .int (zI pt_)), (3, .int (zI n)), (2, .int (zI v)), (1, .int (zI u)), (0, .ref (h 0))]) hX dX6_moveTo_63 (by decide) rfl ?_
              refine Z.iinc (lv' := [(7, .int (zI (i + 1))), (5, .long (x + (((M ((pt_ : Int).toNat) (i : Int).toNat) * ra) * rb))), (4, .int (zI pt_)), (3, .int (zI n)), (2, .int (zI v)), (1, .int (zI u)), (0, .ref (h 0))]) hX dX6_moveTo_65 rfl (by decide) rfl ?_
              refine Z.goto hX 23 dX6_moveTo_68 (by decide) ?_
              refine Z.pick [0, 1, 2, 3, 4, 5, 6] rfl ?_
              exact ih_23 _ _ (by omega) (by omega) (by rw [hM (pt_ : Int).toNat (by omega)]; exact wsum_s hi.1 hx hra hrb)
        refine Z.pick [0, 1, 2, 3, 4, 5, 6] rfl ?_
        exact key_23 _ _ _ (Nat.lt_succ_self _) (by omega) rfl
  refine Z.pick [0, 1, 4, 3, 2] rfl ?_
  exact key_11 _ _ _ (Nat.lt_succ_self _) (by omega) (fun q h1 h2 => by omega) (fun _ _ => rfl)

theorem dX6_slopeByU_0 : decode cX6_slopeByU 0 = .ok (.lconst 0, 1) := by decide +kernel
theorem dX6_slopeByU_1 : decode cX6_slopeByU 1 = .ok (.lstore 5, 2) := by decide +kernel
theorem dX6_slopeByU_3 : decode cX6_slopeByU 3 = .ok (.iconst 1, 1) := by decide +kernel
theorem dX6_slopeByU_4 : decode cX6_slopeByU 4 = .ok (.istore 7, 2) := by decide +kernel
theorem dX6_slopeByU_6 : decode cX6_slopeByU 6 = .ok (.iload 7, 2) := by decide +kernel
theorem dX6_slopeByU_8 : decode cX6_slopeByU 8 = .ok (.iload 4, 2) := by decide +kernel
theorem dX6_slopeByU_10 : decode cX6_slopeByU 10 = .ok (.if_icmp .gt 51, 3) := by decide +kernel
theorem dX6_slopeByU_13 : decode cX6_slopeByU 13 = .ok (.lload 5, 2) := by decide +kernel
theorem dX6_slopeByU_15 : decode cX6_slopeByU 15 = .ok (.iload 7, 2) := by decide +kernel
theorem dX6_slopeByU_17 : decode cX6_slopeByU 17 = .ok (.i2l, 1) := by decide +kernel
theorem dX6_slopeByU_18 : decode cX6_slopeByU 18 = .ok (.aload_n 0, 1) := by decide +kernel
theorem dX6_slopeByU_19 : decode cX6_slopeByU 19 = .ok (.getfield 10, 3) := by decide +kernel
theorem dX6_slopeByU_22 : decode cX6_slopeByU 22 = .ok (.getfield 69, 3) := by decide +kernel
theorem dX6_slopeByU_25 : decode cX6_slopeByU 25 = .ok (.iload_n 1, 1) := by decide +kernel
theorem dX6_slopeByU_26 : decode cX6_slopeByU 26 = .ok (.aaload, 1) := by decide +kernel
theorem dX6_slopeByU_27 : decode cX6_slopeByU 27 = .ok (.iload 7, 2) := by decide +kernel
theorem dX6_slopeByU_29 : decode cX6_slopeByU 29 = .ok (.laload, 1) := by decide +kernel
theorem dX6_slopeByU_30 : decode cX6_slopeByU 30 = .ok (.lmul, 1) := by decide +kernel
theorem dX6_slopeByU_31 : decode cX6_slopeByU 31 = .ok (.iload_n 2, 1) := by decide +kernel
theorem dX6_slopeByU_32 : decode cX6_slopeByU 32 = .ok (.i2l, 1) := by decide +kernel
theorem dX6_slopeByU_33 : decode cX6_slopeByU 33 = .ok (.iload 7, 2) := by decide +kernel
theorem dX6_slopeByU_35 : decode cX6_slopeByU 35 = .ok (.iconst 1, 1) := by decide +kernel
theorem dX6_slopeByU_36 : decode cX6_slopeByU 36 = .ok (.isub, 1) := by decide +kernel
theorem dX6_slopeByU_37 : decode cX6_slopeByU 37 = .ok (.invokestatic 166, 3) := by decide +kernel
theorem dX6_slopeByU_40 : decode cX6_slopeByU 40 = .ok (.lmul, 1) := by decide +kernel
theorem dX6_slopeByU_41 : decode cX6_slopeByU 41 = .ok (.iload_n 3, 1) := by decide +kernel
theorem dX6_slopeByU_42 : decode cX6_slopeByU 42 = .ok (.i2l, 1) := by decide +kernel
theorem dX6_slopeByU_43 : decode cX6_slopeByU 43 = .ok (.iload 4, 2) := by decide +kernel
theorem dX6_slopeByU_45 : decode cX6_slopeByU 45 = .ok (.iload 7, 2) := by decide +kernel
theorem dX6_slopeByU_47 : decode cX6_slopeByU 47 = .ok (.isub, 1) := by decide +kernel
theorem dX6_slopeByU_48 : decode cX6_slopeByU 48 = .ok (.invokestatic 166, 3) := by decide +kernel
theorem dX6_slopeByU_51 : decode cX6_slopeByU 51 = .ok (.lmul, 1) := by decide +kernel
theorem dX6_slopeByU_52 : decode cX6_slopeByU 52 = .ok (.ladd, 1) := by decide +kernel
theorem dX6_slopeByU_53 : decode cX6_slopeByU 53 = .ok (.lstore 5, 2) := by decide +kernel
theorem dX6_slopeByU_55 : decode cX6_slopeByU 55 = .ok (.iinc 7 1, 3) := by decide +kernel
theorem dX6_slopeByU_58 : decode cX6_slopeByU 58 = .ok (.goto (-52), 3) := by decide +kernel
theorem dX6_slopeByU_61 : decode cX6_slopeByU 61 = .ok (.lload 5, 2) := by decide +kernel
theorem dX6_slopeByU_63 : decode cX6_slopeByU 63 = .ok (.lreturn, 1) := by decide +kernel
set_option maxHeartbeats 4000000 in
set_option maxRecDepth 100000 in
theorem ct_X6_slopeByU (l : Launch) (D : va_G) (ce : Nat → ClassId) (h pl ar : Nat → Nat) (G : Nat → Int) (L : Nat → Nat → Int64) (B : Nat → Int) (J : Nat → Nat → Int64) (wh u v tp : Int) (hw : 0 ≤ wh ∧ wh ≤ 2) (hu : -2147483648 ≤ u ∧ u < 2147483648) (hv : -2147483648 ≤ v ∧ v < 2147483648) (ht : 0 ≤ tp ∧ tp ≤ 4) : Ct l yX6_slopeByU cX6_slopeByU 8 (some .long) { frames := 1, cells := 0, slots := 0, locals := 25 } 0 0 D (TY ce) [.ref (h 0), .int (zI wh), .int (zI u), .int (zI v), .int (zI tp)] (cW ce h pl ar G L B J) (QL D (TY ce) (fun r w1 => ∃ r0 : Int64, r = r0 ∧ w1 = cW ce h pl ar G L B J)) := by
  refine Ct.ofL (by decide) (Nat.le_of_ble_eq_true rfl) ?_
  intro p e s m args below meth c A Q hX hnm hR
  refine Z.pick (lv' := [(0, .ref (h 0)), (1, .int (zI wh)), (2, .int (zI u)), (3, .int (zI v)), (4, .int (zI tp))]) [0, 1, 2, 3, 4] rfl ?_
  refine Z.lconst (v := 0) hX dX6_slopeByU_0 rfl ?_
  refine Z.lstore (lv' := [(5, .long 0), (0, .ref (h 0)), (1, .int (zI wh)), (2, .int (zI u)), (3, .int (zI v)), (4, .int (zI tp))]) hX dX6_slopeByU_1 (by decide) rfl ?_
  refine Z.iconst hX dX6_slopeByU_3 ?_
  refine Z.istore (lv' := [(7, .int (zI 1)), (5, .long 0), (0, .ref (h 0)), (1, .int (zI wh)), (2, .int (zI u)), (3, .int (zI v)), (4, .int (zI tp))]) hX dX6_slopeByU_4 (by decide) rfl ?_
  have key_6 : ∀ (N : Nat), ∀ (i : Int) (x : Int64), (tp + 1 - i).toNat < N → (hi : 0 ≤ i ∧ i ≤ tp + 1) → Z p l e { frames := 1, cells := 0, slots := 0, locals := 25 } s m args below meth c D A 8 0 0 Q 6 [(7, .int (zI i)), (5, .long x), (4, .int (zI tp)), (3, .int (zI v)), (2, .int (zI u)), (1, .int (zI wh)), (0, .ref (h 0))] [] (cW ce h pl ar G L B J) := by
    intro N
    induction N with
    | zero => intro i x hm; exact absurd hm (Nat.not_lt_zero _)
    | succ N ih_6 =>
      intro i x hm hi
      refine Z.iload hX dX6_slopeByU_6 rfl ?_
      refine Z.iload hX dX6_slopeByU_8 rfl ?_
      refine Z.icmp_gt hX 61 dX6_slopeByU_10 (by decide) ⟨by omega, by omega⟩ ⟨by omega, by omega⟩ ?_ ?_
      · intro c1
        refine Z.lload hX dX6_slopeByU_61 rfl ?_
        exact hR _ _ _ _ dX6_slopeByU_63 ⟨x, rfl, rfl⟩
      · intro c1
        refine Z.lload hX dX6_slopeByU_13 rfl ?_
        refine Z.iload hX dX6_slopeByU_15 rfl ?_
        refine Z.i2l hX dX6_slopeByU_17 ⟨by omega, by omega⟩ ?_
        refine Z.aload_n hX dX6_slopeByU_18 rfl rfl ?_
        refine Z.getf hX 6 0 0 dX6_slopeByU_19 rfl rfl inX6 (by decide) fl_X6_10 rfl rfl ?_
        refine Z.getf hX 5 1 0 dX6_slopeByU_22 rfl rfl inX5 (by decide) fl_X6_69 rfl rfl ?_
        refine Z.iload_n hX dX6_slopeByU_25 rfl rfl ?_
        refine Z.aaload hX 9 3 dX6_slopeByU_26 rfl rfl rfl (by omega) (by omega) (by decide) rfl ?_
        refine Z.iload hX dX6_slopeByU_27 rfl ?_
        refine Z.laload hX (18 + (wh : Int).toNat) 1 dX6_slopeByU_29 (cW_in (by omega)) rfl (by omega) (by omega) (by decide) ?_
        refine Z.lmul hX dX6_slopeByU_30 ?_
        refine Z.iload_n hX dX6_slopeByU_31 rfl rfl ?_
        refine Z.i2l hX dX6_slopeByU_32 ⟨by omega, by omega⟩ ?_
        refine Z.iload hX dX6_slopeByU_33 rfl ?_
        refine Z.iconst hX dX6_slopeByU_35 ?_
        refine Z.isub hX dX6_slopeByU_36 ?_
        refine Z.callS0l (As := [.long (zL u), .int (zI (i - 1))]) (rest := [.long ((zL i) * (L ((wh : Int).toNat) (i : Int).toNat)), .long x]) hX (ct_X6_powerOf l D ce (zL u) (i - 1) (by omega)) mc_X6_powerOf ml_X6_166 st_X6_powerOf ini_X6 nd_X6_powerOf ⟨Nat.le_of_ble_eq_true rfl, Nat.le_of_ble_eq_true rfl⟩ ⟨rfl, rfl⟩ ⟨Nat.le_refl _, Nat.le_refl _⟩ rfl (Nat.le_of_ble_eq_true rfl) dX6_slopeByU_37 ?_
        rintro r_2 w1 ⟨r03, hr_, hw_, hq4⟩
        subst hr_
        refine ⟨hw_, ?_⟩
        refine Z.lmul hX dX6_slopeByU_40 ?_
        refine Z.iload_n hX dX6_slopeByU_41 rfl rfl ?_
        refine Z.i2l hX dX6_slopeByU_42 ⟨by omega, by omega⟩ ?_
        refine Z.iload hX dX6_slopeByU_43 rfl ?_
        refine Z.iload hX dX6_slopeByU_45 rfl ?_
        refine Z.isub hX dX6_slopeByU_47 ?_
        refine Z.callS0l (As := [.long (zL v), .int (zI (tp - i))]) (rest := [.long (((zL i) * (L ((wh : Int).toNat) (i : Int).toNat)) * r_2), .long x]) hX (ct_X6_powerOf l D ce (zL v) (tp - i) (by omega)) mc_X6_powerOf ml_X6_166 st_X6_powerOf ini_X6 nd_X6_powerOf ⟨Nat.le_of_ble_eq_true rfl, Nat.le_of_ble_eq_true rfl⟩ ⟨rfl, rfl⟩ ⟨Nat.le_refl _, Nat.le_refl _⟩ rfl (Nat.le_of_ble_eq_true rfl) dX6_slopeByU_48 ?_
        rintro r_5 w1 ⟨r06, hr_, hw_, hq7⟩
        subst hr_
        refine ⟨hw_, ?_⟩
        refine Z.lmul hX dX6_slopeByU_51 ?_
        refine Z.ladd hX dX6_slopeByU_52 ?_
        refine Z.lstore (lv' := [(5, .long (x + ((((zL i) * (L ((wh : Int).toNat) (i : Int).toNat)) * r_2) * r_5))), (7, .int (zI i)), (4, .int (zI tp)), (3, .int (zI v)), (2, .int (zI u)), (1, .int (zI wh)), (0, .ref (h 0))]) hX dX6_slopeByU_53 (by decide) rfl ?_
        refine Z.iinc (lv' := [(7, .int (zI (i + 1))), (5, .long (x + ((((zL i) * (L ((wh : Int).toNat) (i : Int).toNat)) * r_2) * r_5))), (4, .int (zI tp)), (3, .int (zI v)), (2, .int (zI u)), (1, .int (zI wh)), (0, .ref (h 0))]) hX dX6_slopeByU_55 rfl (by decide) rfl ?_
        refine Z.goto hX 6 dX6_slopeByU_58 (by decide) ?_
        refine Z.pick [0, 1, 2, 3, 4, 5, 6] rfl ?_
        exact ih_6 _ _ (by omega) (by omega)
  refine Z.pick [0, 1, 6, 5, 4, 3, 2] rfl ?_
  exact key_6 _ _ _ (Nat.lt_succ_self _) (by omega)

theorem dX6_slopeByV_0 : decode cX6_slopeByV 0 = .ok (.lconst 0, 1) := by decide +kernel
theorem dX6_slopeByV_1 : decode cX6_slopeByV 1 = .ok (.lstore 5, 2) := by decide +kernel
theorem dX6_slopeByV_3 : decode cX6_slopeByV 3 = .ok (.iconst 0, 1) := by decide +kernel
theorem dX6_slopeByV_4 : decode cX6_slopeByV 4 = .ok (.istore 7, 2) := by decide +kernel
theorem dX6_slopeByV_6 : decode cX6_slopeByV 6 = .ok (.iload 7, 2) := by decide +kernel
theorem dX6_slopeByV_8 : decode cX6_slopeByV 8 = .ok (.iload 4, 2) := by decide +kernel
theorem dX6_slopeByV_10 : decode cX6_slopeByV 10 = .ok (.if_icmp .ge 54, 3) := by decide +kernel
theorem dX6_slopeByV_13 : decode cX6_slopeByV 13 = .ok (.lload 5, 2) := by decide +kernel
theorem dX6_slopeByV_15 : decode cX6_slopeByV 15 = .ok (.iload 4, 2) := by decide +kernel
theorem dX6_slopeByV_17 : decode cX6_slopeByV 17 = .ok (.iload 7, 2) := by decide +kernel
theorem dX6_slopeByV_19 : decode cX6_slopeByV 19 = .ok (.isub, 1) := by decide +kernel
theorem dX6_slopeByV_20 : decode cX6_slopeByV 20 = .ok (.i2l, 1) := by decide +kernel
theorem dX6_slopeByV_21 : decode cX6_slopeByV 21 = .ok (.aload_n 0, 1) := by decide +kernel
theorem dX6_slopeByV_22 : decode cX6_slopeByV 22 = .ok (.getfield 10, 3) := by decide +kernel
theorem dX6_slopeByV_25 : decode cX6_slopeByV 25 = .ok (.getfield 69, 3) := by decide +kernel
theorem dX6_slopeByV_28 : decode cX6_slopeByV 28 = .ok (.iload_n 1, 1) := by decide +kernel
theorem dX6_slopeByV_29 : decode cX6_slopeByV 29 = .ok (.aaload, 1) := by decide +kernel
theorem dX6_slopeByV_30 : decode cX6_slopeByV 30 = .ok (.iload 7, 2) := by decide +kernel
theorem dX6_slopeByV_32 : decode cX6_slopeByV 32 = .ok (.laload, 1) := by decide +kernel
theorem dX6_slopeByV_33 : decode cX6_slopeByV 33 = .ok (.lmul, 1) := by decide +kernel
theorem dX6_slopeByV_34 : decode cX6_slopeByV 34 = .ok (.iload_n 2, 1) := by decide +kernel
theorem dX6_slopeByV_35 : decode cX6_slopeByV 35 = .ok (.i2l, 1) := by decide +kernel
theorem dX6_slopeByV_36 : decode cX6_slopeByV 36 = .ok (.iload 7, 2) := by decide +kernel
theorem dX6_slopeByV_38 : decode cX6_slopeByV 38 = .ok (.invokestatic 166, 3) := by decide +kernel
theorem dX6_slopeByV_41 : decode cX6_slopeByV 41 = .ok (.lmul, 1) := by decide +kernel
theorem dX6_slopeByV_42 : decode cX6_slopeByV 42 = .ok (.iload_n 3, 1) := by decide +kernel
theorem dX6_slopeByV_43 : decode cX6_slopeByV 43 = .ok (.i2l, 1) := by decide +kernel
theorem dX6_slopeByV_44 : decode cX6_slopeByV 44 = .ok (.iload 4, 2) := by decide +kernel
theorem dX6_slopeByV_46 : decode cX6_slopeByV 46 = .ok (.iconst 1, 1) := by decide +kernel
theorem dX6_slopeByV_47 : decode cX6_slopeByV 47 = .ok (.isub, 1) := by decide +kernel
theorem dX6_slopeByV_48 : decode cX6_slopeByV 48 = .ok (.iload 7, 2) := by decide +kernel
theorem dX6_slopeByV_50 : decode cX6_slopeByV 50 = .ok (.isub, 1) := by decide +kernel
theorem dX6_slopeByV_51 : decode cX6_slopeByV 51 = .ok (.invokestatic 166, 3) := by decide +kernel
theorem dX6_slopeByV_54 : decode cX6_slopeByV 54 = .ok (.lmul, 1) := by decide +kernel
theorem dX6_slopeByV_55 : decode cX6_slopeByV 55 = .ok (.ladd, 1) := by decide +kernel
theorem dX6_slopeByV_56 : decode cX6_slopeByV 56 = .ok (.lstore 5, 2) := by decide +kernel
theorem dX6_slopeByV_58 : decode cX6_slopeByV 58 = .ok (.iinc 7 1, 3) := by decide +kernel
theorem dX6_slopeByV_61 : decode cX6_slopeByV 61 = .ok (.goto (-55), 3) := by decide +kernel
theorem dX6_slopeByV_64 : decode cX6_slopeByV 64 = .ok (.lload 5, 2) := by decide +kernel
theorem dX6_slopeByV_66 : decode cX6_slopeByV 66 = .ok (.lreturn, 1) := by decide +kernel
set_option maxHeartbeats 4000000 in
set_option maxRecDepth 100000 in
theorem ct_X6_slopeByV (l : Launch) (D : va_G) (ce : Nat → ClassId) (h pl ar : Nat → Nat) (G : Nat → Int) (L : Nat → Nat → Int64) (B : Nat → Int) (J : Nat → Nat → Int64) (wh u v tp : Int) (hw : 0 ≤ wh ∧ wh ≤ 2) (hu : -2147483648 ≤ u ∧ u < 2147483648) (hv : -2147483648 ≤ v ∧ v < 2147483648) (ht : 0 ≤ tp ∧ tp ≤ 4) : Ct l yX6_slopeByV cX6_slopeByV 8 (some .long) { frames := 1, cells := 0, slots := 0, locals := 25 } 0 0 D (TY ce) [.ref (h 0), .int (zI wh), .int (zI u), .int (zI v), .int (zI tp)] (cW ce h pl ar G L B J) (QL D (TY ce) (fun r w1 => ∃ r0 : Int64, r = r0 ∧ w1 = cW ce h pl ar G L B J)) := by
  refine Ct.ofL (by decide) (Nat.le_of_ble_eq_true rfl) ?_
  intro p e s m args below meth c A Q hX hnm hR
  refine Z.pick (lv' := [(0, .ref (h 0)), (1, .int (zI wh)), (2, .int (zI u)), (3, .int (zI v)), (4, .int (zI tp))]) [0, 1, 2, 3, 4] rfl ?_
  refine Z.lconst (v := 0) hX dX6_slopeByV_0 rfl ?_
  refine Z.lstore (lv' := [(5, .long 0), (0, .ref (h 0)), (1, .int (zI wh)), (2, .int (zI u)), (3, .int (zI v)), (4, .int (zI tp))]) hX dX6_slopeByV_1 (by decide) rfl ?_
  refine Z.iconst hX dX6_slopeByV_3 ?_
  refine Z.istore (lv' := [(7, .int (zI 0)), (5, .long 0), (0, .ref (h 0)), (1, .int (zI wh)), (2, .int (zI u)), (3, .int (zI v)), (4, .int (zI tp))]) hX dX6_slopeByV_4 (by decide) rfl ?_
  have key_6 : ∀ (N : Nat), ∀ (i : Int) (x : Int64), (tp + 1 - i).toNat < N → (hi : 0 ≤ i ∧ i ≤ tp + 1) → Z p l e { frames := 1, cells := 0, slots := 0, locals := 25 } s m args below meth c D A 8 0 0 Q 6 [(7, .int (zI i)), (5, .long x), (4, .int (zI tp)), (3, .int (zI v)), (2, .int (zI u)), (1, .int (zI wh)), (0, .ref (h 0))] [] (cW ce h pl ar G L B J) := by
    intro N
    induction N with
    | zero => intro i x hm; exact absurd hm (Nat.not_lt_zero _)
    | succ N ih_6 =>
      intro i x hm hi
      refine Z.iload hX dX6_slopeByV_6 rfl ?_
      refine Z.iload hX dX6_slopeByV_8 rfl ?_
      refine Z.icmp_ge hX 64 dX6_slopeByV_10 (by decide) ⟨by omega, by omega⟩ ⟨by omega, by omega⟩ ?_ ?_
      · intro c1
        refine Z.lload hX dX6_slopeByV_64 rfl ?_
        exact hR _ _ _ _ dX6_slopeByV_66 ⟨x, rfl, rfl⟩
      · intro c1
        refine Z.lload hX dX6_slopeByV_13 rfl ?_
        refine Z.iload hX dX6_slopeByV_15 rfl ?_
        refine Z.iload hX dX6_slopeByV_17 rfl ?_
        refine Z.isub hX dX6_slopeByV_19 ?_
        refine Z.i2l hX dX6_slopeByV_20 ⟨by omega, by omega⟩ ?_
        refine Z.aload_n hX dX6_slopeByV_21 rfl rfl ?_
        refine Z.getf hX 6 0 0 dX6_slopeByV_22 rfl rfl inX6 (by decide) fl_X6_10 rfl rfl ?_
        refine Z.getf hX 5 1 0 dX6_slopeByV_25 rfl rfl inX5 (by decide) fl_X6_69 rfl rfl ?_
        refine Z.iload_n hX dX6_slopeByV_28 rfl rfl ?_
        refine Z.aaload hX 9 3 dX6_slopeByV_29 rfl rfl rfl (by omega) (by omega) (by decide) rfl ?_
        refine Z.iload hX dX6_slopeByV_30 rfl ?_
        refine Z.laload hX (18 + (wh : Int).toNat) 1 dX6_slopeByV_32 (cW_in (by omega)) rfl (by omega) (by omega) (by decide) ?_
        refine Z.lmul hX dX6_slopeByV_33 ?_
        refine Z.iload_n hX dX6_slopeByV_34 rfl rfl ?_
        refine Z.i2l hX dX6_slopeByV_35 ⟨by omega, by omega⟩ ?_
        refine Z.iload hX dX6_slopeByV_36 rfl ?_
        refine Z.callS0l (As := [.long (zL u), .int (zI i)]) (rest := [.long ((zL (tp - i)) * (L ((wh : Int).toNat) (i : Int).toNat)), .long x]) hX (ct_X6_powerOf l D ce (zL u) i (by omega)) mc_X6_powerOf ml_X6_166 st_X6_powerOf ini_X6 nd_X6_powerOf ⟨Nat.le_of_ble_eq_true rfl, Nat.le_of_ble_eq_true rfl⟩ ⟨rfl, rfl⟩ ⟨Nat.le_refl _, Nat.le_refl _⟩ rfl (Nat.le_of_ble_eq_true rfl) dX6_slopeByV_38 ?_
        rintro r_2 w1 ⟨r03, hr_, hw_, hq4⟩
        subst hr_
        refine ⟨hw_, ?_⟩
        refine Z.lmul hX dX6_slopeByV_41 ?_
        refine Z.iload_n hX dX6_slopeByV_42 rfl rfl ?_
        refine Z.i2l hX dX6_slopeByV_43 ⟨by omega, by omega⟩ ?_
        refine Z.iload hX dX6_slopeByV_44 rfl ?_
        refine Z.iconst hX dX6_slopeByV_46 ?_
        refine Z.isub hX dX6_slopeByV_47 ?_
        refine Z.iload hX dX6_slopeByV_48 rfl ?_
        refine Z.isub hX dX6_slopeByV_50 ?_
        refine Z.callS0l (As := [.long (zL v), .int (zI ((tp - 1) - i))]) (rest := [.long (((zL (tp - i)) * (L ((wh : Int).toNat) (i : Int).toNat)) * r_2), .long x]) hX (ct_X6_powerOf l D ce (zL v) ((tp - 1) - i) (by omega)) mc_X6_powerOf ml_X6_166 st_X6_powerOf ini_X6 nd_X6_powerOf ⟨Nat.le_of_ble_eq_true rfl, Nat.le_of_ble_eq_true rfl⟩ ⟨rfl, rfl⟩ ⟨Nat.le_refl _, Nat.le_refl _⟩ rfl (Nat.le_of_ble_eq_true rfl) dX6_slopeByV_51 ?_
        rintro r_5 w1 ⟨r06, hr_, hw_, hq7⟩
        subst hr_
        refine ⟨hw_, ?_⟩
        refine Z.lmul hX dX6_slopeByV_54 ?_
        refine Z.ladd hX dX6_slopeByV_55 ?_
        refine Z.lstore (lv' := [(5, .long (x + ((((zL (tp - i)) * (L ((wh : Int).toNat) (i : Int).toNat)) * r_2) * r_5))), (7, .int (zI i)), (4, .int (zI tp)), (3, .int (zI v)), (2, .int (zI u)), (1, .int (zI wh)), (0, .ref (h 0))]) hX dX6_slopeByV_56 (by decide) rfl ?_
        refine Z.iinc (lv' := [(7, .int (zI (i + 1))), (5, .long (x + ((((zL (tp - i)) * (L ((wh : Int).toNat) (i : Int).toNat)) * r_2) * r_5))), (4, .int (zI tp)), (3, .int (zI v)), (2, .int (zI u)), (1, .int (zI wh)), (0, .ref (h 0))]) hX dX6_slopeByV_58 rfl (by decide) rfl ?_
        refine Z.goto hX 6 dX6_slopeByV_61 (by decide) ?_
        refine Z.pick [0, 1, 2, 3, 4, 5, 6] rfl ?_
        exact ih_6 _ _ (by omega) (by omega)
  refine Z.pick [0, 1, 6, 5, 4, 3, 2] rfl ?_
  exact key_6 _ _ _ (Nat.lt_succ_self _) (by omega)

