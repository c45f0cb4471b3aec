set_option maxHeartbeats 4000000 in
set_option maxRecDepth 100000 in
theorem ct_X6_freeRow_x (l : Launch) (D : va_G) (ce : Nat → ClassId) (h pl ar : Nat → Nat) (G : Nat → Int) (L : Nat → Nat → Int64) (B : Nat → Int) (J : Nat → Nat → Int64) (hok : cOK G B) (hbl : bL L) (hfi : FI G L) : Ct l yX6_freeRow cX6_freeRow 1 (some (.object "EliminateLoci$Row")) { frames := 4, cells := 0, slots := 0, locals := 108 } 0 0 D (TY ce) [.ref (h 0)] (cW ce h pl ar G L B J) (QR D (TY ce) (fun r w1 => ∃ G2 : Nat → Int, ∃ L2 : Nat → Nat → Int64, r = (h 2) ∧ w1 = cW ce h pl ar G2 L2 B J ∧ (∀ k, k ≠ 0 → G2 k = G k) ∧ (bl (G2 0)) ∧ (∀ k, k < 3 → L2 k = L k) ∧ (FRs L (fun a => L2 (3 + a))))) := by
  refine Ct.ofR (by decide) (Nat.le_of_ble_eq_true rfl) (Or.inl ⟨_, rfl⟩) ?_
  intro p e s m args below meth c A Q hX hnm hR
  refine Z.pick (lv' := [(0, .ref (h 0))]) [0] rfl ?_
  obtain ⟨hB, hg0, hg2, hg3, hg5, hg6, hg1, hg4⟩ := id hok
  unfold bl at hg0 hg2 hg3 hg5 hg6
  refine Z.aload_n hX dX6_freeRow_0 rfl rfl ?_
  refine Z.getf hX 6 0 8 dX6_freeRow_1 rfl rfl inX6 (by decide) fl_X6_54 rfl rfl ?_
  refine Z.if_ne hX 27 dX6_freeRow_4 (by decide) ⟨by omega, by omega⟩ ?_ ?_
  · intro c1
    refine Z.aload_n hX dX6_freeRow_27 rfl rfl ?_
    refine Z.getf hX 6 0 1 dX6_freeRow_28 rfl rfl inX6 (by decide) fl_X6_16 rfl rfl ?_
    exact hR _ _ _ _ dX6_freeRow_31 ⟨G, L, rfl, rfl, (fun _ _ => rfl), (by unfold bl; omega), (fun _ _ => rfl), (hfi (by omega))⟩
  · intro c1
    refine Z.aload_n hX dX6_freeRow_7 rfl rfl ?_
    refine Z.getf hX 6 0 2 dX6_freeRow_8 rfl rfl inX6 (by decide) fl_X6_22 rfl rfl ?_
    refine Z.aload_n hX dX6_freeRow_11 rfl rfl ?_
    refine Z.getf hX 6 0 0 dX6_freeRow_12 rfl rfl inX6 (by decide) fl_X6_10 rfl rfl ?_
    refine Z.aload_n hX dX6_freeRow_15 rfl rfl ?_
    refine Z.getf hX 6 0 1 dX6_freeRow_16 rfl rfl inX6 (by decide) fl_X6_16 rfl rfl ?_
    refine Z.callVfv (As := [.ref (h 1), .ref (h 2)]) (rest := []) hX 1 3 rfl rfl (ct_X1_free_x l D ce h pl ar G L B J hbl) mc_X1_free ml_X6_147 im_X1_free se_X1_free ini_X1 nd_X1_free ⟨Nat.le_of_ble_eq_true rfl, Nat.le_of_ble_eq_true rfl⟩ ⟨rfl, rfl⟩ ⟨Nat.le_refl _, Nat.le_refl _⟩ rfl (Nat.le_of_ble_eq_true rfl) dX6_freeRow_19 ?_
    rintro w1 ⟨L23, hw_, hfr, hfs⟩
    subst hw_
    refine Z.aload_n hX dX6_freeRow_22 rfl rfl ?_
    refine Z.iconst hX dX6_freeRow_23 ?_
    refine Z.putf (ty := .boolean) hX 6 0 8 tyX6 dX6_freeRow_24 rfl rfl inX6 tyX6_ok nmX6 (by decide) fl_X6_54 rfl rfl (by decide +kernel) rfl rfl (Nat.le_of_ble_eq_true rfl) ?_
    obtain ⟨G4, eG4⟩ : ∃ F' : Nat → Int, F' = va_up G 0 (1) := ⟨_, rfl⟩
    refine Z.toW (w' := cW ce h pl ar G4 L23 B J) (by rw [eG4]; rfl) ?_
    have gG4 : G4 0 = 1 := by rw [eG4]; exact up_eq
    have fG4 : ∀ j_, j_ ≠ 0 → G4 j_ = G j_ := fun j_ hj_ => by rw [eG4]; exact up_ne hj_
    refine Z.aload_n hX dX6_freeRow_27 rfl rfl ?_
    refine Z.getf hX 6 0 1 dX6_freeRow_28 rfl rfl inX6 (by decide) fl_X6_16 rfl rfl ?_
    exact hR _ _ _ _ dX6_freeRow_31 ⟨G4, L23, rfl, rfl, (fun j_ h_0 => ((fG4 j_ h_0).trans rfl)), (by rw [gG4]; exact Or.inr rfl), (fun k h => hfr k (by omega) (by omega) (by omega) (by omega) (by omega) (by omega)), hfs⟩

set_option maxHeartbeats 4000000 in
set_option maxRecDepth 100000 in
theorem ct_X6_curveOf_lx (l : Launch) (D : va_G) (ce : Nat → ClassId) (h pl ar : Nat → Nat) (G : Nat → Int) (L : Nat → Nat → Int64) (B : Nat → Int) (J : Nat → Nat → Int64) (hok : cOK G B) (hbl : bL L) (hfi : FI G L) : Ct l yX6_curveOf cX6_curveOf 4 (some (.object "EliminateLoci$Curve")) { frames := 5, cells := 0, slots := 0, locals := 139 } 0 0 D (TY ce) [.ref (h 0), .int (zI 0)] (cW ce h pl ar G L B J) (QR D (TY ce) (fun r w1 => ∃ G2 : Nat → Int, ∃ L2 : Nat → Nat → Int64, ∃ B2 : Nat → Int, ∃ J2 : Nat → Nat → Int64, r = (h 6) ∧ w1 = cW ce h pl ar G2 L2 B2 J2 ∧ (cOK G2 B2) ∧ (∀ k, k < 3 → L2 k = L k) ∧ (FI G2 L2))) := by
  refine Ct.ofR (by decide) (Nat.le_of_ble_eq_true rfl) (Or.inl ⟨_, rfl⟩) ?_
  intro p e s m args below meth c A Q hX hnm hR
  refine Z.pick (lv' := [(0, .ref (h 0)), (1, .int (zI 0))]) [0, 1] rfl ?_
  obtain ⟨hB, hg0, hg2, hg3, hg5, hg6, hg1, hg4⟩ := id hok
  unfold bl at hg0 hg2 hg3 hg5 hg6
  refine Z.iload_n hX dX6_curveOf_0 rfl rfl ?_
  refine Z.if_ne hX 11 dX6_curveOf_1 (by decide) ⟨by omega, by omega⟩ ?_ ?_
  · intro c1; exfalso; revert c1; decide
  · intro c1
    refine Z.aload_n hX dX6_curveOf_4 rfl rfl ?_
    refine Z.getf hX 6 0 5 dX6_curveOf_5 rfl rfl inX6 (by decide) fl_X6_43 rfl rfl ?_
    refine Z.goto hX 15 dX6_curveOf_8 (by decide) ?_
    refine Z.astore_n (lv' := [(2, .ref (h 6)), (0, .ref (h 0)), (1, .int (zI 0))]) hX dX6_curveOf_15 rfl (by decide) rfl ?_
    refine Z.aload_n hX dX6_curveOf_16 rfl rfl ?_
    refine Z.getf hX 0 6 2 dX6_curveOf_17 rfl rfl inX0 (by decide) fl_X6_144 rfl rfl ?_
    refine Z.if_ne hX 90 dX6_curveOf_20 (by decide) ⟨by omega, by omega⟩ ?_ ?_
    · intro c2
      refine Z.aload_n hX dX6_curveOf_90 rfl rfl ?_
      exact hR _ _ _ _ dX6_curveOf_91 ⟨G, L, B, J, rfl, rfl, hok, (fun _ _ => rfl), hfi⟩
    · intro c2
      refine Z.iload_n hX dX6_curveOf_23 rfl rfl ?_
      refine Z.if_ne hX 41 dX6_curveOf_24 (by decide) ⟨by omega, by omega⟩ ?_ ?_
      · intro c3; exfalso; revert c3; decide
      · intro c3
        refine Z.aload_n hX dX6_curveOf_27 rfl rfl ?_
        refine Z.getf hX 6 0 3 dX6_curveOf_28 rfl rfl inX6 (by decide) fl_X6_29 rfl rfl ?_
        refine Z.aload_n hX dX6_curveOf_31 rfl rfl ?_
        refine Z.callVfr (As := []) (rest := [.ref (h 4)]) hX 6 0 rfl rfl (ct_X6_freeRow_x l D ce h pl ar G L B J hok hbl hfi) mc_X6_freeRow ml_X6_83 im_X6_freeRow se_X6_freeRow ini_X6 nd_X6_freeRow ⟨Nat.le_of_ble_eq_true rfl, Nat.le_of_ble_eq_true rfl⟩ ⟨rfl, rfl⟩ ⟨Nat.le_refl _, Nat.le_refl _⟩ rfl (Nat.le_of_ble_eq_true rfl) dX6_curveOf_32 ?_
        rintro r_4 w1 ⟨G25, L26, hr_, hw_, fr1, fr2, fr3, fr4⟩
        subst hr_
        subst hw_
        refine Z.callVfi (As := [.ref (h 2)]) (rest := []) hX 2 4 rfl rfl (ct_X2_takeMover l D ce h pl ar G25 L26 B J hB) mc_X2_takeMover ml_X6_151 im_X2_takeMover se_X2_takeMover ini_X2 nd_X2_takeMover ⟨Nat.le_of_ble_eq_true rfl, Nat.le_of_ble_eq_true rfl⟩ ⟨rfl, rfl⟩ ⟨Nat.le_refl _, Nat.le_refl _⟩ rfl (Nat.le_of_ble_eq_true rfl) dX6_curveOf_35 ?_
        rintro r_7 w1 ⟨sz, B28, J29, hr_, hw_, tk1, tk2⟩
        subst hr_
        subst hw_
        refine Z.goto hX 52 dX6_curveOf_38 (by decide) ?_
        refine Z.istore_n (lv' := [(3, .int (zI sz)), (2, .ref (h 6)), (0, .ref (h 0)), (1, .int (zI 0))]) hX dX6_curveOf_52 rfl (by decide) rfl ?_
        refine Z.aload_n hX dX6_curveOf_53 rfl rfl ?_
        refine Z.iload_n hX dX6_curveOf_54 rfl rfl ?_
        refine Z.if_le hX 81 dX6_curveOf_55 (by decide) ⟨by omega, by omega⟩ ?_ ?_
        · intro c10
          refine Z.iconst hX dX6_curveOf_81 ?_
          refine Z.putf (ty := .boolean) hX 0 6 3 tyX0 dX6_curveOf_82 rfl rfl inX0 tyX0_ok nmX0 (by decide) fl_X6_106 rfl rfl (by decide +kernel) rfl rfl (Nat.le_of_ble_eq_true rfl) ?_
          obtain ⟨G11, eG11⟩ : ∃ F' : Nat → Int, F' = va_up G25 3 (0) := ⟨_, rfl⟩
          refine Z.toW (w' := cW ce h pl ar G11 L26 B28 J29) (by rw [eG11]; rfl) ?_
          have gG11 : G11 3 = 0 := by rw [eG11]; exact up_eq
          have fG11 : ∀ j_, j_ ≠ 3 → G11 j_ = G25 j_ := fun j_ hj_ => by rw [eG11]; exact up_ne hj_
          refine Z.aload_n hX dX6_curveOf_85 rfl rfl ?_
          refine Z.iconst hX dX6_curveOf_86 ?_
          refine Z.putf (ty := .boolean) hX 0 6 2 tyX0 dX6_curveOf_87 rfl rfl inX0 tyX0_ok nmX0 (by decide) fl_X6_144 rfl rfl (by decide +kernel) rfl rfl (Nat.le_of_ble_eq_true rfl) ?_
          obtain ⟨G12, eG12⟩ : ∃ F' : Nat → Int, F' = va_up G11 2 (1) := ⟨_, rfl⟩
          refine Z.toW (w' := cW ce h pl ar G12 L26 B28 J29) (by rw [eG12]; rfl) ?_
          have gG12 : G12 2 = 1 := by rw [eG12]; exact up_eq
          have fG12 : ∀ j_, j_ ≠ 2 → G12 j_ = G11 j_ := fun j_ hj_ => by rw [eG12]; exact up_ne hj_
          refine Z.aload_n hX dX6_curveOf_90 rfl rfl ?_
          exact hR _ _ _ _ dX6_curveOf_91 ⟨G12, L26, B28, J29, rfl, rfl, (cok_of tk1 (by have := fG11 0 (by decide); have := fG12 0 (by decide); unfold bl at *; omega) (by have := fr1 1 (by decide); have := fG11 1 (by decide); have := fG12 1 (by decide); unfold bl at *; omega) (by have := fr1 2 (by decide); have := fG11 2 (by decide); unfold bl at *; omega) (by have := fr1 3 (by decide); have := fG12 3 (by decide); unfold bl at *; omega) (by have := fr1 4 (by decide); have := fG11 4 (by decide); have := fG12 4 (by decide); unfold bl at *; omega) (by have := fr1 5 (by decide); have := fG11 5 (by decide); have := fG12 5 (by decide); unfold bl at *; omega) (by have := fr1 6 (by decide); have := fG11 6 (by decide); have := fG12 6 (by decide); unfold bl at *; omega)), (fun k h => fr3 k h), (FI_f fr3 fr4)⟩
        · intro c10
          refine Z.aload_n hX dX6_curveOf_58 rfl rfl ?_
          refine Z.getf hX 6 0 4 dX6_curveOf_59 rfl rfl inX6 (by decide) fl_X6_36 rfl rfl ?_
          refine Z.aload_n hX dX6_curveOf_62 rfl rfl ?_
          refine Z.getf hX 6 0 3 dX6_curveOf_63 rfl rfl inX6 (by decide) fl_X6_29 rfl rfl ?_
          refine Z.iload_n hX dX6_curveOf_66 rfl rfl ?_
          refine Z.callVfr (As := [.int (zI sz)]) (rest := [.ref (h 5), .ref (h 6)]) hX 2 4 rfl rfl (ct_X2_resultant l D ce h pl ar G25 L26 B28 J29 sz tk1 (by omega)) mc_X2_resultant ml_X6_158 im_X2_resultant se_X2_resultant ini_X2 nd_X2_resultant ⟨Nat.le_of_ble_eq_true rfl, Nat.le_of_ble_eq_true rfl⟩ ⟨rfl, rfl⟩ ⟨Nat.le_refl _, Nat.le_refl _⟩ rfl (Nat.le_of_ble_eq_true rfl) dX6_curveOf_67 ?_
          rintro r_13 w1 ⟨k214, B215, J216, hr_, hw_, rs1, rs2⟩
          subst hr_
          subst hw_
          refine Z.aload_n hX dX6_curveOf_70 rfl rfl ?_
          refine Z.callVfi (As := [.ref (pl k214), .ref (h 6)]) (rest := [.ref (h 6)]) hX 4 5 rfl rfl (ct_X4_findRoot_l l D ce h pl ar G25 L26 B215 J216 k214 rs1 (by omega)) mc_X4_findRoot ml_X6_162 im_X4_findRoot se_X4_findRoot ini_X4 nd_X4_findRoot ⟨Nat.le_of_ble_eq_true rfl, Nat.le_of_ble_eq_true rfl⟩ ⟨rfl, rfl⟩ ⟨Nat.le_refl _, Nat.le_refl _⟩ rfl (Nat.le_of_ble_eq_true rfl) dX6_curveOf_71 ?_
          rintro r_17 w1 ⟨fz, G218, B219, J220, hr_, hw_, fz1, fz2, fz3, fz4⟩
          subst hr_
          subst hw_
          refine Z.if_eq hX 81 dX6_curveOf_74 (by decide) ⟨by omega, by omega⟩ ?_ ?_
          · intro c21
            refine Z.iconst hX dX6_curveOf_81 ?_
            refine Z.putf (ty := .boolean) hX 0 6 3 tyX0 dX6_curveOf_82 rfl rfl inX0 tyX0_ok nmX0 (by decide) fl_X6_106 rfl rfl (by decide +kernel) rfl rfl (Nat.le_of_ble_eq_true rfl) ?_
            obtain ⟨G22, eG22⟩ : ∃ F' : Nat → Int, F' = va_up G218 3 (0) := ⟨_, rfl⟩
            refine Z.toW (w' := cW ce h pl ar G22 L26 B219 J220) (by rw [eG22]; rfl) ?_
            have gG22 : G22 3 = 0 := by rw [eG22]; exact up_eq
            have fG22 : ∀ j_, j_ ≠ 3 → G22 j_ = G218 j_ := fun j_ hj_ => by rw [eG22]; exact up_ne hj_
            refine Z.aload_n hX dX6_curveOf_85 rfl rfl ?_
            refine Z.iconst hX dX6_curveOf_86 ?_
            refine Z.putf (ty := .boolean) hX 0 6 2 tyX0 dX6_curveOf_87 rfl rfl inX0 tyX0_ok nmX0 (by decide) fl_X6_144 rfl rfl (by decide +kernel) rfl rfl (Nat.le_of_ble_eq_true rfl) ?_
            obtain ⟨G23, eG23⟩ : ∃ F' : Nat → Int, F' = va_up G22 2 (1) := ⟨_, rfl⟩
            refine Z.toW (w' := cW ce h pl ar G23 L26 B219 J220) (by rw [eG23]; rfl) ?_
            have gG23 : G23 2 = 1 := by rw [eG23]; exact up_eq
            have fG23 : ∀ j_, j_ ≠ 2 → G23 j_ = G22 j_ := fun j_ hj_ => by rw [eG23]; exact up_ne hj_
            refine Z.aload_n hX dX6_curveOf_90 rfl rfl ?_
            exact hR _ _ _ _ dX6_curveOf_91 ⟨G23, L26, B219, J220, rfl, rfl, (cok_of fz2 (by have := fz3 0 (by decide); have := fG22 0 (by decide); have := fG23 0 (by decide); unfold bl at *; omega) (by have := fr1 1 (by decide); have := fG22 1 (by decide); have := fG23 1 (by decide); unfold bl at *; omega) (by have := fr1 2 (by decide); have := fz3 2 (by decide); have := fG22 2 (by decide); unfold bl at *; omega) (by have := fr1 3 (by decide); have := fz3 3 (by decide); have := fG23 3 (by decide); unfold bl at *; omega) (by have := fr1 4 (by decide); have := fz3 4 (by decide); have := fG22 4 (by decide); have := fG23 4 (by decide); unfold bl at *; omega) (by have := fr1 5 (by decide); have := fz3 5 (by decide); have := fG22 5 (by decide); have := fG23 5 (by decide); unfold bl at *; omega) (by have := fr1 6 (by decide); have := fz3 6 (by decide); have := fG22 6 (by decide); have := fG23 6 (by decide); unfold bl at *; omega)), (fun k h => fr3 k h), (FI_f fr3 fr4)⟩
          · intro c21
            refine Z.iconst hX dX6_curveOf_77 ?_
            refine Z.goto hX 82 dX6_curveOf_78 (by decide) ?_
            refine Z.putf (ty := .boolean) hX 0 6 3 tyX0 dX6_curveOf_82 rfl rfl inX0 tyX0_ok nmX0 (by decide) fl_X6_106 rfl rfl (by decide +kernel) rfl rfl (Nat.le_of_ble_eq_true rfl) ?_
            obtain ⟨G24, eG24⟩ : ∃ F' : Nat → Int, F' = va_up G218 3 (1) := ⟨_, rfl⟩
            refine Z.toW (w' := cW ce h pl ar G24 L26 B219 J220) (by rw [eG24]; rfl) ?_
            have gG24 : G24 3 = 1 := by rw [eG24]; exact up_eq
            have fG24 : ∀ j_, j_ ≠ 3 → G24 j_ = G218 j_ := fun j_ hj_ => by rw [eG24]; exact up_ne hj_
            refine Z.aload_n hX dX6_curveOf_85 rfl rfl ?_
            refine Z.iconst hX dX6_curveOf_86 ?_
            refine Z.putf (ty := .boolean) hX 0 6 2 tyX0 dX6_curveOf_87 rfl rfl inX0 tyX0_ok nmX0 (by decide) fl_X6_144 rfl rfl (by decide +kernel) rfl rfl (Nat.le_of_ble_eq_true rfl) ?_
            obtain ⟨G25, eG25⟩ : ∃ F' : Nat → Int, F' = va_up G24 2 (1) := ⟨_, rfl⟩
            refine Z.toW (w' := cW ce h pl ar G25 L26 B219 J220) (by rw [eG25]; rfl) ?_
            have gG25 : G25 2 = 1 := by rw [eG25]; exact up_eq
            have fG25 : ∀ j_, j_ ≠ 2 → G25 j_ = G24 j_ := fun j_ hj_ => by rw [eG25]; exact up_ne hj_
            refine Z.aload_n hX dX6_curveOf_90 rfl rfl ?_
            exact hR _ _ _ _ dX6_curveOf_91 ⟨G25, L26, B219, J220, rfl, rfl, (cok_of fz2 (by have := fz3 0 (by decide); have := fG24 0 (by decide); have := fG25 0 (by decide); unfold bl at *; omega) (by have := fr1 1 (by decide); have := fG24 1 (by decide); have := fG25 1 (by decide); unfold bl at *; omega) (by have := fr1 2 (by decide); have := fz3 2 (by decide); have := fG24 2 (by decide); unfold bl at *; omega) (by have := fr1 3 (by decide); have := fz3 3 (by decide); have := fG25 3 (by decide); unfold bl at *; omega) (by have := fr1 4 (by decide); have := fz3 4 (by decide); have := fG24 4 (by decide); have := fG25 4 (by decide); unfold bl at *; omega) (by have := fr1 5 (by decide); have := fz3 5 (by decide); have := fG24 5 (by decide); have := fG25 5 (by decide); unfold bl at *; omega) (by have := fr1 6 (by decide); have := fz3 6 (by decide); have := fG24 6 (by decide); have := fG25 6 (by decide); unfold bl at *; omega)), (fun k h => fr3 k h), (FI_f fr3 fr4)⟩

set_option maxHeartbeats 4000000 in
set_option maxRecDepth 100000 in
theorem ct_X6_curveOf_ex (l : Launch) (D : va_G) (ce : Nat → ClassId) (h pl ar : Nat → Nat) (G : Nat → Int) (L : Nat → Nat → Int64) (B : Nat → Int) (J : Nat → Nat → Int64) (hok : cOK G B) (hbl : bL L) (hfi : FI G L) : Ct l yX6_curveOf cX6_curveOf 4 (some (.object "EliminateLoci$Curve")) { frames := 5, cells := 0, slots := 0, locals := 139 } 0 0 D (TY ce) [.ref (h 0), .int (zI 1)] (cW ce h pl ar G L B J) (QR D (TY ce) (fun r w1 => ∃ G2 : Nat → Int, ∃ L2 : Nat → Nat → Int64, ∃ B2 : Nat → Int, ∃ J2 : Nat → Nat → Int64, r = (h 7) ∧ w1 = cW ce h pl ar G2 L2 B2 J2 ∧ (cOK G2 B2) ∧ (∀ k, k < 3 → L2 k = L k) ∧ (FI G2 L2))) := by
  refine Ct.ofR (by decide) (Nat.le_of_ble_eq_true rfl) (Or.inl ⟨_, rfl⟩) ?_
  intro p e s m args below meth c A Q hX hnm hR
  refine Z.pick (lv' := [(0, .ref (h 0)), (1, .int (zI 1))]) [0, 1] rfl ?_
  obtain ⟨hB, hg0, hg2, hg3, hg5, hg6, hg1, hg4⟩ := id hok
  unfold bl at hg0 hg2 hg3 hg5 hg6
  refine Z.iload_n hX dX6_curveOf_0 rfl rfl ?_
  refine Z.if_ne hX 11 dX6_curveOf_1 (by decide) ⟨by omega, by omega⟩ ?_ ?_
  · intro c1
    refine Z.aload_n hX dX6_curveOf_11 rfl rfl ?_
    refine Z.getf hX 6 0 6 dX6_curveOf_12 rfl rfl inX6 (by decide) fl_X6_47 rfl rfl ?_
    refine Z.astore_n (lv' := [(2, .ref (h 7)), (0, .ref (h 0)), (1, .int (zI 1))]) hX dX6_curveOf_15 rfl (by decide) rfl ?_
    refine Z.aload_n hX dX6_curveOf_16 rfl rfl ?_
    refine Z.getf hX 0 7 2 dX6_curveOf_17 rfl rfl inX0 (by decide) fl_X6_144 rfl rfl ?_
    refine Z.if_ne hX 90 dX6_curveOf_20 (by decide) ⟨by omega, by omega⟩ ?_ ?_
    · intro c2
      refine Z.aload_n hX dX6_curveOf_90 rfl rfl ?_
      exact hR _ _ _ _ dX6_curveOf_91 ⟨G, L, B, J, rfl, rfl, hok, (fun _ _ => rfl), hfi⟩
    · intro c2
      refine Z.iload_n hX dX6_curveOf_23 rfl rfl ?_
      refine Z.if_ne hX 41 dX6_curveOf_24 (by decide) ⟨by omega, by omega⟩ ?_ ?_
      · intro c3
        refine Z.aload_n hX dX6_curveOf_41 rfl rfl ?_
        refine Z.getf hX 6 0 3 dX6_curveOf_42 rfl rfl inX6 (by decide) fl_X6_29 rfl rfl ?_
        refine Z.aload_n hX dX6_curveOf_45 rfl rfl ?_
        refine Z.getf hX 6 0 0 dX6_curveOf_46 rfl rfl inX6 (by decide) fl_X6_10 rfl rfl ?_
        refine Z.callVfi (As := [.ref (h 1)]) (rest := []) hX 2 4 rfl rfl (ct_X2_takeLines l D ce h pl ar G L B J hB) mc_X2_takeLines ml_X6_155 im_X2_takeLines se_X2_takeLines ini_X2 nd_X2_takeLines ⟨Nat.le_of_ble_eq_true rfl, Nat.le_of_ble_eq_true rfl⟩ ⟨rfl, rfl⟩ ⟨Nat.le_refl _, Nat.le_refl _⟩ rfl (Nat.le_of_ble_eq_true rfl) dX6_curveOf_49 ?_
        rintro r_4 w1 ⟨sz, B25, J26, hr_, hw_, tk1, tk2⟩
        subst hr_
        subst hw_
        refine Z.istore_n (lv' := [(3, .int (zI sz)), (2, .ref (h 7)), (0, .ref (h 0)), (1, .int (zI 1))]) hX dX6_curveOf_52 rfl (by decide) rfl ?_
        refine Z.aload_n hX dX6_curveOf_53 rfl rfl ?_
        refine Z.iload_n hX dX6_curveOf_54 rfl rfl ?_
        refine Z.if_le hX 81 dX6_curveOf_55 (by decide) ⟨by omega, by omega⟩ ?_ ?_
        · intro c7
          refine Z.iconst hX dX6_curveOf_81 ?_
          refine Z.putf (ty := .boolean) hX 0 7 3 tyX0 dX6_curveOf_82 rfl rfl inX0 tyX0_ok nmX0 (by decide) fl_X6_106 rfl rfl (by decide +kernel) rfl rfl (Nat.le_of_ble_eq_true rfl) ?_
          obtain ⟨G8, eG8⟩ : ∃ F' : Nat → Int, F' = va_up G 6 (0) := ⟨_, rfl⟩
          refine Z.toW (w' := cW ce h pl ar G8 L B25 J26) (by rw [eG8]; rfl) ?_
          have gG8 : G8 6 = 0 := by rw [eG8]; exact up_eq
          have fG8 : ∀ j_, j_ ≠ 6 → G8 j_ = G j_ := fun j_ hj_ => by rw [eG8]; exact up_ne hj_
          refine Z.aload_n hX dX6_curveOf_85 rfl rfl ?_
          refine Z.iconst hX dX6_curveOf_86 ?_
          refine Z.putf (ty := .boolean) hX 0 7 2 tyX0 dX6_curveOf_87 rfl rfl inX0 tyX0_ok nmX0 (by decide) fl_X6_144 rfl rfl (by decide +kernel) rfl rfl (Nat.le_of_ble_eq_true rfl) ?_
          obtain ⟨G9, eG9⟩ : ∃ F' : Nat → Int, F' = va_up G8 5 (1) := ⟨_, rfl⟩
          refine Z.toW (w' := cW ce h pl ar G9 L B25 J26) (by rw [eG9]; rfl) ?_
          have gG9 : G9 5 = 1 := by rw [eG9]; exact up_eq
          have fG9 : ∀ j_, j_ ≠ 5 → G9 j_ = G8 j_ := fun j_ hj_ => by rw [eG9]; exact up_ne hj_
          refine Z.aload_n hX dX6_curveOf_90 rfl rfl ?_
          exact hR _ _ _ _ dX6_curveOf_91 ⟨G9, L, B25, J26, rfl, rfl, (cok_of tk1 (by have := fG8 0 (by decide); have := fG9 0 (by decide); unfold bl at *; omega) (by have := fG8 1 (by decide); have := fG9 1 (by decide); unfold bl at *; omega) (by have := fG8 2 (by decide); have := fG9 2 (by decide); unfold bl at *; omega) (by have := fG8 3 (by decide); have := fG9 3 (by decide); unfold bl at *; omega) (by have := fG8 4 (by decide); have := fG9 4 (by decide); unfold bl at *; omega) (by have := fG8 5 (by decide); unfold bl at *; omega) (by have := fG9 6 (by decide); unfold bl at *; omega)), (fun _ _ => rfl), (FI_k hfi (by have := fG8 0 (by decide); have := fG9 0 (by decide); unfold bl at *; omega) (fun _ _ => rfl))⟩
        · intro c7
          refine Z.aload_n hX dX6_curveOf_58 rfl rfl ?_
          refine Z.getf hX 6 0 4 dX6_curveOf_59 rfl rfl inX6 (by decide) fl_X6_36 rfl rfl ?_
          refine Z.aload_n hX dX6_curveOf_62 rfl rfl ?_
          refine Z.getf hX 6 0 3 dX6_curveOf_63 rfl rfl inX6 (by decide) fl_X6_29 rfl rfl ?_
          refine Z.iload_n hX dX6_curveOf_66 rfl rfl ?_
          refine Z.callVfr (As := [.int (zI sz)]) (rest := [.ref (h 5), .ref (h 7)]) hX 2 4 rfl rfl (ct_X2_resultant l D ce h pl ar G L B25 J26 sz tk1 (by omega)) mc_X2_resultant ml_X6_158 im_X2_resultant se_X2_resultant ini_X2 nd_X2_resultant ⟨Nat.le_of_ble_eq_true rfl, Nat.le_of_ble_eq_true rfl⟩ ⟨rfl, rfl⟩ ⟨Nat.le_refl _, Nat.le_refl _⟩ rfl (Nat.le_of_ble_eq_true rfl) dX6_curveOf_67 ?_
          rintro r_10 w1 ⟨k211, B212, J213, hr_, hw_, rs1, rs2⟩
          subst hr_
          subst hw_
          refine Z.aload_n hX dX6_curveOf_70 rfl rfl ?_
          refine Z.callVfi (As := [.ref (pl k211), .ref (h 7)]) (rest := [.ref (h 7)]) hX 4 5 rfl rfl (ct_X4_findRoot_e l D ce h pl ar G L B212 J213 k211 rs1 (by omega)) mc_X4_findRoot ml_X6_162 im_X4_findRoot se_X4_findRoot ini_X4 nd_X4_findRoot ⟨Nat.le_of_ble_eq_true rfl, Nat.le_of_ble_eq_true rfl⟩ ⟨rfl, rfl⟩ ⟨Nat.le_refl _, Nat.le_refl _⟩ rfl (Nat.le_of_ble_eq_true rfl) dX6_curveOf_71 ?_
          rintro r_14 w1 ⟨fz, G215, B216, J217, hr_, hw_, fz1, fz2, fz3, fz4⟩
          subst hr_
          subst hw_
          refine Z.if_eq hX 81 dX6_curveOf_74 (by decide) ⟨by omega, by omega⟩ ?_ ?_
          · intro c18
            refine Z.iconst hX dX6_curveOf_81 ?_
            refine Z.putf (ty := .boolean) hX 0 7 3 tyX0 dX6_curveOf_82 rfl rfl inX0 tyX0_ok nmX0 (by decide) fl_X6_106 rfl rfl (by decide +kernel) rfl rfl (Nat.le_of_ble_eq_true rfl) ?_
            obtain ⟨G19, eG19⟩ : ∃ F' : Nat → Int, F' = va_up G215 6 (0) := ⟨_, rfl⟩
            refine Z.toW (w' := cW ce h pl ar G19 L B216 J217) (by rw [eG19]; rfl) ?_
            have gG19 : G19 6 = 0 := by rw [eG19]; exact up_eq
            have fG19 : ∀ j_, j_ ≠ 6 → G19 j_ = G215 j_ := fun j_ hj_ => by rw [eG19]; exact up_ne hj_
            refine Z.aload_n hX dX6_curveOf_85 rfl rfl ?_
            refine Z.iconst hX dX6_curveOf_86 ?_
            refine Z.putf (ty := .boolean) hX 0 7 2 tyX0 dX6_curveOf_87 rfl rfl inX0 tyX0_ok nmX0 (by decide) fl_X6_144 rfl rfl (by decide +kernel) rfl rfl (Nat.le_of_ble_eq_true rfl) ?_
            obtain ⟨G20, eG20⟩ : ∃ F' : Nat → Int, F' = va_up G19 5 (1) := ⟨_, rfl⟩
            refine Z.toW (w' := cW ce h pl ar G20 L B216 J217) (by rw [eG20]; rfl) ?_
            have gG20 : G20 5 = 1 := by rw [eG20]; exact up_eq
            have fG20 : ∀ j_, j_ ≠ 5 → G20 j_ = G19 j_ := fun j_ hj_ => by rw [eG20]; exact up_ne hj_
            refine Z.aload_n hX dX6_curveOf_90 rfl rfl ?_
            exact hR _ _ _ _ dX6_curveOf_91 ⟨G20, L, B216, J217, rfl, rfl, (cok_of fz2 (by have := fz3 0 (by decide); have := fG19 0 (by decide); have := fG20 0 (by decide); unfold bl at *; omega) (by have := fz3 1 (by decide); have := fG19 1 (by decide); have := fG20 1 (by decide); unfold bl at *; omega) (by have := fz3 2 (by decide); have := fG19 2 (by decide); have := fG20 2 (by decide); unfold bl at *; omega) (by have := fz3 3 (by decide); have := fG19 3 (by decide); have := fG20 3 (by decide); unfold bl at *; omega) (by have := fG19 4 (by decide); have := fG20 4 (by decide); unfold bl at *; omega) (by have := fz3 5 (by decide); have := fG19 5 (by decide); unfold bl at *; omega) (by have := fz3 6 (by decide); have := fG20 6 (by decide); unfold bl at *; omega)), (fun _ _ => rfl), (FI_k hfi (by have := fz3 0 (by decide); have := fG19 0 (by decide); have := fG20 0 (by decide); unfold bl at *; omega) (fun _ _ => rfl))⟩
          · intro c18
            refine Z.iconst hX dX6_curveOf_77 ?_
            refine Z.goto hX 82 dX6_curveOf_78 (by decide) ?_
            refine Z.putf (ty := .boolean) hX 0 7 3 tyX0 dX6_curveOf_82 rfl rfl inX0 tyX0_ok nmX0 (by decide) fl_X6_106 rfl rfl (by decide +kernel) rfl rfl (Nat.le_of_ble_eq_true rfl) ?_
            obtain ⟨G21, eG21⟩ : ∃ F' : Nat → Int, F' = va_up G215 6 (1) := ⟨_, rfl⟩
            refine Z.toW (w' := cW ce h pl ar G21 L B216 J217) (by rw [eG21]; rfl) ?_
            have gG21 : G21 6 = 1 := by rw [eG21]; exact up_eq
            have fG21 : ∀ j_, j_ ≠ 6 → G21 j_ = G215 j_ := fun j_ hj_ => by rw [eG21]; exact up_ne hj_
            refine Z.aload_n hX dX6_curveOf_85 rfl rfl ?_
            refine Z.iconst hX dX6_curveOf_86 ?_
            refine Z.putf (ty := .boolean) hX 0 7 2 tyX0 dX6_curveOf_87 rfl rfl inX0 tyX0_ok nmX0 (by decide) fl_X6_144 rfl rfl (by decide +kernel) rfl rfl (Nat.le_of_ble_eq_true rfl) ?_
            obtain ⟨G22, eG22⟩ : ∃ F' : Nat → Int, F' = va_up G21 5 (1) := ⟨_, rfl⟩
            refine Z.toW (w' := cW ce h pl ar G22 L B216 J217) (by rw [eG22]; rfl) ?_
            have gG22 : G22 5 = 1 := by rw [eG22]; exact up_eq
            have fG22 : ∀ j_, j_ ≠ 5 → G22 j_ = G21 j_ := fun j_ hj_ => by rw [eG22]; exact up_ne hj_
            refine Z.aload_n hX dX6_curveOf_90 rfl rfl ?_
            exact hR _ _ _ _ dX6_curveOf_91 ⟨G22, L, B216, J217, rfl, rfl, (cok_of fz2 (by have := fz3 0 (by decide); have := fG21 0 (by decide); have := fG22 0 (by decide); unfold bl at *; omega) (by have := fz3 1 (by decide); have := fG21 1 (by decide); have := fG22 1 (by decide); unfold bl at *; omega) (by have := fz3 2 (by decide); have := fG21 2 (by decide); have := fG22 2 (by decide); unfold bl at *; omega) (by have := fz3 3 (by decide); have := fG21 3 (by decide); have := fG22 3 (by decide); unfold bl at *; omega) (by have := fG21 4 (by decide); have := fG22 4 (by decide); unfold bl at *; omega) (by have := fz3 5 (by decide); have := fG21 5 (by decide); unfold bl at *; omega) (by have := fz3 6 (by decide); have := fG22 6 (by decide); unfold bl at *; omega)), (fun _ _ => rfl), (FI_k hfi (by have := fz3 0 (by decide); have := fG21 0 (by decide); have := fG22 0 (by decide); unfold bl at *; omega) (fun _ _ => rfl))⟩
      · intro c3; exfalso; revert c3; decide
  · intro c1; exfalso; revert c1; decide

set_option maxHeartbeats 4000000 in
set_option maxRecDepth 100000 in
theorem ct_X6_term_x (l : Launch) (D : va_G) (ce : Nat → ClassId) (h pl ar : Nat → Nat) (G : Nat → Int) (L : Nat → Nat → Int64) (B : Nat → Int) (J : Nat → Nat → Int64) (wh i v : Int) (hok : cOK G B) (hbl : bL L) (hfi : FI G L) (hw : -2147483648 ≤ wh ∧ wh < 2147483648) (hi : -2147483648 ≤ i ∧ i < 2147483648) (hv : -2147483648 ≤ v ∧ v < 2147483648) : Ct l yX6_term cX6_term 5 (some .int) { frames := 1, cells := 0, slots := 0, locals := 21 } 0 0 D (TY ce) [.ref (h 0), .int (zI wh), .int (zI i), .int (zI v)] (cW ce h pl ar G L B J) (QI D (TY ce) (fun r w1 => ∃ z : Int, ∃ G2 : Nat → Int, ∃ L2 : Nat → Nat → Int64, ∃ B2 : Nat → Int, ∃ J2 : Nat → Nat → Int64, r = zI z ∧ w1 = cW ce h pl ar G2 L2 B2 J2 ∧ (cOK G2 B2) ∧ (¬ (0 ≤ wh ∧ wh ≤ 2 ∧ 0 ≤ i ∧ i ≤ 4 ∧ -7 ≤ v ∧ v ≤ 7) → z = -100 ∧ L2 = L) ∧ ((0 ≤ wh ∧ wh ≤ 2 ∧ 0 ≤ i ∧ i ≤ 4 ∧ -7 ≤ v ∧ v ≤ 7) → (L wh.toNat i.toNat).toInt32 = zI z ∧ ((z = v ∧ L2 = L) ∨ (L2 wh.toNat = vp_updL (L wh.toNat) i.toNat (zL v) ∧ ∀ k, k ≠ wh.toNat → L2 k = L k))) ∧ (FI G2 L2))) := by
  refine Ct.ofI (by decide) (Nat.le_of_ble_eq_true rfl) ?_
  intro p e s m args below meth c A Q hX hnm hR
  refine Z.pick (lv' := [(0, .ref (h 0)), (1, .int (zI wh)), (2, .int (zI i)), (3, .int (zI v))]) [0, 1, 2, 3] rfl ?_
  obtain ⟨hB, hg0, hg2, hg3, hg5, hg6, hg1, hg4⟩ := id hok
  unfold bl at hg0 hg2 hg3 hg5 hg6
  refine Z.iload_n hX dX6_term_0 rfl rfl ?_
  refine Z.callS0i (As := [.int (zI wh)]) (rest := []) hX (ct_X6_isPart l D ce wh (by omega)) mc_X6_isPart ml_X6_58 st_X6_isPart ini_X6 nd_X6_isPart ⟨Nat.le_of_ble_eq_true rfl, Nat.le_of_ble_eq_true rfl⟩ ⟨rfl, rfl⟩ ⟨Nat.le_refl _, Nat.le_refl _⟩ rfl (Nat.le_of_ble_eq_true rfl) dX6_term_1 ?_
  rintro r_1 w1 ⟨z1, hr_, hw_, p1⟩
  subst hr_
  refine ⟨hw_, ?_⟩
  refine Z.if_eq hX 23 dX6_term_4 (by decide) ⟨by omega, by omega⟩ ?_ ?_
  · intro c2
    refine Z.bipush hX dX6_term_23 (by decide) ?_
    exact hR _ _ _ _ dX6_term_25 ⟨(-100), G, L, B, J, rfl, rfl, hok, (fun _ => ⟨rfl, rfl⟩), (fun q => by omega), hfi⟩
  · intro c2
    refine Z.iload_n hX dX6_term_7 rfl rfl ?_
    refine Z.callS0i (As := [.int (zI i)]) (rest := []) hX (ct_X6_isPower l D ce i (by omega)) mc_X6_isPower ml_X6_62 st_X6_isPower ini_X6 nd_X6_isPower ⟨Nat.le_of_ble_eq_true rfl, Nat.le_of_ble_eq_true rfl⟩ ⟨rfl, rfl⟩ ⟨Nat.le_refl _, Nat.le_refl _⟩ rfl (Nat.le_of_ble_eq_true rfl) dX6_term_8 ?_
    rintro r_3 w1 ⟨z2, hr_, hw_, p2⟩
    subst hr_
    refine ⟨hw_, ?_⟩
    refine Z.if_eq hX 23 dX6_term_11 (by decide) ⟨by omega, by omega⟩ ?_ ?_
    · intro c4
      refine Z.bipush hX dX6_term_23 (by decide) ?_
      exact hR _ _ _ _ dX6_term_25 ⟨(-100), G, L, B, J, rfl, rfl, hok, (fun _ => ⟨rfl, rfl⟩), (fun q => by omega), hfi⟩
    · intro c4
      refine Z.iload_n hX dX6_term_14 rfl rfl ?_
      refine Z.bipush hX dX6_term_15 (by decide) ?_
      refine Z.callS0i (As := [.int (zI v), .int (zI 7)]) (rest := []) hX (ct_X6_isWithin l D ce v 7 hv (by omega)) mc_X6_isWithin ml_X6_65 st_X6_isWithin ini_X6 nd_X6_isWithin ⟨Nat.le_of_ble_eq_true rfl, Nat.le_of_ble_eq_true rfl⟩ ⟨rfl, rfl⟩ ⟨Nat.le_refl _, Nat.le_refl _⟩ rfl (Nat.le_of_ble_eq_true rfl) dX6_term_17 ?_
      rintro r_5 w1 ⟨z3, hr_, hw_, p3⟩
      subst hr_
      refine ⟨hw_, ?_⟩
      refine Z.if_ne hX 26 dX6_term_20 (by decide) ⟨by omega, by omega⟩ ?_ ?_
      · intro c6
        refine Z.aload_n hX dX6_term_26 rfl rfl ?_
        refine Z.getf hX 6 0 0 dX6_term_27 rfl rfl inX6 (by decide) fl_X6_10 rfl rfl ?_
        refine Z.getf hX 5 1 0 dX6_term_30 rfl rfl inX5 (by decide) fl_X6_69 rfl rfl ?_
        refine Z.iload_n hX dX6_term_33 rfl rfl ?_
        refine Z.aaload hX 9 3 dX6_term_34 rfl rfl rfl (by omega) (by omega) (by decide) rfl ?_
        refine Z.iload_n hX dX6_term_35 rfl rfl ?_
        refine Z.laload hX (18 + (wh : Int).toNat) 1 dX6_term_36 (cW_in (by omega)) rfl (by omega) (by omega) (by decide) ?_
        refine Z.l2i hX dX6_term_37 ?_
        refine Z.topi (fun z7 hz7 kz7 ez7 => ?_)
        refine Z.istore (lv' := [(4, .int (zI z7)), (0, .ref (h 0)), (1, .int (zI wh)), (2, .int (zI i)), (3, .int (zI v))]) hX dX6_term_38 (by decide) rfl ?_
        refine Z.iload hX dX6_term_40 rfl ?_
        refine Z.iload_n hX dX6_term_42 rfl rfl ?_
        refine Z.icmp_eq hX 63 dX6_term_43 (by decide) ⟨by omega, by omega⟩ ⟨by omega, by omega⟩ ?_ ?_
        · intro c8
          refine Z.iload hX dX6_term_63 rfl ?_
          exact hR _ _ _ _ dX6_term_65 ⟨z7, G, L, B, J, rfl, rfl, hok, (fun q => absurd (by omega) q), (fun _ => ⟨by assumption, Or.inl ⟨by omega, rfl⟩⟩), hfi⟩
        · intro c8
          refine Z.aload_n hX dX6_term_46 rfl rfl ?_
          refine Z.getf hX 6 0 0 dX6_term_47 rfl rfl inX6 (by decide) fl_X6_10 rfl rfl ?_
          refine Z.getf hX 5 1 0 dX6_term_50 rfl rfl inX5 (by decide) fl_X6_69 rfl rfl ?_
          refine Z.iload_n hX dX6_term_53 rfl rfl ?_
          refine Z.aaload hX 9 3 dX6_term_54 rfl rfl rfl (by omega) (by omega) (by decide) rfl ?_
          refine Z.iload_n hX dX6_term_55 rfl rfl ?_
          refine Z.iload_n hX dX6_term_56 rfl rfl ?_
          refine Z.i2l hX dX6_term_57 ⟨by omega, by omega⟩ ?_
          refine Z.lastore hX (18 + (wh : Int).toNat) 1 dX6_term_58 (cW_in (by omega)) rfl (by omega) (by omega) (by decide) ?_
          obtain ⟨L9, eL9⟩ : ∃ J' : Nat → Nat → Int64, J' = va_up L ((wh : Int).toNat) (vp_updL (L ((wh : Int).toNat)) (i : Int).toNat (zL v)) := ⟨_, rfl⟩
          refine Z.toW (w' := cW ce h pl ar G L9 B J) (by rw [eL9]; exact cW_setL (by omega)) ?_
          have gL9 : L9 ((wh : Int).toNat) = vp_updL (L ((wh : Int).toNat)) (i : Int).toNat (zL v) := by rw [eL9]; exact up_eq
          have fL9 : ∀ j_, j_ ≠ (wh : Int).toNat → L9 j_ = L j_ := fun j_ hj_ => by rw [eL9]; exact up_ne hj_
          refine Z.aload_n hX dX6_term_59 rfl rfl ?_
          refine Z.callVfv (As := []) (rest := []) hX 6 0 rfl rfl (ct_X6_forget l D ce h pl ar G L9 B J ) mc_X6_forget ml_X6_73 im_X6_forget se_X6_forget ini_X6 nd_X6_forget ⟨Nat.le_of_ble_eq_true rfl, Nat.le_of_ble_eq_true rfl⟩ ⟨rfl, rfl⟩ ⟨Nat.le_refl _, Nat.le_refl _⟩ rfl (Nat.le_of_ble_eq_true rfl) dX6_term_60 ?_
          rintro w1 ⟨G211, hw_, fo1, fo2⟩
          subst hw_
          refine Z.iload hX dX6_term_63 rfl ?_
          exact hR _ _ _ _ dX6_term_65 ⟨z7, G211, L9, B, J, rfl, rfl, (cok_of hB (by omega) (by have := fo1 1 (by decide) (by decide) (by decide); omega) (by omega) (by have := fo1 3 (by decide) (by decide) (by decide); omega) (by have := fo1 4 (by decide) (by decide) (by decide); omega) (by omega) (by have := fo1 6 (by decide) (by decide) (by decide); omega)), (fun q => absurd (by omega) q), (fun _ => ⟨by assumption, Or.inr ⟨gL9, fL9⟩⟩), (fun q => by omega)⟩
      · intro c6
        refine Z.bipush hX dX6_term_23 (by decide) ?_
        exact hR _ _ _ _ dX6_term_25 ⟨(-100), G, L, B, J, rfl, rfl, hok, (fun _ => ⟨rfl, rfl⟩), (fun q => by omega), hfi⟩

set_option maxHeartbeats 4000000 in
set_option maxRecDepth 100000 in
theorem ct_X6_clear_x (l : Launch) (D : va_G) (ce : Nat → ClassId) (h pl ar : Nat → Nat) (G : Nat → Int) (L : Nat → Nat → Int64) (B : Nat → Int) (J : Nat → Nat → Int64) (hok : cOK G B) (hbl : bL L) (hfi : FI G L) : Ct l yX6_clear cX6_clear 2 (some .int) { frames := 1, cells := 0, slots := 0, locals := 23 } 0 0 D (TY ce) [.ref (h 0)] (cW ce h pl ar G L B J) (QI D (TY ce) (fun r w1 => ∃ z : Int, ∃ G2 : Nat → Int, ∃ L2 : Nat → Nat → Int64, ∃ B2 : Nat → Int, ∃ J2 : Nat → Nat → Int64, r = zI z ∧ w1 = cW ce h pl ar G2 L2 B2 J2 ∧ (cOK G2 B2) ∧ (z = cntB (fun q => L (q / 5) (q % 5)) 15) ∧ (∀ q : Int, 0 ≤ q → q < 15 → L2 (q.toNat / 5) (q.toNat % 5) = 0) ∧ (FI G2 L2))) := by
  refine Ct.ofI (by decide) (Nat.le_of_ble_eq_true rfl) ?_
  intro p e s m args below meth c A Q hX hnm hR
  refine Z.pick (lv' := [(0, .ref (h 0))]) [0] rfl ?_
  obtain ⟨hB, hg0, hg2, hg3, hg5, hg6, hg1, hg4⟩ := id hok
  unfold bl at hg0 hg2 hg3 hg5 hg6
  refine Z.aload_n hX dX6_clear_0 rfl rfl ?_
  refine Z.getf hX 6 0 0 dX6_clear_1 rfl rfl inX6 (by decide) fl_X6_10 rfl rfl ?_
  refine Z.callVfi (As := []) (rest := []) hX 5 1 rfl rfl (ct_X5_countAndErase l D ce h pl ar G L B J ) mc_X5_countAndErase ml_X6_76 im_X5_countAndErase se_X5_countAndErase ini_X5 nd_X5_countAndErase ⟨Nat.le_of_ble_eq_true rfl, Nat.le_of_ble_eq_true rfl⟩ ⟨rfl, rfl⟩ ⟨Nat.le_refl _, Nat.le_refl _⟩ rfl (Nat.le_of_ble_eq_true rfl) dX6_clear_4 ?_
  rintro r_1 w1 ⟨z2, L23, hr_, hw_, ce1, ce2, ce3⟩
  subst hr_
  subst hw_
  refine Z.istore_n (lv' := [(1, .int (zI z2)), (0, .ref (h 0))]) hX dX6_clear_7 rfl (by decide) rfl ?_
  refine Z.aload_n hX dX6_clear_8 rfl rfl ?_
  refine Z.callVfv (As := []) (rest := []) hX 6 0 rfl rfl (ct_X6_forget l D ce h pl ar G L23 B J ) mc_X6_forget ml_X6_73 im_X6_forget se_X6_forget ini_X6 nd_X6_forget ⟨Nat.le_of_ble_eq_true rfl, Nat.le_of_ble_eq_true rfl⟩ ⟨rfl, rfl⟩ ⟨Nat.le_refl _, Nat.le_refl _⟩ rfl (Nat.le_of_ble_eq_true rfl) dX6_clear_9 ?_
  rintro w1 ⟨G25, hw_, fo1, fo2⟩
  subst hw_
  refine Z.iload_n hX dX6_clear_12 rfl rfl ?_
  exact hR _ _ _ _ dX6_clear_13 ⟨z2, G25, L23, B, J, rfl, rfl, (cok_of hB (by omega) (by have := fo1 1 (by decide) (by decide) (by decide); omega) (by omega) (by have := fo1 3 (by decide) (by decide) (by decide); omega) (by have := fo1 4 (by decide) (by decide) (by decide); omega) (by omega) (by have := fo1 6 (by decide) (by decide) (by decide); omega)), ce1, ce2, (fun q => by omega)⟩

set_option maxHeartbeats 4000000 in
set_option maxRecDepth 100000 in
theorem ct_X6_degree_x (l : Launch) (D : va_G) (ce : Nat → ClassId) (h pl ar : Nat → Nat) (G : Nat → Int) (L : Nat → Nat → Int64) (B : Nat → Int) (J : Nat → Nat → Int64) (what : Int) (hok : cOK G B) (hbl : bL L) (hfi : FI G L) (hw : -2147483648 ≤ what ∧ what < 2147483648) : Ct l yX6_degree cX6_degree 4 (some .int) { frames := 5, cells := 0, slots := 0, locals := 128 } 0 0 D (TY ce) [.ref (h 0), .int (zI what)] (cW ce h pl ar G L B J) (QI D (TY ce) (fun r w1 => ∃ z : Int, ∃ G2 : Nat → Int, ∃ L2 : Nat → Nat → Int64, ∃ B2 : Nat → Int, ∃ J2 : Nat → Nat → Int64, r = zI z ∧ w1 = cW ce h pl ar G2 L2 B2 J2 ∧ (cOK G2 B2) ∧ (∀ k, k < 3 → L2 k = L k) ∧ (¬ (0 ≤ what ∧ what ≤ 2) → z = -1) ∧ (what = 0 → HP L z) ∧ (FI G2 L2) ∧ (dgx L L2 what z))) := by
  refine Ct.ofI (by decide) (Nat.le_of_ble_eq_true rfl) ?_
  intro p e s m args below meth c A Q hX hnm hR
  refine Z.pick (lv' := [(0, .ref (h 0)), (1, .int (zI what))]) [0, 1] rfl ?_
  obtain ⟨hB, hg0, hg2, hg3, hg5, hg6, hg1, hg4⟩ := id hok
  unfold bl at hg0 hg2 hg3 hg5 hg6
  refine Z.iload_n hX dX6_degree_0 rfl rfl ?_
  refine Z.if_lt hX 9 dX6_degree_1 (by decide) ⟨by omega, by omega⟩ ?_ ?_
  · intro c1
    refine Z.iconst hX dX6_degree_9 ?_
    exact hR _ _ _ _ dX6_degree_10 ⟨(-1), G, L, B, J, rfl, rfl, hok, (fun _ _ => rfl), (fun _ => rfl), (fun q => by omega), hfi, (fun q => by omega)⟩
  · intro c1
    refine Z.iload_n hX dX6_degree_4 rfl rfl ?_
    refine Z.iconst hX dX6_degree_5 ?_
    refine Z.icmp_le hX 11 dX6_degree_6 (by decide) ⟨by omega, by omega⟩ ⟨by omega, by omega⟩ ?_ ?_
    · intro c2
      refine Z.aload_n hX dX6_degree_11 rfl rfl ?_
      refine Z.getf hX 6 0 0 dX6_degree_12 rfl rfl inX6 (by decide) fl_X6_10 rfl rfl ?_
      refine Z.callVfi (As := []) (rest := []) hX 5 1 rfl rfl (ct_X5_highestPower_r l D ce h pl ar G L B J ) mc_X5_highestPower ml_X6_80 im_X5_highestPower se_X5_highestPower ini_X5 nd_X5_highestPower ⟨Nat.le_of_ble_eq_true rfl, Nat.le_of_ble_eq_true rfl⟩ ⟨rfl, rfl⟩ ⟨Nat.le_refl _, Nat.le_refl _⟩ rfl (Nat.le_of_ble_eq_true rfl) dX6_degree_15 ?_
      rintro r_3 w1 ⟨nn, hr_, hw_, n1, n2, n3⟩
      subst hr_
      subst hw_
      refine Z.istore_n (lv' := [(2, .int (zI nn)), (0, .ref (h 0)), (1, .int (zI what))]) hX dX6_degree_18 rfl (by decide) rfl ?_
      refine Z.iload_n hX dX6_degree_19 rfl rfl ?_
      refine Z.if_ne hX 25 dX6_degree_20 (by decide) ⟨by omega, by omega⟩ ?_ ?_
      · intro c4
        refine Z.aload_n hX dX6_degree_25 rfl rfl ?_
        refine Z.callVfr (As := []) (rest := []) hX 6 0 rfl rfl (ct_X6_freeRow_x l D ce h pl ar G L B J hok hbl hfi) mc_X6_freeRow ml_X6_83 im_X6_freeRow se_X6_freeRow ini_X6 nd_X6_freeRow ⟨Nat.le_of_ble_eq_true rfl, Nat.le_of_ble_eq_true rfl⟩ ⟨rfl, rfl⟩ ⟨Nat.le_refl _, Nat.le_refl _⟩ rfl (Nat.le_of_ble_eq_true rfl) dX6_degree_26 ?_
        rintro r_5 w1 ⟨G26, L27, hr_, hw_, fr1, fr2, fr3, fr4⟩
        subst hr_
        subst hw_
        refine Z.callVfi (As := []) (rest := []) hX 5 2 rfl rfl (ct_X5_highestPower_f l D ce h pl ar G26 L27 B J ) mc_X5_highestPower ml_X6_80 im_X5_highestPower se_X5_highestPower ini_X5 nd_X5_highestPower ⟨Nat.le_of_ble_eq_true rfl, Nat.le_of_ble_eq_true rfl⟩ ⟨rfl, rfl⟩ ⟨Nat.le_refl _, Nat.le_refl _⟩ rfl (Nat.le_of_ble_eq_true rfl) dX6_degree_29 ?_
        rintro r_8 w1 ⟨nf, hr_, hw_, m1, m2, m3⟩
        subst hr_
        subst hw_
        refine Z.istore_n (lv' := [(3, .int (zI nf)), (2, .int (zI nn)), (0, .ref (h 0)), (1, .int (zI what))]) hX dX6_degree_32 rfl (by decide) rfl ?_
        refine Z.iload_n hX dX6_degree_33 rfl rfl ?_
        refine Z.iconst hX dX6_degree_34 ?_
        refine Z.icmp_ne hX 42 dX6_degree_35 (by decide) ⟨by omega, by omega⟩ ⟨by omega, by omega⟩ ?_ ?_
        · intro c9
          refine Z.iload_n hX dX6_degree_42 rfl rfl ?_
          refine Z.iload_n hX dX6_degree_43 rfl rfl ?_
          refine Z.isub hX dX6_degree_44 ?_
          exact hR _ _ _ _ dX6_degree_45 ⟨(nn - nf), G26, L27, B, J, rfl, rfl, (cok_of hB (by unfold bl at fr2; omega) (by have := fr1 1 (by decide); omega) (by have := fr1 2 (by decide); omega) (by have := fr1 3 (by decide); omega) (by have := fr1 4 (by decide); omega) (by have := fr1 5 (by decide); omega) (by have := fr1 6 (by decide); omega)), fr3, (fun q => by omega), (fun q => by omega), (FI_f fr3 fr4), (fun q => ⟨nn, nf, ⟨n1, n2, n3⟩, ⟨m1, m2, m3⟩, fr4, fun q1 => by first | rfl | omega, fun q1 => by first | rfl | omega⟩)⟩
        · intro c9
          refine Z.iload_n hX dX6_degree_38 rfl rfl ?_
          refine Z.goto hX 45 dX6_degree_39 (by decide) ?_
          exact hR _ _ _ _ dX6_degree_45 ⟨nf, G26, L27, B, J, rfl, rfl, (cok_of hB (by unfold bl at fr2; omega) (by have := fr1 1 (by decide); omega) (by have := fr1 2 (by decide); omega) (by have := fr1 3 (by decide); omega) (by have := fr1 4 (by decide); omega) (by have := fr1 5 (by decide); omega) (by have := fr1 6 (by decide); omega)), fr3, (fun q => by omega), (fun q => by omega), (FI_f fr3 fr4), (fun q => ⟨nn, nf, ⟨n1, n2, n3⟩, ⟨m1, m2, m3⟩, fr4, fun q1 => by first | rfl | omega, fun q1 => by first | rfl | omega⟩)⟩
      · intro c4
        refine Z.iload_n hX dX6_degree_23 rfl rfl ?_
        exact hR _ _ _ _ dX6_degree_24 ⟨nn, G, L, B, J, rfl, rfl, hok, (fun _ _ => rfl), (fun q => by omega), (fun _ => ⟨n1, n2, n3⟩), hfi, (fun q => by omega)⟩
    · intro c2
      refine Z.iconst hX dX6_degree_9 ?_
      exact hR _ _ _ _ dX6_degree_10 ⟨(-1), G, L, B, J, rfl, rfl, hok, (fun _ _ => rfl), (fun _ => rfl), (fun q => by omega), hfi, (fun q => by omega)⟩

set_option maxHeartbeats 4000000 in
set_option maxRecDepth 100000 in
theorem ct_X6_freed_x (l : Launch) (D : va_G) (ce : Nat → ClassId) (h pl ar : Nat → Nat) (G : Nat → Int) (L : Nat → Nat → Int64) (B : Nat → Int) (J : Nat → Nat → Int64) (wh i : Int) (hok : cOK G B) (hbl : bL L) (hfi : FI G L) (hw : -2147483648 ≤ wh ∧ wh < 2147483648) (hi : -2147483648 ≤ i ∧ i < 2147483648) : Ct l yX6_freed cX6_freed 3 (some .int) { frames := 5, cells := 0, slots := 0, locals := 128 } 0 0 D (TY ce) [.ref (h 0), .int (zI wh), .int (zI i)] (cW ce h pl ar G L B J) (QI D (TY ce) (fun r w1 => ∃ z : Int, ∃ G2 : Nat → Int, ∃ L2 : Nat → Nat → Int64, ∃ B2 : Nat → Int, ∃ J2 : Nat → Nat → Int64, r = zI z ∧ w1 = cW ce h pl ar G2 L2 B2 J2 ∧ (cOK G2 B2) ∧ (∀ k, k < 3 → L2 k = L k) ∧ (¬ (0 ≤ wh ∧ wh ≤ 2 ∧ 0 ≤ i ∧ i ≤ 4) → z = -1000000) ∧ (FI G2 L2) ∧ ((0 ≤ wh ∧ wh ≤ 2 ∧ 0 ≤ i ∧ i ≤ 4) → FRs L (fun a => L2 (3 + a)) ∧ (L2 (3 + wh.toNat) i.toNat).toInt32 = zI z))) := by
  refine Ct.ofI (by decide) (Nat.le_of_ble_eq_true rfl) ?_
  intro p e s m args below meth c A Q hX hnm hR
  refine Z.pick (lv' := [(0, .ref (h 0)), (1, .int (zI wh)), (2, .int (zI i))]) [0, 1, 2] rfl ?_
  obtain ⟨hB, hg0, hg2, hg3, hg5, hg6, hg1, hg4⟩ := id hok
  unfold bl at hg0 hg2 hg3 hg5 hg6
  refine Z.iload_n hX dX6_freed_0 rfl rfl ?_
  refine Z.callS0i (As := [.int (zI wh)]) (rest := []) hX (ct_X6_isPart l D ce wh (by omega)) mc_X6_isPart ml_X6_58 st_X6_isPart ini_X6 nd_X6_isPart ⟨Nat.le_of_ble_eq_true rfl, Nat.le_of_ble_eq_true rfl⟩ ⟨rfl, rfl⟩ ⟨Nat.le_refl _, Nat.le_refl _⟩ rfl (Nat.le_of_ble_eq_true rfl) dX6_freed_1 ?_
  rintro r_1 w1 ⟨z1, hr_, hw_, p1⟩
  subst hr_
  refine ⟨hw_, ?_⟩
  refine Z.if_eq hX 14 dX6_freed_4 (by decide) ⟨by omega, by omega⟩ ?_ ?_
  · intro c2
    refine Z.ldc hX (-1000000) dX6_freed_14 co_X6_87 rfl ?_
    exact hR _ _ _ _ dX6_freed_16 ⟨((-1000000)), G, L, B, J, rfl, rfl, hok, (fun _ _ => rfl), (fun _ => rfl), hfi, (fun q => by omega)⟩
  · intro c2
    refine Z.iload_n hX dX6_freed_7 rfl rfl ?_
    refine Z.callS0i (As := [.int (zI i)]) (rest := []) hX (ct_X6_isPower l D ce i (by omega)) mc_X6_isPower ml_X6_62 st_X6_isPower ini_X6 nd_X6_isPower ⟨Nat.le_of_ble_eq_true rfl, Nat.le_of_ble_eq_true rfl⟩ ⟨rfl, rfl⟩ ⟨Nat.le_refl _, Nat.le_refl _⟩ rfl (Nat.le_of_ble_eq_true rfl) dX6_freed_8 ?_
    rintro r_3 w1 ⟨z2, hr_, hw_, p2⟩
    subst hr_
    refine ⟨hw_, ?_⟩
    refine Z.if_ne hX 17 dX6_freed_11 (by decide) ⟨by omega, by omega⟩ ?_ ?_
    · intro c4
      refine Z.aload_n hX dX6_freed_17 rfl rfl ?_
      refine Z.callVfr (As := []) (rest := []) hX 6 0 rfl rfl (ct_X6_freeRow_x l D ce h pl ar G L B J hok hbl hfi) mc_X6_freeRow ml_X6_83 im_X6_freeRow se_X6_freeRow ini_X6 nd_X6_freeRow ⟨Nat.le_of_ble_eq_true rfl, Nat.le_of_ble_eq_true rfl⟩ ⟨rfl, rfl⟩ ⟨Nat.le_refl _, Nat.le_refl _⟩ rfl (Nat.le_of_ble_eq_true rfl) dX6_freed_18 ?_
      rintro r_5 w1 ⟨G26, L27, hr_, hw_, fr1, fr2, fr3, fr4⟩
      subst hr_
      subst hw_
      refine Z.getf hX 5 2 0 dX6_freed_21 rfl rfl inX5 (by decide) fl_X6_69 rfl rfl ?_
      refine Z.iload_n hX dX6_freed_24 rfl rfl ?_
      refine Z.aaload hX 10 3 dX6_freed_25 rfl rfl rfl (by omega) (by omega) (by decide) rfl ?_
      refine Z.iload_n hX dX6_freed_26 rfl rfl ?_
      refine Z.laload hX (18 + (3 + (wh : Int).toNat)) 1 dX6_freed_27 (cW_in (by omega)) rfl (by omega) (by omega) (by decide) ?_
      refine Z.l2i hX dX6_freed_28 ?_
      refine Z.topi (fun z8 hz8 kz8 ez8 => ?_)
      exact hR _ _ _ _ dX6_freed_29 ⟨z8, G26, L27, B, J, rfl, rfl, (cok_of hB (by unfold bl at fr2; omega) (by have := fr1 1 (by decide); omega) (by have := fr1 2 (by decide); omega) (by have := fr1 3 (by decide); omega) (by have := fr1 4 (by decide); omega) (by have := fr1 5 (by decide); omega) (by have := fr1 6 (by decide); omega)), fr3, (fun q => absurd (by omega) q), (FI_f fr3 fr4), (fun _ => ⟨fr4, by assumption⟩)⟩
    · intro c4
      refine Z.ldc hX (-1000000) dX6_freed_14 co_X6_87 rfl ?_
      exact hR _ _ _ _ dX6_freed_16 ⟨((-1000000)), G, L, B, J, rfl, rfl, hok, (fun _ _ => rfl), (fun _ => rfl), hfi, (fun q => by omega)⟩

set_option maxHeartbeats 4000000 in
set_option maxRecDepth 100000 in
theorem ct_X6_value_x (l : Launch) (D : va_G) (ce : Nat → ClassId) (h pl ar : Nat → Nat) (G : Nat → Int) (L : Nat → Nat → Int64) (B : Nat → Int) (J : Nat → Nat → Int64) (u v part : Int) (hok : cOK G B) (hbl : bL L) (hfi : FI G L) (hu : -2147483648 ≤ u ∧ u < 2147483648) (hv : -2147483648 ≤ v ∧ v < 2147483648) (hp : -2147483648 ≤ part ∧ part < 2147483648) : Ct l yX6_value cX6_value 6 (some .int) { frames := 2, cells := 0, slots := 0, locals := 52 } 0 0 D (TY ce) [.ref (h 0), .int (zI u), .int (zI v), .int (zI part)] (cW ce h pl ar G L B J) (QI D (TY ce) (fun r w1 => ∃ z : Int, ∃ G2 : Nat → Int, ∃ L2 : Nat → Nat → Int64, ∃ B2 : Nat → Int, ∃ J2 : Nat → Nat → Int64, r = zI z ∧ w1 = cW ce h pl ar G2 L2 B2 J2 ∧ (cOK G2 B2) ∧ (∀ k, k < 3 → L2 k = L k) ∧ (¬ ((-9 ≤ u ∧ u ≤ 9 ∧ -9 ≤ v ∧ v ≤ 9 ∧ ¬ (u = 0 ∧ v = 0)) ∧ 0 ≤ part ∧ part ≤ 2) → z = -1000000) ∧ (((-9 ≤ u ∧ u ≤ 9 ∧ -9 ≤ v ∧ v ≤ 9 ∧ ¬ (u = 0 ∧ v = 0)) ∧ 0 ≤ part ∧ part ≤ 2) → ∃ (n : Int) (c1 c2 : Int64), HP L n ∧ cgE (wOf (L 0) u v n) (wOf (L 1) u v n) c1 ∧ cgE c1 (wOf (L 2) u v n) c2 ∧ ((c2 = 0 ∧ z = 0) ∨ (¬ c2 = 0 ∧ ((wOf (L part.toNat) u v n) / c2).toInt32 = zI z))) ∧ (FI G2 L2))) := by
  refine Ct.ofI (by decide) (Nat.le_of_ble_eq_true rfl) ?_
  intro p e s m args below meth c A Q hX hnm hR
  refine Z.pick (lv' := [(0, .ref (h 0)), (1, .int (zI u)), (2, .int (zI v)), (3, .int (zI part))]) [0, 1, 2, 3] rfl ?_
  obtain ⟨hB, hg0, hg2, hg3, hg5, hg6, hg1, hg4⟩ := id hok
  unfold bl at hg0 hg2 hg3 hg5 hg6
  refine Z.iload_n hX dX6_value_0 rfl rfl ?_
  refine Z.iload_n hX dX6_value_1 rfl rfl ?_
  refine Z.callS0i (As := [.int (zI u), .int (zI v)]) (rest := []) hX (ct_X6_isParameter l D ce u v (by omega) (by omega)) mc_X6_isParameter ml_X6_88 st_X6_isParameter ini_X6 nd_X6_isParameter ⟨Nat.le_of_ble_eq_true rfl, Nat.le_of_ble_eq_true rfl⟩ ⟨rfl, rfl⟩ ⟨Nat.le_refl _, Nat.le_refl _⟩ rfl (Nat.le_of_ble_eq_true rfl) dX6_value_2 ?_
  rintro r_1 w1 ⟨z1, hr_, hw_, p1⟩
  subst hr_
  refine ⟨hw_, ?_⟩
  refine Z.if_eq hX 15 dX6_value_5 (by decide) ⟨by omega, by omega⟩ ?_ ?_
  · intro c2
    refine Z.ldc hX (-1000000) dX6_value_15 co_X6_87 rfl ?_
    exact hR _ _ _ _ dX6_value_17 ⟨((-1000000)), G, L, B, J, rfl, rfl, hok, (fun _ _ => rfl), (fun _ => rfl), (fun q => by omega), hfi⟩
  · intro c2
    refine Z.iload_n hX dX6_value_8 rfl rfl ?_
    refine Z.callS0i (As := [.int (zI part)]) (rest := []) hX (ct_X6_isPart l D ce part (by omega)) mc_X6_isPart ml_X6_58 st_X6_isPart ini_X6 nd_X6_isPart ⟨Nat.le_of_ble_eq_true rfl, Nat.le_of_ble_eq_true rfl⟩ ⟨rfl, rfl⟩ ⟨Nat.le_refl _, Nat.le_refl _⟩ rfl (Nat.le_of_ble_eq_true rfl) dX6_value_9 ?_
    rintro r_3 w1 ⟨z2, hr_, hw_, p2⟩
    subst hr_
    refine ⟨hw_, ?_⟩
    refine Z.if_ne hX 18 dX6_value_12 (by decide) ⟨by omega, by omega⟩ ?_ ?_
    · intro c4
      refine Z.aload_n hX dX6_value_18 rfl rfl ?_
      refine Z.iload_n hX dX6_value_19 rfl rfl ?_
      refine Z.iload_n hX dX6_value_20 rfl rfl ?_
      refine Z.callVfv (As := [.int (zI u), .int (zI v)]) (rest := []) hX 6 0 rfl rfl (ct_X6_moveTo l D ce h pl ar G L B J u v (by omega) (by omega)) mc_X6_moveTo ml_X6_91 im_X6_moveTo se_X6_moveTo ini_X6 nd_X6_moveTo ⟨Nat.le_of_ble_eq_true rfl, Nat.le_of_ble_eq_true rfl⟩ ⟨rfl, rfl⟩ ⟨Nat.le_refl _, Nat.le_refl _⟩ rfl (Nat.le_of_ble_eq_true rfl) dX6_value_21 ?_
      rintro w1 ⟨n, Lm, hw_, mv1, mv2, mv3⟩
      subst hw_
      have s0 : Lm 9 (0 : Int).toNat = wOf (L 0) u v n := mv2 0 (by decide) (by decide)
      have s1 : Lm 9 (1 : Int).toNat = wOf (L 1) u v n := mv2 1 (by decide) (by decide)
      have s2 : Lm 9 (2 : Int).toNat = wOf (L 2) u v n := mv2 2 (by decide) (by decide)
      refine Z.aload_n hX dX6_value_24 rfl rfl ?_
      refine Z.getf hX 6 0 7 dX6_value_25 rfl rfl inX6 (by decide) fl_X6_50 rfl rfl ?_
      refine Z.iconst hX dX6_value_28 ?_
      refine Z.laload hX 8 1 dX6_value_29 rfl rfl (by omega) (by omega) (by decide) ?_
      refine Z.aload_n hX dX6_value_30 rfl rfl ?_
      refine Z.getf hX 6 0 7 dX6_value_31 rfl rfl inX6 (by decide) fl_X6_50 rfl rfl ?_
      refine Z.iconst hX dX6_value_34 ?_
      refine Z.laload hX 8 1 dX6_value_35 rfl rfl (by omega) (by omega) (by decide) ?_
      refine Z.callS0l (As := [.long (Lm 9 (0 : Int).toNat), .long (Lm 9 (1 : Int).toNat)]) (rest := []) hX (ct_X6_commonOf l D ce (Lm 9 (0 : Int).toNat) (Lm 9 (1 : Int).toNat) ) mc_X6_commonOf ml_X6_95 st_X6_commonOf ini_X6 nd_X6_commonOf ⟨Nat.le_of_ble_eq_true rfl, Nat.le_of_ble_eq_true rfl⟩ ⟨rfl, rfl⟩ ⟨Nat.le_refl _, Nat.le_refl _⟩ rfl (Nat.le_of_ble_eq_true rfl) dX6_value_36 ?_
      rintro c1 w1 ⟨r07, hr_, hw_, hc1⟩
      subst hr_
      refine ⟨hw_, ?_⟩
      refine Z.aload_n hX dX6_value_39 rfl rfl ?_
      refine Z.getf hX 6 0 7 dX6_value_40 rfl rfl inX6 (by decide) fl_X6_50 rfl rfl ?_
      refine Z.iconst hX dX6_value_43 ?_
      refine Z.laload hX 8 1 dX6_value_44 rfl rfl (by omega) (by omega) (by decide) ?_
      refine Z.callS0l (As := [.long c1, .long (Lm 9 (2 : Int).toNat)]) (rest := []) hX (ct_X6_commonOf l D ce c1 (Lm 9 (2 : Int).toNat) ) mc_X6_commonOf ml_X6_95 st_X6_commonOf ini_X6 nd_X6_commonOf ⟨Nat.le_of_ble_eq_true rfl, Nat.le_of_ble_eq_true rfl⟩ ⟨rfl, rfl⟩ ⟨Nat.le_refl _, Nat.le_refl _⟩ rfl (Nat.le_of_ble_eq_true rfl) dX6_value_45 ?_
      rintro c2 w1 ⟨r09, hr_, hw_, hc2⟩
      subst hr_
      refine ⟨hw_, ?_⟩
      refine Z.lstore (lv' := [(4, .long c2), (0, .ref (h 0)), (1, .int (zI u)), (2, .int (zI v)), (3, .int (zI part))]) hX dX6_value_48 (by decide) rfl ?_
      refine Z.lload hX dX6_value_50 rfl ?_
      refine Z.lconst (v := 0) hX dX6_value_52 rfl ?_
      refine Z.lcmp_ne hX 61 dX6_value_53 dX6_value_54 (by decide) ?_ ?_
      · intro c10
        refine Z.aload_n hX dX6_value_61 rfl rfl ?_
        refine Z.getf hX 6 0 7 dX6_value_62 rfl rfl inX6 (by decide) fl_X6_50 rfl rfl ?_
        refine Z.iload_n hX dX6_value_65 rfl rfl ?_
        refine Z.laload hX 8 1 dX6_value_66 rfl rfl (by omega) (by omega) (by decide) ?_
        refine Z.lload hX dX6_value_67 rfl ?_
        refine Z.ldiv hX dX6_value_69 (by assumption) ?_
        refine Z.l2i hX dX6_value_70 ?_
        refine Z.topi (fun z11 hz11 kz11 ez11 => ?_)
        exact hR _ _ _ _ dX6_value_71 ⟨z11, G, Lm, B, J, rfl, rfl, hok, (fun k h => mv3 k (by omega)), (fun q => absurd (by omega) q), (fun _ => ⟨n, c1, c2, mv1, by rw [← s0, ← s1]; exact hc1, by rw [← s2]; exact hc2, Or.inr ⟨by assumption, by rw [← mv2 part (by omega) (by omega)]; assumption⟩⟩), (FI_k hfi rfl (fun k h => mv3 k (by omega)))⟩
      · intro c10
        refine Z.iconst hX dX6_value_57 ?_
        refine Z.goto hX 71 dX6_value_58 (by decide) ?_
        exact hR _ _ _ _ dX6_value_71 ⟨0, G, Lm, B, J, rfl, rfl, hok, (fun k h => mv3 k (by omega)), (fun q => absurd (by omega) q), (fun _ => ⟨n, c1, c2, mv1, by rw [← s0, ← s1]; exact hc1, by rw [← s2]; exact hc2, Or.inl ⟨by assumption, rfl⟩⟩), (FI_k hfi rfl (fun k h => mv3 k (by omega)))⟩
    · intro c4
      refine Z.ldc hX (-1000000) dX6_value_15 co_X6_87 rfl ?_
      exact hR _ _ _ _ dX6_value_17 ⟨((-1000000)), G, L, B, J, rfl, rfl, hok, (fun _ _ => rfl), (fun _ => rfl), (fun q => by omega), hfi⟩

set_option maxHeartbeats 4000000 in
set_option maxRecDepth 100000 in
theorem ct_X6_at_x (l : Launch) (D : va_G) (ce : Nat → ClassId) (h pl ar : Nat → Nat) (G : Nat → Int) (L : Nat → Nat → Int64) (B : Nat → Int) (J : Nat → Nat → Int64) (u v pp qq ss : Int) (hok : cOK G B) (hbl : bL L) (hfi : FI G L) (hu : -2147483648 ≤ u ∧ u < 2147483648) (hv : -2147483648 ≤ v ∧ v < 2147483648) (hp : -2147483648 ≤ pp ∧ pp < 2147483648) (hq : -2147483648 ≤ qq ∧ qq < 2147483648) (hs : -2147483648 ≤ ss ∧ ss < 2147483648) : Ct l yX6_at cX6_at 7 (some .int) { frames := 2, cells := 0, slots := 0, locals := 52 } 0 0 D (TY ce) [.ref (h 0), .int (zI u), .int (zI v), .int (zI pp), .int (zI qq), .int (zI ss)] (cW ce h pl ar G L B J) (QI D (TY ce) (fun r w1 => ∃ z : Int, ∃ G2 : Nat → Int, ∃ L2 : Nat → Nat → Int64, ∃ B2 : Nat → Int, ∃ J2 : Nat → Nat → Int64, r = zI z ∧ w1 = cW ce h pl ar G2 L2 B2 J2 ∧ (cOK G2 B2) ∧ (∀ k, k < 3 → L2 k = L k) ∧ (¬ ((-9 ≤ u ∧ u ≤ 9 ∧ -9 ≤ v ∧ v ≤ 9 ∧ ¬ (u = 0 ∧ v = 0)) ∧ (-20 ≤ pp ∧ pp ≤ 20 ∧ -20 ≤ qq ∧ qq ≤ 20 ∧ 1 ≤ ss ∧ ss ≤ 9)) → z = -9) ∧ (((-9 ≤ u ∧ u ≤ 9 ∧ -9 ≤ v ∧ v ≤ 9 ∧ ¬ (u = 0 ∧ v = 0)) ∧ (-20 ≤ pp ∧ pp ≤ 20 ∧ -20 ≤ qq ∧ qq ≤ 20 ∧ 1 ≤ ss ∧ ss ≤ 9)) → ∃ n : Int, HP L n ∧ ((z = 1 ∧ (¬ (wOf (L 2) u v n) = 0 ∧ (wOf (L 0) u v n) * zL ss = (wOf (L 2) u v n) * zL pp ∧ (wOf (L 1) u v n) * zL ss = (wOf (L 2) u v n) * zL qq)) ∨ (z = 0 ∧ ¬ (¬ (wOf (L 2) u v n) = 0 ∧ (wOf (L 0) u v n) * zL ss = (wOf (L 2) u v n) * zL pp ∧ (wOf (L 1) u v n) * zL ss = (wOf (L 2) u v n) * zL qq)))) ∧ (FI G2 L2))) := by
  refine Ct.ofI (by decide) (Nat.le_of_ble_eq_true rfl) ?_
  intro p e s m args below meth c A Q hX hnm hR
  refine Z.pick (lv' := [(0, .ref (h 0)), (1, .int (zI u)), (2, .int (zI v)), (3, .int (zI pp)), (4, .int (zI qq)), (5, .int (zI ss))]) [0, 1, 2, 3, 4, 5] rfl ?_
  obtain ⟨hB, hg0, hg2, hg3, hg5, hg6, hg1, hg4⟩ := id hok
  unfold bl at hg0 hg2 hg3 hg5 hg6
  refine Z.iload_n hX dX6_at_0 rfl rfl ?_
  refine Z.iload_n hX dX6_at_1 rfl rfl ?_
  refine Z.callS0i (As := [.int (zI u), .int (zI v)]) (rest := []) hX (ct_X6_isParameter l D ce u v (by omega) (by omega)) mc_X6_isParameter ml_X6_88 st_X6_isParameter ini_X6 nd_X6_isParameter ⟨Nat.le_of_ble_eq_true rfl, Nat.le_of_ble_eq_true rfl⟩ ⟨rfl, rfl⟩ ⟨Nat.le_refl _, Nat.le_refl _⟩ rfl (Nat.le_of_ble_eq_true rfl) dX6_at_2 ?_
  rintro r_1 w1 ⟨z1, hr_, hw_, p1⟩
  subst hr_
  refine ⟨hw_, ?_⟩
  refine Z.if_eq hX 19 dX6_at_5 (by decide) ⟨by omega, by omega⟩ ?_ ?_
  · intro c2
    refine Z.bipush hX dX6_at_19 (by decide) ?_
    exact hR _ _ _ _ dX6_at_21 ⟨(-9), G, L, B, J, rfl, rfl, hok, (fun _ _ => rfl), (fun _ => rfl), (fun q => by omega), hfi⟩
  · intro c2
    refine Z.iload_n hX dX6_at_8 rfl rfl ?_
    refine Z.iload hX dX6_at_9 rfl ?_
    refine Z.iload hX dX6_at_11 rfl ?_
    refine Z.callS0i (As := [.int (zI pp), .int (zI qq), .int (zI ss)]) (rest := []) hX (ct_X6_isPlace l D ce pp qq ss (by omega) (by omega) (by omega)) mc_X6_isPlace ml_X6_129 st_X6_isPlace ini_X6 nd_X6_isPlace ⟨Nat.le_of_ble_eq_true rfl, Nat.le_of_ble_eq_true rfl⟩ ⟨rfl, rfl⟩ ⟨Nat.le_refl _, Nat.le_refl _⟩ rfl (Nat.le_of_ble_eq_true rfl) dX6_at_13 ?_
    rintro r_3 w1 ⟨z2, hr_, hw_, p2⟩
    subst hr_
    refine ⟨hw_, ?_⟩
    refine Z.if_ne hX 22 dX6_at_16 (by decide) ⟨by omega, by omega⟩ ?_ ?_
    · intro c4
      refine Z.aload_n hX dX6_at_22 rfl rfl ?_
      refine Z.iload_n hX dX6_at_23 rfl rfl ?_
      refine Z.iload_n hX dX6_at_24 rfl rfl ?_
      refine Z.callVfv (As := [.int (zI u), .int (zI v)]) (rest := []) hX 6 0 rfl rfl (ct_X6_moveTo l D ce h pl ar G L B J u v (by omega) (by omega)) mc_X6_moveTo ml_X6_91 im_X6_moveTo se_X6_moveTo ini_X6 nd_X6_moveTo ⟨Nat.le_of_ble_eq_true rfl, Nat.le_of_ble_eq_true rfl⟩ ⟨rfl, rfl⟩ ⟨Nat.le_refl _, Nat.le_refl _⟩ rfl (Nat.le_of_ble_eq_true rfl) dX6_at_25 ?_
      rintro w1 ⟨n, Lm, hw_, mv1, mv2, mv3⟩
      subst hw_
      have s0 : Lm 9 (0 : Int).toNat = wOf (L 0) u v n := mv2 0 (by decide) (by decide)
      have s1 : Lm 9 (1 : Int).toNat = wOf (L 1) u v n := mv2 1 (by decide) (by decide)
      have s2 : Lm 9 (2 : Int).toNat = wOf (L 2) u v n := mv2 2 (by decide) (by decide)
      have key_91 : ∀ (bz : Int), (hbz : (bz = 1 ∧ (¬ (wOf (L 2) u v n) = 0 ∧ (wOf (L 0) u v n) * zL ss = (wOf (L 2) u v n) * zL pp ∧ (wOf (L 1) u v n) * zL ss = (wOf (L 2) u v n) * zL qq)) ∨ (bz = 0 ∧ ¬ (¬ (wOf (L 2) u v n) = 0 ∧ (wOf (L 0) u v n) * zL ss = (wOf (L 2) u v n) * zL pp ∧ (wOf (L 1) u v n) * zL ss = (wOf (L 2) u v n) * zL qq))) → Z p l e { frames := 2, cells := 0, slots := 0, locals := 52 } s m args below meth c D A 7 0 0 Q 91 [(0, .ref (h 0))] [.int (zI bz)] (cW ce h pl ar G Lm B J) := by
        intro bz hbz
        refine Z.istore (lv' := [(6, .int (zI bz)), (0, .ref (h 0))]) hX dX6_at_91 (by decide) rfl ?_
        refine Z.iload hX dX6_at_93 rfl ?_
        refine Z.if_eq hX 102 dX6_at_95 (by decide) ⟨by omega, by omega⟩ ?_ ?_
        · intro c6
          refine Z.iconst hX dX6_at_102 ?_
          exact hR _ _ _ _ dX6_at_103 ⟨0, G, Lm, B, J, rfl, rfl, hok, (fun k h => mv3 k (by omega)), (fun q => absurd (by omega) q), (fun _ => ⟨n, mv1, Or.inr ⟨rfl, (hbz.resolve_left (fun q => by omega)).2⟩⟩), (FI_k hfi rfl (fun k h => mv3 k (by omega)))⟩
        · intro c6
          refine Z.iconst hX dX6_at_98 ?_
          refine Z.goto hX 103 dX6_at_99 (by decide) ?_
          exact hR _ _ _ _ dX6_at_103 ⟨1, G, Lm, B, J, rfl, rfl, hok, (fun k h => mv3 k (by omega)), (fun q => absurd (by omega) q), (fun _ => ⟨n, mv1, Or.inl ⟨rfl, (hbz.resolve_right (fun q => by omega)).2⟩⟩), (FI_k hfi rfl (fun k h => mv3 k (by omega)))⟩
      refine Z.aload_n hX dX6_at_28 rfl rfl ?_
      refine Z.getf hX 6 0 7 dX6_at_29 rfl rfl inX6 (by decide) fl_X6_50 rfl rfl ?_
      refine Z.iconst hX dX6_at_32 ?_
      refine Z.laload hX 8 1 dX6_at_33 rfl rfl (by omega) (by omega) (by decide) ?_
      refine Z.lconst (v := 0) hX dX6_at_34 rfl ?_
      refine Z.lcmp_eq hX 90 dX6_at_35 dX6_at_36 (by decide) ?_ ?_
      · intro c7
        refine Z.iconst hX dX6_at_90 ?_
        refine Z.pick [0] rfl ?_
        exact key_91 _ (Or.inr ⟨rfl, fun q => by rw [← s0, ← s1, ← s2] at q; first | exact q.1 (by assumption) | exact absurd q.2.1 (by assumption) | exact absurd q.2.2 (by assumption)⟩)
      · intro c7
        refine Z.aload_n hX dX6_at_39 rfl rfl ?_
        refine Z.getf hX 6 0 7 dX6_at_40 rfl rfl inX6 (by decide) fl_X6_50 rfl rfl ?_
        refine Z.iconst hX dX6_at_43 ?_
        refine Z.laload hX 8 1 dX6_at_44 rfl rfl (by omega) (by omega) (by decide) ?_
        refine Z.iload hX dX6_at_45 rfl ?_
        refine Z.i2l hX dX6_at_47 ⟨by omega, by omega⟩ ?_
        refine Z.lmul hX dX6_at_48 ?_
        refine Z.aload_n hX dX6_at_49 rfl rfl ?_
        refine Z.getf hX 6 0 7 dX6_at_50 rfl rfl inX6 (by decide) fl_X6_50 rfl rfl ?_
        refine Z.iconst hX dX6_at_53 ?_
        refine Z.laload hX 8 1 dX6_at_54 rfl rfl (by omega) (by omega) (by decide) ?_
        refine Z.iload_n hX dX6_at_55 rfl rfl ?_
        refine Z.i2l hX dX6_at_56 ⟨by omega, by omega⟩ ?_
        refine Z.lmul hX dX6_at_57 ?_
        refine Z.lcmp_ne hX 90 dX6_at_58 dX6_at_59 (by decide) ?_ ?_
        · intro c8
          refine Z.iconst hX dX6_at_90 ?_
          refine Z.pick [0] rfl ?_
          exact key_91 _ (Or.inr ⟨rfl, fun q => by rw [← s0, ← s1, ← s2] at q; first | exact q.1 (by assumption) | exact absurd q.2.1 (by assumption) | exact absurd q.2.2 (by assumption)⟩)
        · intro c8
          refine Z.aload_n hX dX6_at_62 rfl rfl ?_
          refine Z.getf hX 6 0 7 dX6_at_63 rfl rfl inX6 (by decide) fl_X6_50 rfl rfl ?_
          refine Z.iconst hX dX6_at_66 ?_
          refine Z.laload hX 8 1 dX6_at_67 rfl rfl (by omega) (by omega) (by decide) ?_
          refine Z.iload hX dX6_at_68 rfl ?_
          refine Z.i2l hX dX6_at_70 ⟨by omega, by omega⟩ ?_
          refine Z.lmul hX dX6_at_71 ?_
          refine Z.aload_n hX dX6_at_72 rfl rfl ?_
          refine Z.getf hX 6 0 7 dX6_at_73 rfl rfl inX6 (by decide) fl_X6_50 rfl rfl ?_
          refine Z.iconst hX dX6_at_76 ?_
          refine Z.laload hX 8 1 dX6_at_77 rfl rfl (by omega) (by omega) (by decide) ?_
          refine Z.iload hX dX6_at_78 rfl ?_
          refine Z.i2l hX dX6_at_80 ⟨by omega, by omega⟩ ?_
          refine Z.lmul hX dX6_at_81 ?_
          refine Z.lcmp_ne hX 90 dX6_at_82 dX6_at_83 (by decide) ?_ ?_
          · intro c9
            refine Z.iconst hX dX6_at_90 ?_
            refine Z.pick [0] rfl ?_
            exact key_91 _ (Or.inr ⟨rfl, fun q => by rw [← s0, ← s1, ← s2] at q; first | exact q.1 (by assumption) | exact absurd q.2.1 (by assumption) | exact absurd q.2.2 (by assumption)⟩)
          · intro c9
            refine Z.iconst hX dX6_at_86 ?_
            refine Z.goto hX 91 dX6_at_87 (by decide) ?_
            refine Z.pick [0] rfl ?_
            exact key_91 _ (Or.inl ⟨rfl, by rw [← s2]; assumption, by rw [← s0, ← s2]; assumption, by rw [← s1, ← s2]; assumption⟩)
    · intro c4
      refine Z.bipush hX dX6_at_19 (by decide) ?_
      exact hR _ _ _ _ dX6_at_21 ⟨(-9), G, L, B, J, rfl, rfl, hok, (fun _ _ => rfl), (fun _ => rfl), (fun q => by omega), hfi⟩

set_option maxHeartbeats 4000000 in
set_option maxRecDepth 100000 in
theorem ct_X6_trace_x (l : Launch) (D : va_G) (ce : Nat → ClassId) (h pl ar : Nat → Nat) (G : Nat → Int) (L : Nat → Nat → Int64) (B : Nat → Int) (J : Nat → Nat → Int64) (sort : Int) (hok : cOK G B) (hbl : bL L) (hfi : FI G L) (hs : -2147483648 ≤ sort ∧ sort < 2147483648) : Ct l yX6_trace cX6_trace 3 (some .int) { frames := 6, cells := 0, slots := 0, locals := 162 } 0 0 D (TY ce) [.ref (h 0), .int (zI sort)] (cW ce h pl ar G L B J) (QI D (TY ce) (fun r w1 => ∃ z : Int, ∃ G2 : Nat → Int, ∃ L2 : Nat → Nat → Int64, ∃ B2 : Nat → Int, ∃ J2 : Nat → Nat → Int64, r = zI z ∧ w1 = cW ce h pl ar G2 L2 B2 J2 ∧ (cOK G2 B2) ∧ (∀ k, k < 3 → L2 k = L k) ∧ (¬ (sort = 0 ∨ sort = 1) → z = -1) ∧ (FI G2 L2))) := by
  refine Ct.ofI (by decide) (Nat.le_of_ble_eq_true rfl) ?_
  intro p e s m args below meth c A Q hX hnm hR
  refine Z.pick (lv' := [(0, .ref (h 0)), (1, .int (zI sort))]) [0, 1] rfl ?_
  obtain ⟨hB, hg0, hg2, hg3, hg5, hg6, hg1, hg4⟩ := id hok
  unfold bl at hg0 hg2 hg3 hg5 hg6
  refine Z.iload_n hX dX6_trace_0 rfl rfl ?_
  refine Z.callS0i (As := [.int (zI sort)]) (rest := []) hX (ct_X6_isSort l D ce sort (by omega)) mc_X6_isSort ml_X6_99 st_X6_isSort ini_X6 nd_X6_isSort ⟨Nat.le_of_ble_eq_true rfl, Nat.le_of_ble_eq_true rfl⟩ ⟨rfl, rfl⟩ ⟨Nat.le_refl _, Nat.le_refl _⟩ rfl (Nat.le_of_ble_eq_true rfl) dX6_trace_1 ?_
  rintro r_1 w1 ⟨z1, hr_, hw_, p1⟩
  subst hr_
  refine ⟨hw_, ?_⟩
  refine Z.if_ne hX 9 dX6_trace_4 (by decide) ⟨by omega, by omega⟩ ?_ ?_
  · intro c2
    rcases (show sort = 0 ∨ sort = 1 by omega) with rfl | rfl
    · skip
      refine Z.aload_n hX dX6_trace_9 rfl rfl ?_
      refine Z.iload_n hX dX6_trace_10 rfl rfl ?_
      refine Z.callVfr (As := [.int (zI 0)]) (rest := []) hX 6 0 rfl rfl (ct_X6_curveOf_lx l D ce h pl ar G L B J hok hbl hfi) mc_X6_curveOf ml_X6_102 im_X6_curveOf se_X6_curveOf ini_X6 nd_X6_curveOf ⟨Nat.le_of_ble_eq_true rfl, Nat.le_of_ble_eq_true rfl⟩ ⟨rfl, rfl⟩ ⟨Nat.le_refl _, Nat.le_refl _⟩ rfl (Nat.le_of_ble_eq_true rfl) dX6_trace_11 ?_
      rintro r_3 w1 ⟨Gc, Lc, Bc, Jc, hr_, hw_, cv1, cv2, cv3⟩
      subst hr_
      subst hw_
      obtain ⟨dB, dg0, dg2, dg3, dg5, dg6, dg1, dg4⟩ := id cv1
      unfold bl at dg0 dg2 dg3 dg5 dg6
      have dB40 := dB 40 (by decide)
      have dB41 := dB 41 (by decide)
      refine Z.astore_n (lv' := [(2, .ref (h 6)), (0, .ref (h 0)), (1, .int (zI 0))]) hX dX6_trace_14 rfl (by decide) rfl ?_
      refine Z.aload_n hX dX6_trace_15 rfl rfl ?_
      refine Z.getf hX 0 6 3 dX6_trace_16 rfl rfl inX0 (by decide) fl_X6_106 rfl rfl ?_
      refine Z.if_eq hX 32 dX6_trace_19 (by decide) ⟨by omega, by omega⟩ ?_ ?_
      · intro c4
        refine Z.bipush hX dX6_trace_32 (by decide) ?_
        exact hR _ _ _ _ dX6_trace_34 ⟨(-2), Gc, Lc, Bc, Jc, rfl, rfl, cv1, cv2, (fun q => absurd (by decide) q), cv3⟩
      · intro c4
        refine Z.aload_n hX dX6_trace_22 rfl rfl ?_
        refine Z.getf hX 0 6 0 dX6_trace_23 rfl rfl inX0 (by decide) fl_X6_109 rfl rfl ?_
        refine Z.getf hX 3 (24 + 40) 1 dX6_trace_26 (cW_pl (by decide)) rfl inX3 (by decide) fl_X6_113 rfl rfl ?_
        refine Z.goto hX 34 dX6_trace_29 (by decide) ?_
        exact hR _ _ _ _ dX6_trace_34 ⟨(Bc 40), Gc, Lc, Bc, Jc, rfl, rfl, cv1, cv2, (fun q => absurd (by decide) q), cv3⟩
    · skip
      refine Z.aload_n hX dX6_trace_9 rfl rfl ?_
      refine Z.iload_n hX dX6_trace_10 rfl rfl ?_
      refine Z.callVfr (As := [.int (zI 1)]) (rest := []) hX 6 0 rfl rfl (ct_X6_curveOf_ex l D ce h pl ar G L B J hok hbl hfi) mc_X6_curveOf ml_X6_102 im_X6_curveOf se_X6_curveOf ini_X6 nd_X6_curveOf ⟨Nat.le_of_ble_eq_true rfl, Nat.le_of_ble_eq_true rfl⟩ ⟨rfl, rfl⟩ ⟨Nat.le_refl _, Nat.le_refl _⟩ rfl (Nat.le_of_ble_eq_true rfl) dX6_trace_11 ?_
      rintro r_5 w1 ⟨Gc, Lc, Bc, Jc, hr_, hw_, cv1, cv2, cv3⟩
      subst hr_
      subst hw_
      obtain ⟨dB, dg0, dg2, dg3, dg5, dg6, dg1, dg4⟩ := id cv1
      unfold bl at dg0 dg2 dg3 dg5 dg6
      have dB40 := dB 40 (by decide)
      have dB41 := dB 41 (by decide)
      refine Z.astore_n (lv' := [(2, .ref (h 7)), (0, .ref (h 0)), (1, .int (zI 1))]) hX dX6_trace_14 rfl (by decide) rfl ?_
      refine Z.aload_n hX dX6_trace_15 rfl rfl ?_
      refine Z.getf hX 0 7 3 dX6_trace_16 rfl rfl inX0 (by decide) fl_X6_106 rfl rfl ?_
      refine Z.if_eq hX 32 dX6_trace_19 (by decide) ⟨by omega, by omega⟩ ?_ ?_
      · intro c6
        refine Z.bipush hX dX6_trace_32 (by decide) ?_
        exact hR _ _ _ _ dX6_trace_34 ⟨(-2), Gc, Lc, Bc, Jc, rfl, rfl, cv1, cv2, (fun q => absurd (by decide) q), cv3⟩
      · intro c6
        refine Z.aload_n hX dX6_trace_22 rfl rfl ?_
        refine Z.getf hX 0 7 0 dX6_trace_23 rfl rfl inX0 (by decide) fl_X6_109 rfl rfl ?_
        refine Z.getf hX 3 (24 + 41) 1 dX6_trace_26 (cW_pl (by decide)) rfl inX3 (by decide) fl_X6_113 rfl rfl ?_
        refine Z.goto hX 34 dX6_trace_29 (by decide) ?_
        exact hR _ _ _ _ dX6_trace_34 ⟨(Bc 41), Gc, Lc, Bc, Jc, rfl, rfl, cv1, cv2, (fun q => absurd (by decide) q), cv3⟩
  · intro c2
    refine Z.iconst hX dX6_trace_7 ?_
    exact hR _ _ _ _ dX6_trace_8 ⟨(-1), G, L, B, J, rfl, rfl, hok, (fun _ _ => rfl), (fun _ => rfl), hfi⟩

set_option maxHeartbeats 4000000 in
set_option maxRecDepth 100000 in
theorem ct_X6_times_x (l : Launch) (D : va_G) (ce : Nat → ClassId) (h pl ar : Nat → Nat) (G : Nat → Int) (L : Nat → Nat → Int64) (B : Nat → Int) (J : Nat → Nat → Int64) (sort : Int) (hok : cOK G B) (hbl : bL L) (hfi : FI G L) (hs : -2147483648 ≤ sort ∧ sort < 2147483648) : Ct l yX6_times cX6_times 3 (some .int) { frames := 6, cells := 0, slots := 0, locals := 162 } 0 0 D (TY ce) [.ref (h 0), .int (zI sort)] (cW ce h pl ar G L B J) (QI D (TY ce) (fun r w1 => ∃ z : Int, ∃ G2 : Nat → Int, ∃ L2 : Nat → Nat → Int64, ∃ B2 : Nat → Int, ∃ J2 : Nat → Nat → Int64, r = zI z ∧ w1 = cW ce h pl ar G2 L2 B2 J2 ∧ (cOK G2 B2) ∧ (∀ k, k < 3 → L2 k = L k) ∧ (¬ (sort = 0 ∨ sort = 1) → z = -1) ∧ (FI G2 L2))) := by
  refine Ct.ofI (by decide) (Nat.le_of_ble_eq_true rfl) ?_
  intro p e s m args below meth c A Q hX hnm hR
  refine Z.pick (lv' := [(0, .ref (h 0)), (1, .int (zI sort))]) [0, 1] rfl ?_
  obtain ⟨hB, hg0, hg2, hg3, hg5, hg6, hg1, hg4⟩ := id hok
  unfold bl at hg0 hg2 hg3 hg5 hg6
  refine Z.iload_n hX dX6_times_0 rfl rfl ?_
  refine Z.callS0i (As := [.int (zI sort)]) (rest := []) hX (ct_X6_isSort l D ce sort (by omega)) mc_X6_isSort ml_X6_99 st_X6_isSort ini_X6 nd_X6_isSort ⟨Nat.le_of_ble_eq_true rfl, Nat.le_of_ble_eq_true rfl⟩ ⟨rfl, rfl⟩ ⟨Nat.le_refl _, Nat.le_refl _⟩ rfl (Nat.le_of_ble_eq_true rfl) dX6_times_1 ?_
  rintro r_1 w1 ⟨z1, hr_, hw_, p1⟩
  subst hr_
  refine ⟨hw_, ?_⟩
  refine Z.if_ne hX 9 dX6_times_4 (by decide) ⟨by omega, by omega⟩ ?_ ?_
  · intro c2
    rcases (show sort = 0 ∨ sort = 1 by omega) with rfl | rfl
    · skip
      refine Z.aload_n hX dX6_times_9 rfl rfl ?_
      refine Z.iload_n hX dX6_times_10 rfl rfl ?_
      refine Z.callVfr (As := [.int (zI 0)]) (rest := []) hX 6 0 rfl rfl (ct_X6_curveOf_lx l D ce h pl ar G L B J hok hbl hfi) mc_X6_curveOf ml_X6_102 im_X6_curveOf se_X6_curveOf ini_X6 nd_X6_curveOf ⟨Nat.le_of_ble_eq_true rfl, Nat.le_of_ble_eq_true rfl⟩ ⟨rfl, rfl⟩ ⟨Nat.le_refl _, Nat.le_refl _⟩ rfl (Nat.le_of_ble_eq_true rfl) dX6_times_11 ?_
      rintro r_3 w1 ⟨Gc, Lc, Bc, Jc, hr_, hw_, cv1, cv2, cv3⟩
      subst hr_
      subst hw_
      obtain ⟨dB, dg0, dg2, dg3, dg5, dg6, dg1, dg4⟩ := id cv1
      unfold bl at dg0 dg2 dg3 dg5 dg6
      have dB40 := dB 40 (by decide)
      have dB41 := dB 41 (by decide)
      refine Z.astore_n (lv' := [(2, .ref (h 6)), (0, .ref (h 0)), (1, .int (zI 0))]) hX dX6_times_14 rfl (by decide) rfl ?_
      refine Z.aload_n hX dX6_times_15 rfl rfl ?_
      refine Z.getf hX 0 6 3 dX6_times_16 rfl rfl inX0 (by decide) fl_X6_106 rfl rfl ?_
      refine Z.if_eq hX 29 dX6_times_19 (by decide) ⟨by omega, by omega⟩ ?_ ?_
      · intro c4
        refine Z.bipush hX dX6_times_29 (by decide) ?_
        exact hR _ _ _ _ dX6_times_31 ⟨(-2), Gc, Lc, Bc, Jc, rfl, rfl, cv1, cv2, (fun q => absurd (by decide) q), cv3⟩
      · intro c4
        refine Z.aload_n hX dX6_times_22 rfl rfl ?_
        refine Z.getf hX 0 6 1 dX6_times_23 rfl rfl inX0 (by decide) fl_X6_119 rfl rfl ?_
        refine Z.goto hX 31 dX6_times_26 (by decide) ?_
        exact hR _ _ _ _ dX6_times_31 ⟨(Gc 1), Gc, Lc, Bc, Jc, rfl, rfl, cv1, cv2, (fun q => absurd (by decide) q), cv3⟩
    · skip
      refine Z.aload_n hX dX6_times_9 rfl rfl ?_
      refine Z.iload_n hX dX6_times_10 rfl rfl ?_
      refine Z.callVfr (As := [.int (zI 1)]) (rest := []) hX 6 0 rfl rfl (ct_X6_curveOf_ex l D ce h pl ar G L B J hok hbl hfi) mc_X6_curveOf ml_X6_102 im_X6_curveOf se_X6_curveOf ini_X6 nd_X6_curveOf ⟨Nat.le_of_ble_eq_true rfl, Nat.le_of_ble_eq_true rfl⟩ ⟨rfl, rfl⟩ ⟨Nat.le_refl _, Nat.le_refl _⟩ rfl (Nat.le_of_ble_eq_true rfl) dX6_times_11 ?_
      rintro r_5 w1 ⟨Gc, Lc, Bc, Jc, hr_, hw_, cv1, cv2, cv3⟩
      subst hr_
      subst hw_
      obtain ⟨dB, dg0, dg2, dg3, dg5, dg6, dg1, dg4⟩ := id cv1
      unfold bl at dg0 dg2 dg3 dg5 dg6
      have dB40 := dB 40 (by decide)
      have dB41 := dB 41 (by decide)
      refine Z.astore_n (lv' := [(2, .ref (h 7)), (0, .ref (h 0)), (1, .int (zI 1))]) hX dX6_times_14 rfl (by decide) rfl ?_
      refine Z.aload_n hX dX6_times_15 rfl rfl ?_
      refine Z.getf hX 0 7 3 dX6_times_16 rfl rfl inX0 (by decide) fl_X6_106 rfl rfl ?_
      refine Z.if_eq hX 29 dX6_times_19 (by decide) ⟨by omega, by omega⟩ ?_ ?_
      · intro c6
        refine Z.bipush hX dX6_times_29 (by decide) ?_
        exact hR _ _ _ _ dX6_times_31 ⟨(-2), Gc, Lc, Bc, Jc, rfl, rfl, cv1, cv2, (fun q => absurd (by decide) q), cv3⟩
      · intro c6
        refine Z.aload_n hX dX6_times_22 rfl rfl ?_
        refine Z.getf hX 0 7 1 dX6_times_23 rfl rfl inX0 (by decide) fl_X6_119 rfl rfl ?_
        refine Z.goto hX 31 dX6_times_26 (by decide) ?_
        exact hR _ _ _ _ dX6_times_31 ⟨(Gc 4), Gc, Lc, Bc, Jc, rfl, rfl, cv1, cv2, (fun q => absurd (by decide) q), cv3⟩
  · intro c2
    refine Z.iconst hX dX6_times_7 ?_
    exact hR _ _ _ _ dX6_times_8 ⟨(-1), G, L, B, J, rfl, rfl, hok, (fun _ _ => rfl), (fun _ => rfl), hfi⟩

set_option maxHeartbeats 4000000 in
set_option maxRecDepth 100000 in
theorem ct_X6_coefficient_x (l : Launch) (D : va_G) (ce : Nat → ClassId) (h pl ar : Nat → Nat) (G : Nat → Int) (L : Nat → Nat → Int64) (B : Nat → Int) (J : Nat → Nat → Int64) (sort i j : Int) (hok : cOK G B) (hbl : bL L) (hfi : FI G L) (hs : -2147483648 ≤ sort ∧ sort < 2147483648) (hi : -2147483648 ≤ i ∧ i < 2147483648) (hj : -2147483648 ≤ j ∧ j < 2147483648) : Ct l yX6_coefficient cX6_coefficient 5 (some .long) { frames := 6, cells := 0, slots := 0, locals := 162 } 0 0 D (TY ce) [.ref (h 0), .int (zI sort), .int (zI i), .int (zI j)] (cW ce h pl ar G L B J) (QL D (TY ce) (fun r w1 => ∃ r0 : Int64, ∃ G2 : Nat → Int, ∃ L2 : Nat → Nat → Int64, ∃ B2 : Nat → Int, ∃ J2 : Nat → Nat → Int64, r = r0 ∧ w1 = cW ce h pl ar G2 L2 B2 J2 ∧ (cOK G2 B2) ∧ (∀ k, k < 3 → L2 k = L k) ∧ (¬ ((sort = 0 ∨ sort = 1) ∧ 0 ≤ i ∧ i ≤ 6 ∧ 0 ≤ j ∧ j ≤ 6) → r0 = 0) ∧ (FI G2 L2))) := by
  refine Ct.ofL (by decide) (Nat.le_of_ble_eq_true rfl) ?_
  intro p e s m args below meth c A Q hX hnm hR
  refine Z.pick (lv' := [(0, .ref (h 0)), (1, .int (zI sort)), (2, .int (zI i)), (3, .int (zI j))]) [0, 1, 2, 3] rfl ?_
  obtain ⟨hB, hg0, hg2, hg3, hg5, hg6, hg1, hg4⟩ := id hok
  unfold bl at hg0 hg2 hg3 hg5 hg6
  refine Z.iload_n hX dX6_coefficient_0 rfl rfl ?_
  refine Z.callS0i (As := [.int (zI sort)]) (rest := []) hX (ct_X6_isSort l D ce sort (by omega)) mc_X6_isSort ml_X6_99 st_X6_isSort ini_X6 nd_X6_isSort ⟨Nat.le_of_ble_eq_true rfl, Nat.le_of_ble_eq_true rfl⟩ ⟨rfl, rfl⟩ ⟨Nat.le_refl _, Nat.le_refl _⟩ rfl (Nat.le_of_ble_eq_true rfl) dX6_coefficient_1 ?_
  rintro r_1 w1 ⟨z1, hr_, hw_, p1⟩
  subst hr_
  refine ⟨hw_, ?_⟩
  refine Z.if_eq hX 27 dX6_coefficient_4 (by decide) ⟨by omega, by omega⟩ ?_ ?_
  · intro c2
    refine Z.lconst (v := 0) hX dX6_coefficient_27 rfl ?_
    exact hR _ _ _ _ dX6_coefficient_28 ⟨0, G, L, B, J, rfl, rfl, hok, (fun _ _ => rfl), (fun _ => rfl), hfi⟩
  · intro c2
    refine Z.iload_n hX dX6_coefficient_7 rfl rfl ?_
    refine Z.if_lt hX 27 dX6_coefficient_8 (by decide) ⟨by omega, by omega⟩ ?_ ?_
    · intro c3
      refine Z.lconst (v := 0) hX dX6_coefficient_27 rfl ?_
      exact hR _ _ _ _ dX6_coefficient_28 ⟨0, G, L, B, J, rfl, rfl, hok, (fun _ _ => rfl), (fun _ => rfl), hfi⟩
    · intro c3
      refine Z.iload_n hX dX6_coefficient_11 rfl rfl ?_
      refine Z.bipush hX dX6_coefficient_12 (by decide) ?_
      refine Z.icmp_gt hX 27 dX6_coefficient_14 (by decide) ⟨by omega, by omega⟩ ⟨by omega, by omega⟩ ?_ ?_
      · intro c4
        refine Z.lconst (v := 0) hX dX6_coefficient_27 rfl ?_
        exact hR _ _ _ _ dX6_coefficient_28 ⟨0, G, L, B, J, rfl, rfl, hok, (fun _ _ => rfl), (fun _ => rfl), hfi⟩
      · intro c4
        refine Z.iload_n hX dX6_coefficient_17 rfl rfl ?_
        refine Z.if_lt hX 27 dX6_coefficient_18 (by decide) ⟨by omega, by omega⟩ ?_ ?_
        · intro c5
          refine Z.lconst (v := 0) hX dX6_coefficient_27 rfl ?_
          exact hR _ _ _ _ dX6_coefficient_28 ⟨0, G, L, B, J, rfl, rfl, hok, (fun _ _ => rfl), (fun _ => rfl), hfi⟩
        · intro c5
          refine Z.iload_n hX dX6_coefficient_21 rfl rfl ?_
          refine Z.bipush hX dX6_coefficient_22 (by decide) ?_
          refine Z.icmp_le hX 29 dX6_coefficient_24 (by decide) ⟨by omega, by omega⟩ ⟨by omega, by omega⟩ ?_ ?_
          · intro c6
            rcases (show sort = 0 ∨ sort = 1 by omega) with rfl | rfl
            · skip
              refine Z.aload_n hX dX6_coefficient_29 rfl rfl ?_
              refine Z.iload_n hX dX6_coefficient_30 rfl rfl ?_
              refine Z.callVfr (As := [.int (zI 0)]) (rest := []) hX 6 0 rfl rfl (ct_X6_curveOf_lx l D ce h pl ar G L B J hok hbl hfi) mc_X6_curveOf ml_X6_102 im_X6_curveOf se_X6_curveOf ini_X6 nd_X6_curveOf ⟨Nat.le_of_ble_eq_true rfl, Nat.le_of_ble_eq_true rfl⟩ ⟨rfl, rfl⟩ ⟨Nat.le_refl _, Nat.le_refl _⟩ rfl (Nat.le_of_ble_eq_true rfl) dX6_coefficient_31 ?_
              rintro r_7 w1 ⟨Gc, Lc, Bc, Jc, hr_, hw_, cv1, cv2, cv3⟩
              subst hr_
              subst hw_
              obtain ⟨dB, dg0, dg2, dg3, dg5, dg6, dg1, dg4⟩ := id cv1
              unfold bl at dg0 dg2 dg3 dg5 dg6
              refine Z.astore (lv' := [(4, .ref (h 6)), (0, .ref (h 0)), (1, .int (zI 0)), (2, .int (zI i)), (3, .int (zI j))]) hX dX6_coefficient_34 (by decide) rfl ?_
              refine Z.aload hX dX6_coefficient_36 rfl ?_
              refine Z.getf hX 0 6 3 dX6_coefficient_38 rfl rfl inX0 (by decide) fl_X6_106 rfl rfl ?_
              refine Z.if_eq hX 71 dX6_coefficient_41 (by decide) ⟨by omega, by omega⟩ ?_ ?_
              · intro c8
                refine Z.lconst (v := 0) hX dX6_coefficient_71 rfl ?_
                exact hR _ _ _ _ dX6_coefficient_72 ⟨0, Gc, Lc, Bc, Jc, rfl, rfl, cv1, cv2, (fun q => absurd (by omega) q), cv3⟩
              · intro c8
                refine Z.iload_n hX dX6_coefficient_44 rfl rfl ?_
                refine Z.iload_n hX dX6_coefficient_45 rfl rfl ?_
                refine Z.iadd hX dX6_coefficient_46 ?_
                refine Z.bipush hX dX6_coefficient_47 (by decide) ?_
                refine Z.icmp_gt hX 71 dX6_coefficient_49 (by decide) ⟨by omega, by omega⟩ ⟨by omega, by omega⟩ ?_ ?_
                · intro c9
                  refine Z.lconst (v := 0) hX dX6_coefficient_71 rfl ?_
                  exact hR _ _ _ _ dX6_coefficient_72 ⟨0, Gc, Lc, Bc, Jc, rfl, rfl, cv1, cv2, (fun q => absurd (by omega) q), cv3⟩
                · intro c9
                  refine Z.aload hX dX6_coefficient_52 rfl ?_
                  refine Z.getf hX 0 6 0 dX6_coefficient_54 rfl rfl inX0 (by decide) fl_X6_109 rfl rfl ?_
                  refine Z.getf hX 3 (24 + 40) 0 dX6_coefficient_57 (cW_pl (by decide)) rfl inX3 (by decide) fl_X6_122 rfl rfl ?_
                  refine Z.iload_n hX dX6_coefficient_60 rfl rfl ?_
                  refine Z.iload_n hX dX6_coefficient_61 rfl rfl ?_
                  refine Z.iadd hX dX6_coefficient_62 ?_
                  refine Z.iload_n hX dX6_coefficient_63 rfl rfl ?_
                  refine Z.callS0i (As := [.int (zI (i + j)), .int (zI j)]) (rest := [.ref (ar 40)]) hX (ct_X6_slotOf l D ce (i + j) j (by omega) (by omega)) mc_X6_slotOf ml_X6_125 st_X6_slotOf ini_X6 nd_X6_slotOf ⟨Nat.le_of_ble_eq_true rfl, Nat.le_of_ble_eq_true rfl⟩ ⟨rfl, rfl⟩ ⟨Nat.le_refl _, Nat.le_refl _⟩ rfl (Nat.le_of_ble_eq_true rfl) dX6_coefficient_64 ?_
                  rintro r_10 w1 ⟨z11, hr_, hw_, hq12, hq13⟩
                  subst hr_
                  refine ⟨hw_, ?_⟩
                  refine Z.laload hX (66 + 40) 1 dX6_coefficient_67 (cW_ar (by decide)) rfl (by omega) (by omega) (by decide) ?_
                  refine Z.goto hX 72 dX6_coefficient_68 (by decide) ?_
                  exact hR _ _ _ _ dX6_coefficient_72 ⟨(Jc 40 (z11 : Int).toNat), Gc, Lc, Bc, Jc, rfl, rfl, cv1, cv2, (fun q => absurd (by omega) q), cv3⟩
            · skip
              refine Z.aload_n hX dX6_coefficient_29 rfl rfl ?_
              refine Z.iload_n hX dX6_coefficient_30 rfl rfl ?_
              refine Z.callVfr (As := [.int (zI 1)]) (rest := []) hX 6 0 rfl rfl (ct_X6_curveOf_ex l D ce h pl ar G L B J hok hbl hfi) mc_X6_curveOf ml_X6_102 im_X6_curveOf se_X6_curveOf ini_X6 nd_X6_curveOf ⟨Nat.le_of_ble_eq_true rfl, Nat.le_of_ble_eq_true rfl⟩ ⟨rfl, rfl⟩ ⟨Nat.le_refl _, Nat.le_refl _⟩ rfl (Nat.le_of_ble_eq_true rfl) dX6_coefficient_31 ?_
              rintro r_14 w1 ⟨Gc, Lc, Bc, Jc, hr_, hw_, cv1, cv2, cv3⟩
              subst hr_
              subst hw_
              obtain ⟨dB, dg0, dg2, dg3, dg5, dg6, dg1, dg4⟩ := id cv1
              unfold bl at dg0 dg2 dg3 dg5 dg6
              refine Z.astore (lv' := [(4, .ref (h 7)), (0, .ref (h 0)), (1, .int (zI 1)), (2, .int (zI i)), (3, .int (zI j))]) hX dX6_coefficient_34 (by decide) rfl ?_
              refine Z.aload hX dX6_coefficient_36 rfl ?_
              refine Z.getf hX 0 7 3 dX6_coefficient_38 rfl rfl inX0 (by decide) fl_X6_106 rfl rfl ?_
              refine Z.if_eq hX 71 dX6_coefficient_41 (by decide) ⟨by omega, by omega⟩ ?_ ?_
              · intro c15
                refine Z.lconst (v := 0) hX dX6_coefficient_71 rfl ?_
                exact hR _ _ _ _ dX6_coefficient_72 ⟨0, Gc, Lc, Bc, Jc, rfl, rfl, cv1, cv2, (fun q => absurd (by omega) q), cv3⟩
              · intro c15
                refine Z.iload_n hX dX6_coefficient_44 rfl rfl ?_
                refine Z.iload_n hX dX6_coefficient_45 rfl rfl ?_
                refine Z.iadd hX dX6_coefficient_46 ?_
                refine Z.bipush hX dX6_coefficient_47 (by decide) ?_
                refine Z.icmp_gt hX 71 dX6_coefficient_49 (by decide) ⟨by omega, by omega⟩ ⟨by omega, by omega⟩ ?_ ?_
                · intro c16
                  refine Z.lconst (v := 0) hX dX6_coefficient_71 rfl ?_
                  exact hR _ _ _ _ dX6_coefficient_72 ⟨0, Gc, Lc, Bc, Jc, rfl, rfl, cv1, cv2, (fun q => absurd (by omega) q), cv3⟩
                · intro c16
                  refine Z.aload hX dX6_coefficient_52 rfl ?_
                  refine Z.getf hX 0 7 0 dX6_coefficient_54 rfl rfl inX0 (by decide) fl_X6_109 rfl rfl ?_
                  refine Z.getf hX 3 (24 + 41) 0 dX6_coefficient_57 (cW_pl (by decide)) rfl inX3 (by decide) fl_X6_122 rfl rfl ?_
                  refine Z.iload_n hX dX6_coefficient_60 rfl rfl ?_
                  refine Z.iload_n hX dX6_coefficient_61 rfl rfl ?_
                  refine Z.iadd hX dX6_coefficient_62 ?_
                  refine Z.iload_n hX dX6_coefficient_63 rfl rfl ?_
                  refine Z.callS0i (As := [.int (zI (i + j)), .int (zI j)]) (rest := [.ref (ar 41)]) hX (ct_X6_slotOf l D ce (i + j) j (by omega) (by omega)) mc_X6_slotOf ml_X6_125 st_X6_slotOf ini_X6 nd_X6_slotOf ⟨Nat.le_of_ble_eq_true rfl, Nat.le_of_ble_eq_true rfl⟩ ⟨rfl, rfl⟩ ⟨Nat.le_refl _, Nat.le_refl _⟩ rfl (Nat.le_of_ble_eq_true rfl) dX6_coefficient_64 ?_
                  rintro r_17 w1 ⟨z18, hr_, hw_, hq19, hq20⟩
                  subst hr_
                  refine ⟨hw_, ?_⟩
                  refine Z.laload hX (66 + 41) 1 dX6_coefficient_67 (cW_ar (by decide)) rfl (by omega) (by omega) (by decide) ?_
                  refine Z.goto hX 72 dX6_coefficient_68 (by decide) ?_
                  exact hR _ _ _ _ dX6_coefficient_72 ⟨(Jc 41 (z18 : Int).toNat), Gc, Lc, Bc, Jc, rfl, rfl, cv1, cv2, (fun q => absurd (by omega) q), cv3⟩
          · intro c6
            refine Z.lconst (v := 0) hX dX6_coefficient_27 rfl ?_
            exact hR _ _ _ _ dX6_coefficient_28 ⟨0, G, L, B, J, rfl, rfl, hok, (fun _ _ => rfl), (fun _ => rfl), hfi⟩

set_option maxHeartbeats 4000000 in
set_option maxRecDepth 100000 in
theorem ct_X6_side_x (l : Launch) (D : va_G) (ce : Nat → ClassId) (h pl ar : Nat → Nat) (G : Nat → Int) (L : Nat → Nat → Int64) (B : Nat → Int) (J : Nat → Nat → Int64) (sort pp qq ss : Int) (hok : cOK G B) (hbl : bL L) (hfi : FI G L) (hs : -2147483648 ≤ sort ∧ sort < 2147483648) (hp : -2147483648 ≤ pp ∧ pp < 2147483648) (hq : -2147483648 ≤ qq ∧ qq < 2147483648) (hss : -2147483648 ≤ ss ∧ ss < 2147483648) : Ct l yX6_side cX6_side 8 (some .int) { frames := 6, cells := 0, slots := 0, locals := 162 } 0 0 D (TY ce) [.ref (h 0), .int (zI sort), .int (zI pp), .int (zI qq), .int (zI ss)] (cW ce h pl ar G L B J) (QI D (TY ce) (fun r w1 => ∃ z : Int, ∃ G2 : Nat → Int, ∃ L2 : Nat → Nat → Int64, ∃ B2 : Nat → Int, ∃ J2 : Nat → Nat → Int64, r = zI z ∧ w1 = cW ce h pl ar G2 L2 B2 J2 ∧ (cOK G2 B2) ∧ (∀ k, k < 3 → L2 k = L k) ∧ (¬ ((sort = 0 ∨ sort = 1) ∧ (-20 ≤ pp ∧ pp ≤ 20 ∧ -20 ≤ qq ∧ qq ≤ 20 ∧ 1 ≤ ss ∧ ss ≤ 9)) → z = -9) ∧ (FI G2 L2))) := by
  refine Ct.ofI (by decide) (Nat.le_of_ble_eq_true rfl) ?_
  intro p e s m args below meth c A Q hX hnm hR
  refine Z.pick (lv' := [(0, .ref (h 0)), (1, .int (zI sort)), (2, .int (zI pp)), (3, .int (zI qq)), (4, .int (zI ss))]) [0, 1, 2, 3, 4] rfl ?_
  obtain ⟨hB, hg0, hg2, hg3, hg5, hg6, hg1, hg4⟩ := id hok
  unfold bl at hg0 hg2 hg3 hg5 hg6
  refine Z.iload_n hX dX6_side_0 rfl rfl ?_
  refine Z.callS0i (As := [.int (zI sort)]) (rest := []) hX (ct_X6_isSort l D ce sort (by omega)) mc_X6_isSort ml_X6_99 st_X6_isSort ini_X6 nd_X6_isSort ⟨Nat.le_of_ble_eq_true rfl, Nat.le_of_ble_eq_true rfl⟩ ⟨rfl, rfl⟩ ⟨Nat.le_refl _, Nat.le_refl _⟩ rfl (Nat.le_of_ble_eq_true rfl) dX6_side_1 ?_
  rintro r_1 w1 ⟨z1, hr_, hw_, p1⟩
  subst hr_
  refine ⟨hw_, ?_⟩
  refine Z.if_eq hX 17 dX6_side_4 (by decide) ⟨by omega, by omega⟩ ?_ ?_
  · intro c2
    refine Z.bipush hX dX6_side_17 (by decide) ?_
    exact hR _ _ _ _ dX6_side_19 ⟨(-9), G, L, B, J, rfl, rfl, hok, (fun _ _ => rfl), (fun _ => rfl), hfi⟩
  · intro c2
    refine Z.iload_n hX dX6_side_7 rfl rfl ?_
    refine Z.iload_n hX dX6_side_8 rfl rfl ?_
    refine Z.iload hX dX6_side_9 rfl ?_
    refine Z.callS0i (As := [.int (zI pp), .int (zI qq), .int (zI ss)]) (rest := []) hX (ct_X6_isPlace l D ce pp qq ss (by omega) (by omega) (by omega)) mc_X6_isPlace ml_X6_129 st_X6_isPlace ini_X6 nd_X6_isPlace ⟨Nat.le_of_ble_eq_true rfl, Nat.le_of_ble_eq_true rfl⟩ ⟨rfl, rfl⟩ ⟨Nat.le_refl _, Nat.le_refl _⟩ rfl (Nat.le_of_ble_eq_true rfl) dX6_side_11 ?_
    rintro r_3 w1 ⟨z2, hr_, hw_, p2⟩
    subst hr_
    refine ⟨hw_, ?_⟩
    refine Z.if_ne hX 20 dX6_side_14 (by decide) ⟨by omega, by omega⟩ ?_ ?_
    · intro c4
      rcases (show sort = 0 ∨ sort = 1 by omega) with rfl | rfl
      · skip
        refine Z.aload_n hX dX6_side_20 rfl rfl ?_
        refine Z.iload_n hX dX6_side_21 rfl rfl ?_
        refine Z.callVfr (As := [.int (zI 0)]) (rest := []) hX 6 0 rfl rfl (ct_X6_curveOf_lx l D ce h pl ar G L B J hok hbl hfi) mc_X6_curveOf ml_X6_102 im_X6_curveOf se_X6_curveOf ini_X6 nd_X6_curveOf ⟨Nat.le_of_ble_eq_true rfl, Nat.le_of_ble_eq_true rfl⟩ ⟨rfl, rfl⟩ ⟨Nat.le_refl _, Nat.le_refl _⟩ rfl (Nat.le_of_ble_eq_true rfl) dX6_side_22 ?_
        rintro r_5 w1 ⟨Gc, Lc, Bc, Jc, hr_, hw_, cv1, cv2, cv3⟩
        subst hr_
        subst hw_
        obtain ⟨dB, dg0, dg2, dg3, dg5, dg6, dg1, dg4⟩ := id cv1
        unfold bl at dg0 dg2 dg3 dg5 dg6
        refine Z.astore (lv' := [(5, .ref (h 6)), (0, .ref (h 0)), (1, .int (zI 0)), (2, .int (zI pp)), (3, .int (zI qq)), (4, .int (zI ss))]) hX dX6_side_25 (by decide) rfl ?_
        refine Z.aload hX dX6_side_27 rfl ?_
        refine Z.getf hX 0 6 3 dX6_side_29 rfl rfl inX0 (by decide) fl_X6_106 rfl rfl ?_
        refine Z.if_ne hX 38 dX6_side_32 (by decide) ⟨by omega, by omega⟩ ?_ ?_
        · intro c6
          refine Z.aload hX dX6_side_38 rfl ?_
          refine Z.getf hX 0 6 0 dX6_side_40 rfl rfl inX0 (by decide) fl_X6_109 rfl rfl ?_
          refine Z.iload_n hX dX6_side_43 rfl rfl ?_
          refine Z.i2l hX dX6_side_44 ⟨by omega, by omega⟩ ?_
          refine Z.iload_n hX dX6_side_45 rfl rfl ?_
          refine Z.i2l hX dX6_side_46 ⟨by omega, by omega⟩ ?_
          refine Z.iload hX dX6_side_47 rfl ?_
          refine Z.i2l hX dX6_side_49 ⟨by omega, by omega⟩ ?_
          refine Z.callVfl (As := [.long (zL pp), .long (zL qq), .long (zL ss)]) (rest := []) hX 3 (24 + 40) rfl (cW_pl (by decide)) (ct_X3_scaledValue l D ce h pl ar Gc Lc Bc Jc 40 (zL pp) (zL qq) (zL ss) (by decide) dB) mc_X3_scaledValue ml_X6_133 im_X3_scaledValue se_X3_scaledValue ini_X3 nd_X3_scaledValue ⟨Nat.le_of_ble_eq_true rfl, Nat.le_of_ble_eq_true rfl⟩ ⟨rfl, rfl⟩ ⟨Nat.le_refl _, Nat.le_refl _⟩ rfl (Nat.le_of_ble_eq_true rfl) dX6_side_50 ?_
          rintro r_7 w1 ⟨r08, hr_, hw_⟩
          subst hr_
          subst hw_
          refine Z.lstore (lv' := [(6, .long r_7), (5, .ref (h 6)), (0, .ref (h 0)), (1, .int (zI 0)), (2, .int (zI pp)), (3, .int (zI qq)), (4, .int (zI ss))]) hX dX6_side_53 (by decide) rfl ?_
          refine Z.lload hX dX6_side_55 rfl ?_
          refine Z.lconst (v := 0) hX dX6_side_57 rfl ?_
          refine Z.lcmp_ge hX 66 dX6_side_58 dX6_side_59 (by decide) ?_ ?_
          · intro c9
            refine Z.lload hX dX6_side_66 rfl ?_
            refine Z.lconst (v := 0) hX dX6_side_68 rfl ?_
            refine Z.lcmp_le hX 77 dX6_side_69 dX6_side_70 (by decide) ?_ ?_
            · intro c10
              refine Z.iconst hX dX6_side_77 ?_
              exact hR _ _ _ _ dX6_side_78 ⟨0, Gc, Lc, Bc, Jc, rfl, rfl, cv1, cv2, (fun q => absurd (by omega) q), cv3⟩
            · intro c10
              refine Z.iconst hX dX6_side_73 ?_
              refine Z.goto hX 78 dX6_side_74 (by decide) ?_
              exact hR _ _ _ _ dX6_side_78 ⟨1, Gc, Lc, Bc, Jc, rfl, rfl, cv1, cv2, (fun q => absurd (by omega) q), cv3⟩
          · intro c9
            refine Z.iconst hX dX6_side_62 ?_
            refine Z.goto hX 78 dX6_side_63 (by decide) ?_
            exact hR _ _ _ _ dX6_side_78 ⟨(-1), Gc, Lc, Bc, Jc, rfl, rfl, cv1, cv2, (fun q => absurd (by omega) q), cv3⟩
        · intro c6
          refine Z.bipush hX dX6_side_35 (by decide) ?_
          exact hR _ _ _ _ dX6_side_37 ⟨(-8), Gc, Lc, Bc, Jc, rfl, rfl, cv1, cv2, (fun q => absurd (by omega) q), cv3⟩
      · skip
        refine Z.aload_n hX dX6_side_20 rfl rfl ?_
        refine Z.iload_n hX dX6_side_21 rfl rfl ?_
        refine Z.callVfr (As := [.int (zI 1)]) (rest := []) hX 6 0 rfl rfl (ct_X6_curveOf_ex l D ce h pl ar G L B J hok hbl hfi) mc_X6_curveOf ml_X6_102 im_X6_curveOf se_X6_curveOf ini_X6 nd_X6_curveOf ⟨Nat.le_of_ble_eq_true rfl, Nat.le_of_ble_eq_true rfl⟩ ⟨rfl, rfl⟩ ⟨Nat.le_refl _, Nat.le_refl _⟩ rfl (Nat.le_of_ble_eq_true rfl) dX6_side_22 ?_
        rintro r_11 w1 ⟨Gc, Lc, Bc, Jc, hr_, hw_, cv1, cv2, cv3⟩
        subst hr_
        subst hw_
        obtain ⟨dB, dg0, dg2, dg3, dg5, dg6, dg1, dg4⟩ := id cv1
        unfold bl at dg0 dg2 dg3 dg5 dg6
        refine Z.astore (lv' := [(5, .ref (h 7)), (0, .ref (h 0)), (1, .int (zI 1)), (2, .int (zI pp)), (3, .int (zI qq)), (4, .int (zI ss))]) hX dX6_side_25 (by decide) rfl ?_
        refine Z.aload hX dX6_side_27 rfl ?_
        refine Z.getf hX 0 7 3 dX6_side_29 rfl rfl inX0 (by decide) fl_X6_106 rfl rfl ?_
        refine Z.if_ne hX 38 dX6_side_32 (by decide) ⟨by omega, by omega⟩ ?_ ?_
        · intro c12
          refine Z.aload hX dX6_side_38 rfl ?_
          refine Z.getf hX 0 7 0 dX6_side_40 rfl rfl inX0 (by decide) fl_X6_109 rfl rfl ?_
          refine Z.iload_n hX dX6_side_43 rfl rfl ?_
          refine Z.i2l hX dX6_side_44 ⟨by omega, by omega⟩ ?_
          refine Z.iload_n hX dX6_side_45 rfl rfl ?_
          refine Z.i2l hX dX6_side_46 ⟨by omega, by omega⟩ ?_
          refine Z.iload hX dX6_side_47 rfl ?_
          refine Z.i2l hX dX6_side_49 ⟨by omega, by omega⟩ ?_
          refine Z.callVfl (As := [.long (zL pp), .long (zL qq), .long (zL ss)]) (rest := []) hX 3 (24 + 41) rfl (cW_pl (by decide)) (ct_X3_scaledValue l D ce h pl ar Gc Lc Bc Jc 41 (zL pp) (zL qq) (zL ss) (by decide) dB) mc_X3_scaledValue ml_X6_133 im_X3_scaledValue se_X3_scaledValue ini_X3 nd_X3_scaledValue ⟨Nat.le_of_ble_eq_true rfl, Nat.le_of_ble_eq_true rfl⟩ ⟨rfl, rfl⟩ ⟨Nat.le_refl _, Nat.le_refl _⟩ rfl (Nat.le_of_ble_eq_true rfl) dX6_side_50 ?_
          rintro r_13 w1 ⟨r014, hr_, hw_⟩
          subst hr_
          subst hw_
          refine Z.lstore (lv' := [(6, .long r_13), (5, .ref (h 7)), (0, .ref (h 0)), (1, .int (zI 1)), (2, .int (zI pp)), (3, .int (zI qq)), (4, .int (zI ss))]) hX dX6_side_53 (by decide) rfl ?_
          refine Z.lload hX dX6_side_55 rfl ?_
          refine Z.lconst (v := 0) hX dX6_side_57 rfl ?_
          refine Z.lcmp_ge hX 66 dX6_side_58 dX6_side_59 (by decide) ?_ ?_
          · intro c15
            refine Z.lload hX dX6_side_66 rfl ?_
            refine Z.lconst (v := 0) hX dX6_side_68 rfl ?_
            refine Z.lcmp_le hX 77 dX6_side_69 dX6_side_70 (by decide) ?_ ?_
            · intro c16
              refine Z.iconst hX dX6_side_77 ?_
              exact hR _ _ _ _ dX6_side_78 ⟨0, Gc, Lc, Bc, Jc, rfl, rfl, cv1, cv2, (fun q => absurd (by omega) q), cv3⟩
            · intro c16
              refine Z.iconst hX dX6_side_73 ?_
              refine Z.goto hX 78 dX6_side_74 (by decide) ?_
              exact hR _ _ _ _ dX6_side_78 ⟨1, Gc, Lc, Bc, Jc, rfl, rfl, cv1, cv2, (fun q => absurd (by omega) q), cv3⟩
          · intro c15
            refine Z.iconst hX dX6_side_62 ?_
            refine Z.goto hX 78 dX6_side_63 (by decide) ?_
            exact hR _ _ _ _ dX6_side_78 ⟨(-1), Gc, Lc, Bc, Jc, rfl, rfl, cv1, cv2, (fun q => absurd (by omega) q), cv3⟩
        · intro c12
          refine Z.bipush hX dX6_side_35 (by decide) ?_
          exact hR _ _ _ _ dX6_side_37 ⟨(-8), Gc, Lc, Bc, Jc, rfl, rfl, cv1, cv2, (fun q => absurd (by omega) q), cv3⟩
    · intro c4
      refine Z.bipush hX dX6_side_17 (by decide) ?_
      exact hR _ _ _ _ dX6_side_19 ⟨(-9), G, L, B, J, rfl, rfl, hok, (fun _ _ => rfl), (fun _ => rfl), hfi⟩

set_option maxHeartbeats 4000000 in
set_option maxRecDepth 100000 in
theorem ct_X6_touches_x (l : Launch) (D : va_G) (ce : Nat → ClassId) (h pl ar : Nat → Nat) (G : Nat → Int) (L : Nat → Nat → Int64) (B : Nat → Int) (J : Nat → Nat → Int64) (u v : Int) (hok : cOK G B) (hbl : bL L) (hfi : FI G L) (hu : -2147483648 ≤ u ∧ u < 2147483648) (hv : -2147483648 ≤ v ∧ v < 2147483648) : Ct l yX6_touches cX6_touches 6 (some .int) { frames := 6, cells := 0, slots := 0, locals := 162 } 0 0 D (TY ce) [.ref (h 0), .int (zI u), .int (zI v)] (cW ce h pl ar G L B J) (QI D (TY ce) (fun r w1 => ∃ z : Int, ∃ G2 : Nat → Int, ∃ L2 : Nat → Nat → Int64, ∃ B2 : Nat → Int, ∃ J2 : Nat → Nat → Int64, r = zI z ∧ w1 = cW ce h pl ar G2 L2 B2 J2 ∧ (cOK G2 B2) ∧ (∀ k, k < 3 → L2 k = L k) ∧ (¬ (-9 ≤ u ∧ u ≤ 9 ∧ -9 ≤ v ∧ v ≤ 9 ∧ ¬ (u = 0 ∧ v = 0)) → z = -1) ∧ (FI G2 L2))) := by
  refine Ct.ofI (by decide) (Nat.le_of_ble_eq_true rfl) ?_
  intro p e s m args below meth c A Q hX hnm hR
  refine Z.pick (lv' := [(0, .ref (h 0)), (1, .int (zI u)), (2, .int (zI v))]) [0, 1, 2] rfl ?_
  obtain ⟨hB, hg0, hg2, hg3, hg5, hg6, hg1, hg4⟩ := id hok
  unfold bl at hg0 hg2 hg3 hg5 hg6
  refine Z.iload_n hX dX6_touches_0 rfl rfl ?_
  refine Z.iload_n hX dX6_touches_1 rfl rfl ?_
  refine Z.callS0i (As := [.int (zI u), .int (zI v)]) (rest := []) hX (ct_X6_isParameter l D ce u v (by omega) (by omega)) mc_X6_isParameter ml_X6_88 st_X6_isParameter ini_X6 nd_X6_isParameter ⟨Nat.le_of_ble_eq_true rfl, Nat.le_of_ble_eq_true rfl⟩ ⟨rfl, rfl⟩ ⟨Nat.le_refl _, Nat.le_refl _⟩ rfl (Nat.le_of_ble_eq_true rfl) dX6_touches_2 ?_
  rintro r_1 w1 ⟨z1, hr_, hw_, p1⟩
  subst hr_
  refine ⟨hw_, ?_⟩
  refine Z.if_ne hX 10 dX6_touches_5 (by decide) ⟨by omega, by omega⟩ ?_ ?_
  · intro c2
    refine Z.aload_n hX dX6_touches_10 rfl rfl ?_
    refine Z.iconst hX dX6_touches_11 ?_
    refine Z.callVfr (As := [.int (zI 1)]) (rest := []) hX 6 0 rfl rfl (ct_X6_curveOf_ex l D ce h pl ar G L B J hok hbl hfi) mc_X6_curveOf ml_X6_102 im_X6_curveOf se_X6_curveOf ini_X6 nd_X6_curveOf ⟨Nat.le_of_ble_eq_true rfl, Nat.le_of_ble_eq_true rfl⟩ ⟨rfl, rfl⟩ ⟨Nat.le_refl _, Nat.le_refl _⟩ rfl (Nat.le_of_ble_eq_true rfl) dX6_touches_12 ?_
    rintro r_3 w1 ⟨Gc, Lc, Bc, Jc, hr_, hw_, cv1, cv2, cv3⟩
    subst hr_
    subst hw_
    obtain ⟨dB, dg0, dg2, dg3, dg5, dg6, dg1, dg4⟩ := id cv1
    unfold bl at dg0 dg2 dg3 dg5 dg6
    refine Z.getf hX 0 7 3 dX6_touches_15 rfl rfl inX0 (by decide) fl_X6_106 rfl rfl ?_
    refine Z.if_ne hX 24 dX6_touches_18 (by decide) ⟨by omega, by omega⟩ ?_ ?_
    · intro c4
      refine Z.aload_n hX dX6_touches_24 rfl rfl ?_
      refine Z.getf hX 6 0 0 dX6_touches_25 rfl rfl inX6 (by decide) fl_X6_10 rfl rfl ?_
      refine Z.callVfi (As := []) (rest := []) hX 5 1 rfl rfl (ct_X5_highestPower_r l D ce h pl ar Gc Lc Bc Jc ) mc_X5_highestPower ml_X6_80 im_X5_highestPower se_X5_highestPower ini_X5 nd_X5_highestPower ⟨Nat.le_of_ble_eq_true rfl, Nat.le_of_ble_eq_true rfl⟩ ⟨rfl, rfl⟩ ⟨Nat.le_refl _, Nat.le_refl _⟩ rfl (Nat.le_of_ble_eq_true rfl) dX6_touches_28 ?_
      rintro r_5 w1 ⟨tp, hr_, hw_, n1, n2, n3⟩
      subst hr_
      subst hw_
      refine Z.istore_n (lv' := [(3, .int (zI tp)), (0, .ref (h 0)), (1, .int (zI u)), (2, .int (zI v))]) hX dX6_touches_31 rfl (by decide) rfl ?_
      refine Z.aload_n hX dX6_touches_32 rfl rfl ?_
      refine Z.iconst hX dX6_touches_33 ?_
      refine Z.iload_n hX dX6_touches_34 rfl rfl ?_
      refine Z.iload_n hX dX6_touches_35 rfl rfl ?_
      refine Z.iload_n hX dX6_touches_36 rfl rfl ?_
      refine Z.callVfl (As := [.int (zI 0), .int (zI u), .int (zI v), .int (zI tp)]) (rest := []) hX 6 0 rfl rfl (ct_X6_slopeByU l D ce h pl ar Gc Lc Bc Jc 0 u v tp (by omega) hu hv (by omega)) mc_X6_slopeByU ml_X6_137 im_X6_slopeByU se_X6_slopeByU ini_X6 nd_X6_slopeByU ⟨Nat.le_of_ble_eq_true rfl, Nat.le_of_ble_eq_true rfl⟩ ⟨rfl, rfl⟩ ⟨Nat.le_refl _, Nat.le_refl _⟩ rfl (Nat.le_of_ble_eq_true rfl) dX6_touches_37 ?_
      rintro r_6 w1 ⟨r07, hr_, hw_⟩
      subst hr_
      subst hw_
      refine Z.aload_n hX dX6_touches_40 rfl rfl ?_
      refine Z.iconst hX dX6_touches_41 ?_
      refine Z.iload_n hX dX6_touches_42 rfl rfl ?_
      refine Z.iload_n hX dX6_touches_43 rfl rfl ?_
      refine Z.iload_n hX dX6_touches_44 rfl rfl ?_
      refine Z.callVfl (As := [.int (zI 1), .int (zI u), .int (zI v), .int (zI tp)]) (rest := [.long r_6]) hX 6 0 rfl rfl (ct_X6_slopeByV l D ce h pl ar Gc Lc Bc Jc 1 u v tp (by omega) hu hv (by omega)) mc_X6_slopeByV ml_X6_141 im_X6_slopeByV se_X6_slopeByV ini_X6 nd_X6_slopeByV ⟨Nat.le_of_ble_eq_true rfl, Nat.le_of_ble_eq_true rfl⟩ ⟨rfl, rfl⟩ ⟨Nat.le_refl _, Nat.le_refl _⟩ rfl (Nat.le_of_ble_eq_true rfl) dX6_touches_45 ?_
      rintro r_8 w1 ⟨r09, hr_, hw_⟩
      subst hr_
      subst hw_
      refine Z.lmul hX dX6_touches_48 ?_
      refine Z.aload_n hX dX6_touches_49 rfl rfl ?_
      refine Z.iconst hX dX6_touches_50 ?_
      refine Z.iload_n hX dX6_touches_51 rfl rfl ?_
      refine Z.iload_n hX dX6_touches_52 rfl rfl ?_
      refine Z.iload_n hX dX6_touches_53 rfl rfl ?_
      refine Z.callVfl (As := [.int (zI 1), .int (zI u), .int (zI v), .int (zI tp)]) (rest := [.long (r_6 * r_8)]) hX 6 0 rfl rfl (ct_X6_slopeByU l D ce h pl ar Gc Lc Bc Jc 1 u v tp (by omega) hu hv (by omega)) mc_X6_slopeByU ml_X6_137 im_X6_slopeByU se_X6_slopeByU ini_X6 nd_X6_slopeByU ⟨Nat.le_of_ble_eq_true rfl, Nat.le_of_ble_eq_true rfl⟩ ⟨rfl, rfl⟩ ⟨Nat.le_refl _, Nat.le_refl _⟩ rfl (Nat.le_of_ble_eq_true rfl) dX6_touches_54 ?_
      rintro r_10 w1 ⟨r011, hr_, hw_⟩
      subst hr_
      subst hw_
      refine Z.aload_n hX dX6_touches_57 rfl rfl ?_
      refine Z.iconst hX dX6_touches_58 ?_
      refine Z.iload_n hX dX6_touches_59 rfl rfl ?_
      refine Z.iload_n hX dX6_touches_60 rfl rfl ?_
      refine Z.iload_n hX dX6_touches_61 rfl rfl ?_
      refine Z.callVfl (As := [.int (zI 0), .int (zI u), .int (zI v), .int (zI tp)]) (rest := [.long r_10, .long (r_6 * r_8)]) hX 6 0 rfl rfl (ct_X6_slopeByV l D ce h pl ar Gc Lc Bc Jc 0 u v tp (by omega) hu hv (by omega)) mc_X6_slopeByV ml_X6_141 im_X6_slopeByV se_X6_slopeByV ini_X6 nd_X6_slopeByV ⟨Nat.le_of_ble_eq_true rfl, Nat.le_of_ble_eq_true rfl⟩ ⟨rfl, rfl⟩ ⟨Nat.le_refl _, Nat.le_refl _⟩ rfl (Nat.le_of_ble_eq_true rfl) dX6_touches_62 ?_
      rintro r_12 w1 ⟨r013, hr_, hw_⟩
      subst hr_
      subst hw_
      refine Z.lmul hX dX6_touches_65 ?_
      refine Z.lsub hX dX6_touches_66 ?_
      refine Z.lstore (lv' := [(4, .long ((r_6 * r_8) - (r_10 * r_12))), (3, .int (zI tp)), (0, .ref (h 0)), (1, .int (zI u)), (2, .int (zI v))]) hX dX6_touches_67 (by decide) rfl ?_
      refine Z.lload hX dX6_touches_69 rfl ?_
      refine Z.lconst (v := 0) hX dX6_touches_71 rfl ?_
      refine Z.lcmp_eq hX 80 dX6_touches_72 dX6_touches_73 (by decide) ?_ ?_
      · intro c14
        refine Z.bipush hX dX6_touches_80 (by decide) ?_
        exact hR _ _ _ _ dX6_touches_82 ⟨(-2), Gc, Lc, Bc, Jc, rfl, rfl, cv1, cv2, (fun q => absurd (by omega) q), cv3⟩
      · intro c14
        refine Z.iconst hX dX6_touches_76 ?_
        refine Z.goto hX 82 dX6_touches_77 (by decide) ?_
        exact hR _ _ _ _ dX6_touches_82 ⟨1, Gc, Lc, Bc, Jc, rfl, rfl, cv1, cv2, (fun q => absurd (by omega) q), cv3⟩
    · intro c4
      refine Z.bipush hX dX6_touches_21 (by decide) ?_
      exact hR _ _ _ _ dX6_touches_23 ⟨(-2), Gc, Lc, Bc, Jc, rfl, rfl, cv1, cv2, (fun q => absurd (by omega) q), cv3⟩
  · intro c2
    refine Z.iconst hX dX6_touches_8 ?_
    exact hR _ _ _ _ dX6_touches_9 ⟨(-1), G, L, B, J, rfl, rfl, hok, (fun _ _ => rfl), (fun _ => rfl), hfi⟩

set_option maxHeartbeats 4000000 in
set_option maxRecDepth 100000 in
theorem ct_X6_follows_x (l : Launch) (D : va_G) (ce : Nat → ClassId) (h pl ar : Nat → Nat) (G : Nat → Int) (L : Nat → Nat → Int64) (B : Nat → Int) (J : Nat → Nat → Int64) (u v : Int) (hok : cOK G B) (hbl : bL L) (hfi : FI G L) (hu : -2147483648 ≤ u ∧ u < 2147483648) (hv : -2147483648 ≤ v ∧ v < 2147483648) : Ct l yX6_follows cX6_follows 3 (some .int) { frames := 6, cells := 0, slots := 0, locals := 162 } 0 0 D (TY ce) [.ref (h 0), .int (zI u), .int (zI v)] (cW ce h pl ar G L B J) (QI D (TY ce) (fun r w1 => ∃ z : Int, ∃ G2 : Nat → Int, ∃ L2 : Nat → Nat → Int64, ∃ B2 : Nat → Int, ∃ J2 : Nat → Nat → Int64, r = zI z ∧ w1 = cW ce h pl ar G2 L2 B2 J2 ∧ (cOK G2 B2) ∧ (∀ k, k < 3 → L2 k = L k) ∧ (¬ (-9 ≤ u ∧ u ≤ 9 ∧ -9 ≤ v ∧ v ≤ 9 ∧ ¬ (u = 0 ∧ v = 0)) → z = -1) ∧ (FI G2 L2))) := by
  refine Ct.ofI (by decide) (Nat.le_of_ble_eq_true rfl) ?_
  intro p e s m args below meth c A Q hX hnm hR
  refine Z.pick (lv' := [(0, .ref (h 0)), (1, .int (zI u)), (2, .int (zI v))]) [0, 1, 2] rfl ?_
  obtain ⟨hB, hg0, hg2, hg3, hg5, hg6, hg1, hg4⟩ := id hok
  unfold bl at hg0 hg2 hg3 hg5 hg6
  refine Z.iload_n hX dX6_follows_0 rfl rfl ?_
  refine Z.iload_n hX dX6_follows_1 rfl rfl ?_
  refine Z.callS0i (As := [.int (zI u), .int (zI v)]) (rest := []) hX (ct_X6_isParameter l D ce u v (by omega) (by omega)) mc_X6_isParameter ml_X6_88 st_X6_isParameter ini_X6 nd_X6_isParameter ⟨Nat.le_of_ble_eq_true rfl, Nat.le_of_ble_eq_true rfl⟩ ⟨rfl, rfl⟩ ⟨Nat.le_refl _, Nat.le_refl _⟩ rfl (Nat.le_of_ble_eq_true rfl) dX6_follows_2 ?_
  rintro r_1 w1 ⟨z1, hr_, hw_, p1⟩
  subst hr_
  refine ⟨hw_, ?_⟩
  refine Z.if_ne hX 10 dX6_follows_5 (by decide) ⟨by omega, by omega⟩ ?_ ?_
  · intro c2
    refine Z.aload_n hX dX6_follows_10 rfl rfl ?_
    refine Z.iload_n hX dX6_follows_11 rfl rfl ?_
    refine Z.iload_n hX dX6_follows_12 rfl rfl ?_
    refine Z.callVfv (As := [.int (zI u), .int (zI v)]) (rest := []) hX 6 0 rfl rfl (ct_X6_moveTo l D ce h pl ar G L B J u v (by omega) (by omega)) mc_X6_moveTo ml_X6_91 im_X6_moveTo se_X6_moveTo ini_X6 nd_X6_moveTo ⟨Nat.le_of_ble_eq_true rfl, Nat.le_of_ble_eq_true rfl⟩ ⟨rfl, rfl⟩ ⟨Nat.le_refl _, Nat.le_refl _⟩ rfl (Nat.le_of_ble_eq_true rfl) dX6_follows_13 ?_
    rintro w1 ⟨n, Lm, hw_, mv1, mv2, mv3⟩
    subst hw_
    refine Z.aload_n hX dX6_follows_16 rfl rfl ?_
    refine Z.getf hX 6 0 7 dX6_follows_17 rfl rfl inX6 (by decide) fl_X6_50 rfl rfl ?_
    refine Z.iconst hX dX6_follows_20 ?_
    refine Z.laload hX 8 1 dX6_follows_21 rfl rfl (by omega) (by omega) (by decide) ?_
    refine Z.lconst (v := 0) hX dX6_follows_22 rfl ?_
    refine Z.lcmp_eq hX 42 dX6_follows_23 dX6_follows_24 (by decide) ?_ ?_
    · intro c4
      refine Z.bipush hX dX6_follows_42 (by decide) ?_
      exact hR _ _ _ _ dX6_follows_44 ⟨(-2), G, Lm, B, J, rfl, rfl, hok, (fun k h => mv3 k (by omega)), (fun q => absurd (by omega) q), (FI_k hfi rfl (fun k h => mv3 k (by omega)))⟩
    · intro c4
      refine Z.aload_n hX dX6_follows_27 rfl rfl ?_
      refine Z.iconst hX dX6_follows_28 ?_
      refine Z.callVfr (As := [.int (zI 0)]) (rest := []) hX 6 0 rfl rfl (ct_X6_curveOf_lx l D ce h pl ar G Lm B J hok (bL_k hbl (fun k h => mv3 k (by omega))) (FI_k hfi rfl (fun k h => mv3 k (by omega)))) mc_X6_curveOf ml_X6_102 im_X6_curveOf se_X6_curveOf ini_X6 nd_X6_curveOf ⟨Nat.le_of_ble_eq_true rfl, Nat.le_of_ble_eq_true rfl⟩ ⟨rfl, rfl⟩ ⟨Nat.le_refl _, Nat.le_refl _⟩ rfl (Nat.le_of_ble_eq_true rfl) dX6_follows_29 ?_
      rintro r_5 w1 ⟨Gc, Lc, Bc, Jc, hr_, hw_, cv1, cv2, cv3⟩
      subst hr_
      subst hw_
      obtain ⟨dB, dg0, dg2, dg3, dg5, dg6, dg1, dg4⟩ := id cv1
      unfold bl at dg0 dg2 dg3 dg5 dg6
      refine Z.getf hX 0 6 3 dX6_follows_32 rfl rfl inX0 (by decide) fl_X6_106 rfl rfl ?_
      refine Z.if_eq hX 42 dX6_follows_35 (by decide) ⟨by omega, by omega⟩ ?_ ?_
      · intro c6
        refine Z.bipush hX dX6_follows_42 (by decide) ?_
        exact hR _ _ _ _ dX6_follows_44 ⟨(-2), Gc, Lc, Bc, Jc, rfl, rfl, cv1, (fun k h => (cv2 k h).trans (mv3 k (by omega))), (fun q => absurd (by omega) q), cv3⟩
      · intro c6
        refine Z.iconst hX dX6_follows_38 ?_
        refine Z.goto hX 44 dX6_follows_39 (by decide) ?_
        exact hR _ _ _ _ dX6_follows_44 ⟨1, Gc, Lc, Bc, Jc, rfl, rfl, cv1, (fun k h => (cv2 k h).trans (mv3 k (by omega))), (fun q => absurd (by omega) q), cv3⟩
  · intro c2
    refine Z.iconst hX dX6_follows_8 ?_
    exact hR _ _ _ _ dX6_follows_9 ⟨(-1), G, L, B, J, rfl, rfl, hok, (fun _ _ => rfl), (fun _ => rfl), hfi⟩

