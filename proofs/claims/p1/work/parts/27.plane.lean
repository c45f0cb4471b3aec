theorem dX3_erase_0 : decode cX3_erase 0 = .ok (.aload_n 0, 1) := by decide +kernel
theorem dX3_erase_1 : decode cX3_erase 1 = .ok (.getfield 9, 3) := by decide +kernel
theorem dX3_erase_4 : decode cX3_erase 4 = .ok (.lconst 0, 1) := by decide +kernel
theorem dX3_erase_5 : decode cX3_erase 5 = .ok (.invokestatic 19, 3) := by decide +kernel
theorem dX3_erase_8 : decode cX3_erase 8 = .ok (.aload_n 0, 1) := by decide +kernel
theorem dX3_erase_9 : decode cX3_erase 9 = .ok (.iconst 0, 1) := by decide +kernel
theorem dX3_erase_10 : decode cX3_erase 10 = .ok (.putfield 15, 3) := by decide +kernel
theorem dX3_erase_13 : decode cX3_erase 13 = .ok (.return_, 1) := by decide +kernel
set_option maxHeartbeats 4000000 in
set_option maxRecDepth 100000 in
theorem ct_X3_erase (l : Launch) (D : va_G) (ce : Nat → ClassId) (h pl ar : Nat → Nat) (G : Nat → Int) (L : Nat → Nat → Int64) (B : Nat → Int) (J : Nat → Nat → Int64) (k : Nat) (hk : k < 42) (hB : BOK B) : Ct l yX3_erase cX3_erase 1 none { frames := 1, cells := 0, slots := 0, locals := 24 } 0 0 D (TY ce) [.ref (pl k)] (cW ce h pl ar G L B J) (QV D (TY ce) (fun w1 => ∃ B2 : Nat → Int, ∃ J2 : Nat → Nat → Int64, w1 = cW ce h pl ar G L B2 J2 ∧ (∀ j, j ≠ k → B2 j = B j) ∧ (∀ j, j ≠ k → J2 j = J j) ∧ (BOK B2) ∧ (B2 k = 0))) := by
  refine Ct.ofV (by decide) (Nat.le_of_ble_eq_true rfl) ?_
  intro p e s m args below meth c A Q hX hnm hR
  refine Z.pick (lv' := [(0, .ref (pl k))]) [0] rfl ?_
  refine Z.aload_n hX dX3_erase_0 rfl rfl ?_
  refine Z.getf hX 3 (24 + k) 0 dX3_erase_1 (cW_pl (by omega)) rfl inX3 (by decide) fl_X3_9 rfl rfl ?_
  refine Z.lconst (v := 0) hX dX3_erase_4 rfl ?_
  refine Z.callS1v (As := [.ref (ar k), .long 0]) (rest := []) hX (66 + k) (cW_ar (by omega)) (ct_J7_fill_d0a16 l D ce ((ar k)) 28 (J k) 0 (by decide)) mc_J7_fill_d0a16 ml_X3_19 st_J7_fill_d0a16 ini_J7 nd_J7_fill_d0a16 ⟨Nat.le_of_ble_eq_true rfl, Nat.le_of_ble_eq_true rfl⟩ ⟨rfl, rfl⟩ ⟨Nat.le_refl _, Nat.le_refl _⟩ rfl (Nat.le_of_ble_eq_true rfl) dX3_erase_5 ?_
  rintro w1 ⟨f22, hw_, hq3⟩
  refine ⟨_, hw_, ?_⟩
  obtain ⟨J4, eJ4⟩ : ∃ J' : Nat → Nat → Int64, J' = va_up J k (f22) := ⟨_, rfl⟩
  refine Z.toW (w' := cW ce h pl ar G L B J4) (by rw [eJ4]; exact cW_setJ (by omega)) ?_
  have gJ4 : J4 k = f22 := by rw [eJ4]; exact up_eq
  have fJ4 : ∀ j_, j_ ≠ k → J4 j_ = J j_ := fun j_ hj_ => by rw [eJ4]; exact up_ne hj_
  refine Z.aload_n hX dX3_erase_8 rfl rfl ?_
  refine Z.iconst hX dX3_erase_9 ?_
  refine Z.putf (ty := .int) hX 3 (24 + k) 1 tyX3 dX3_erase_10 (cW_pl (by omega)) rfl inX3 tyX3_ok nmX3 (by decide) fl_X3_15 rfl rfl (by decide +kernel) rfl rfl (Nat.le_of_ble_eq_true rfl) ?_
  obtain ⟨B5, eB5⟩ : ∃ F' : Nat → Int, F' = va_up B k (0) := ⟨_, rfl⟩
  refine Z.toW (w' := cW ce h pl ar G L B5 J4) (by rw [eB5]; exact cW_setB (by omega)) ?_
  have gB5 : B5 k = 0 := by rw [eB5]; exact up_eq
  have fB5 : ∀ j_, j_ ≠ k → B5 j_ = B j_ := fun j_ hj_ => by rw [eB5]; exact up_ne hj_
  exact hR _ _ _ dX3_erase_13 ⟨B5, J4, rfl, (fun j_ h_k => ((fB5 j_ h_k).trans rfl)), (fun j_ h_k => ((fJ4 j_ h_k).trans rfl)), (BOK_s (k := k) hB (by omega) (fun j_ h_k => ((fB5 j_ h_k).trans rfl))), (by assumption)⟩

theorem dX3_setLine_0 : decode cX3_setLine 0 = .ok (.aload_n 0, 1) := by decide +kernel
theorem dX3_setLine_1 : decode cX3_setLine 1 = .ok (.invokevirtual 25, 3) := by decide +kernel
theorem dX3_setLine_4 : decode cX3_setLine 4 = .ok (.aload_n 0, 1) := by decide +kernel
theorem dX3_setLine_5 : decode cX3_setLine 5 = .ok (.iconst 1, 1) := by decide +kernel
theorem dX3_setLine_6 : decode cX3_setLine 6 = .ok (.putfield 15, 3) := by decide +kernel
theorem dX3_setLine_9 : decode cX3_setLine 9 = .ok (.aload_n 0, 1) := by decide +kernel
theorem dX3_setLine_10 : decode cX3_setLine 10 = .ok (.getfield 9, 3) := by decide +kernel
theorem dX3_setLine_13 : decode cX3_setLine 13 = .ok (.iconst 0, 1) := by decide +kernel
theorem dX3_setLine_14 : decode cX3_setLine 14 = .ok (.iconst 0, 1) := by decide +kernel
theorem dX3_setLine_15 : decode cX3_setLine 15 = .ok (.invokestatic 28, 3) := by decide +kernel
theorem dX3_setLine_18 : decode cX3_setLine 18 = .ok (.lload 5, 2) := by decide +kernel
theorem dX3_setLine_20 : decode cX3_setLine 20 = .ok (.lastore, 1) := by decide +kernel
theorem dX3_setLine_21 : decode cX3_setLine 21 = .ok (.aload_n 0, 1) := by decide +kernel
theorem dX3_setLine_22 : decode cX3_setLine 22 = .ok (.getfield 9, 3) := by decide +kernel
theorem dX3_setLine_25 : decode cX3_setLine 25 = .ok (.iconst 1, 1) := by decide +kernel
theorem dX3_setLine_26 : decode cX3_setLine 26 = .ok (.iconst 0, 1) := by decide +kernel
theorem dX3_setLine_27 : decode cX3_setLine 27 = .ok (.invokestatic 28, 3) := by decide +kernel
theorem dX3_setLine_30 : decode cX3_setLine 30 = .ok (.lload_n 1, 1) := by decide +kernel
theorem dX3_setLine_31 : decode cX3_setLine 31 = .ok (.lastore, 1) := by decide +kernel
theorem dX3_setLine_32 : decode cX3_setLine 32 = .ok (.aload_n 0, 1) := by decide +kernel
theorem dX3_setLine_33 : decode cX3_setLine 33 = .ok (.getfield 9, 3) := by decide +kernel
theorem dX3_setLine_36 : decode cX3_setLine 36 = .ok (.iconst 1, 1) := by decide +kernel
theorem dX3_setLine_37 : decode cX3_setLine 37 = .ok (.iconst 1, 1) := by decide +kernel
theorem dX3_setLine_38 : decode cX3_setLine 38 = .ok (.invokestatic 28, 3) := by decide +kernel
theorem dX3_setLine_41 : decode cX3_setLine 41 = .ok (.lload_n 3, 1) := by decide +kernel
theorem dX3_setLine_42 : decode cX3_setLine 42 = .ok (.lastore, 1) := by decide +kernel
theorem dX3_setLine_43 : decode cX3_setLine 43 = .ok (.return_, 1) := by decide +kernel
set_option maxHeartbeats 4000000 in
set_option maxRecDepth 100000 in
theorem ct_X3_setLine (l : Launch) (D : va_G) (ce : Nat → ClassId) (h pl ar : Nat → Nat) (G : Nat → Int) (L : Nat → Nat → Int64) (B : Nat → Int) (J : Nat → Nat → Int64) (k : Nat) (x1 x2 x3 : Int64) (hk : k < 42) (hB : BOK B) : Ct l yX3_setLine cX3_setLine 7 none { frames := 2, cells := 0, slots := 0, locals := 44 } 0 0 D (TY ce) [.ref (pl k), .long x1, .long x2, .long x3] (cW ce h pl ar G L B J) (QV D (TY ce) (fun w1 => ∃ B2 : Nat → Int, ∃ J2 : Nat → Nat → Int64, w1 = cW ce h pl ar G L B2 J2 ∧ (∀ j, j ≠ k → B2 j = B j) ∧ (∀ j, j ≠ k → J2 j = J j) ∧ (BOK B2) ∧ (B2 k = 1))) := by
  refine Ct.ofV (by decide) (Nat.le_of_ble_eq_true rfl) ?_
  intro p e s m args below meth c A Q hX hnm hR
  refine Z.pick (lv' := [(0, .ref (pl k)), (1, .long x1), (3, .long x2), (5, .long x3)]) [0, 1, 2, 3] rfl ?_
  refine Z.aload_n hX dX3_setLine_0 rfl rfl ?_
  refine Z.callVfv (As := []) (rest := []) hX 3 (24 + k) rfl (cW_pl (by omega)) (ct_X3_erase l D ce h pl ar G L B J k hk hB) mc_X3_erase ml_X3_25 im_X3_erase se_X3_erase ini_X3 nd_X3_erase ⟨Nat.le_of_ble_eq_true rfl, Nat.le_of_ble_eq_true rfl⟩ ⟨rfl, rfl⟩ ⟨Nat.le_refl _, Nat.le_refl _⟩ rfl (Nat.le_of_ble_eq_true rfl) dX3_setLine_1 ?_
  rintro w1 ⟨B22, J23, hw_, hq4, hq5, hq6, hq7⟩
  subst hw_
  refine Z.aload_n hX dX3_setLine_4 rfl rfl ?_
  refine Z.iconst hX dX3_setLine_5 ?_
  refine Z.putf (ty := .int) hX 3 (24 + k) 1 tyX3 dX3_setLine_6 (cW_pl (by omega)) rfl inX3 tyX3_ok nmX3 (by decide) fl_X3_15 rfl rfl (by decide +kernel) rfl rfl (Nat.le_of_ble_eq_true rfl) ?_
  obtain ⟨B8, eB8⟩ : ∃ F' : Nat → Int, F' = va_up B22 k (1) := ⟨_, rfl⟩
  refine Z.toW (w' := cW ce h pl ar G L B8 J23) (by rw [eB8]; exact cW_setB (by omega)) ?_
  have gB8 : B8 k = 1 := by rw [eB8]; exact up_eq
  have fB8 : ∀ j_, j_ ≠ k → B8 j_ = B22 j_ := fun j_ hj_ => by rw [eB8]; exact up_ne hj_
  refine Z.aload_n hX dX3_setLine_9 rfl rfl ?_
  refine Z.getf hX 3 (24 + k) 0 dX3_setLine_10 (cW_pl (by omega)) rfl inX3 (by decide) fl_X3_9 rfl rfl ?_
  refine Z.iconst hX dX3_setLine_13 ?_
  refine Z.iconst hX dX3_setLine_14 ?_
  refine Z.callSNi (As := [.int (zI 0), .int (zI 0)]) (rest := [.ref (ar k)]) hX (ct_X6_slotOf l D ce 0 0 (by omega) (by omega)) mc_X6_slotOf ns_X3_28 st_X6_slotOf ini_X6 nd_X6_slotOf ⟨Nat.le_of_ble_eq_true rfl, Nat.le_of_ble_eq_true rfl⟩ ⟨rfl, rfl⟩ ⟨Nat.le_refl _, Nat.le_refl _⟩ rfl (Nat.le_of_ble_eq_true rfl) dX3_setLine_15 ?_
  rintro r_9 w1 ⟨z10, hr_, hw_, hq11, hq12⟩
  subst hr_
  refine ⟨hw_, ?_⟩
  refine Z.lload hX dX3_setLine_18 rfl ?_
  refine Z.lastore hX (66 + k) 1 dX3_setLine_20 (cW_ar (by omega)) rfl (by omega) (by omega) (by decide) ?_
  obtain ⟨J13, eJ13⟩ : ∃ J' : Nat → Nat → Int64, J' = va_up J23 k (vp_updL (J23 k) (z10 : Int).toNat (x3)) := ⟨_, rfl⟩
  refine Z.toW (w' := cW ce h pl ar G L B8 J13) (by rw [eJ13]; exact cW_setJ (by omega)) ?_
  have gJ13 : J13 k = vp_updL (J23 k) (z10 : Int).toNat (x3) := by rw [eJ13]; exact up_eq
  have fJ13 : ∀ j_, j_ ≠ k → J13 j_ = J23 j_ := fun j_ hj_ => by rw [eJ13]; exact up_ne hj_
  refine Z.aload_n hX dX3_setLine_21 rfl rfl ?_
  refine Z.getf hX 3 (24 + k) 0 dX3_setLine_22 (cW_pl (by omega)) rfl inX3 (by decide) fl_X3_9 rfl rfl ?_
  refine Z.iconst hX dX3_setLine_25 ?_
  refine Z.iconst hX dX3_setLine_26 ?_
  refine Z.callSNi (As := [.int (zI 1), .int (zI 0)]) (rest := [.ref (ar k)]) hX (ct_X6_slotOf l D ce 1 0 (by omega) (by omega)) mc_X6_slotOf ns_X3_28 st_X6_slotOf ini_X6 nd_X6_slotOf ⟨Nat.le_of_ble_eq_true rfl, Nat.le_of_ble_eq_true rfl⟩ ⟨rfl, rfl⟩ ⟨Nat.le_refl _, Nat.le_refl _⟩ rfl (Nat.le_of_ble_eq_true rfl) dX3_setLine_27 ?_
  rintro r_14 w1 ⟨z15, hr_, hw_, hq16, hq17⟩
  subst hr_
  refine ⟨hw_, ?_⟩
  refine Z.lload_n hX dX3_setLine_30 rfl rfl ?_
  refine Z.lastore hX (66 + k) 1 dX3_setLine_31 (cW_ar (by omega)) rfl (by omega) (by omega) (by decide) ?_
  obtain ⟨J18, eJ18⟩ : ∃ J' : Nat → Nat → Int64, J' = va_up J13 k (vp_updL (J13 k) (z15 : Int).toNat (x1)) := ⟨_, rfl⟩
  refine Z.toW (w' := cW ce h pl ar G L B8 J18) (by rw [eJ18]; exact cW_setJ (by omega)) ?_
  have gJ18 : J18 k = vp_updL (J13 k) (z15 : Int).toNat (x1) := by rw [eJ18]; exact up_eq
  have fJ18 : ∀ j_, j_ ≠ k → J18 j_ = J13 j_ := fun j_ hj_ => by rw [eJ18]; exact up_ne hj_
  refine Z.aload_n hX dX3_setLine_32 rfl rfl ?_
  refine Z.getf hX 3 (24 + k) 0 dX3_setLine_33 (cW_pl (by omega)) rfl inX3 (by decide) fl_X3_9 rfl rfl ?_
  refine Z.iconst hX dX3_setLine_36 ?_
  refine Z.iconst hX dX3_setLine_37 ?_
  refine Z.callSNi (As := [.int (zI 1), .int (zI 1)]) (rest := [.ref (ar k)]) hX (ct_X6_slotOf l D ce 1 1 (by omega) (by omega)) mc_X6_slotOf ns_X3_28 st_X6_slotOf ini_X6 nd_X6_slotOf ⟨Nat.le_of_ble_eq_true rfl, Nat.le_of_ble_eq_true rfl⟩ ⟨rfl, rfl⟩ ⟨Nat.le_refl _, Nat.le_refl _⟩ rfl (Nat.le_of_ble_eq_true rfl) dX3_setLine_38 ?_
  rintro r_19 w1 ⟨z20, hr_, hw_, hq21, hq22⟩
  subst hr_
  refine ⟨hw_, ?_⟩
  refine Z.lload_n hX dX3_setLine_41 rfl rfl ?_
  refine Z.lastore hX (66 + k) 1 dX3_setLine_42 (cW_ar (by omega)) rfl (by omega) (by omega) (by decide) ?_
  obtain ⟨J23, eJ23⟩ : ∃ J' : Nat → Nat → Int64, J' = va_up J18 k (vp_updL (J18 k) (z20 : Int).toNat (x2)) := ⟨_, rfl⟩
  refine Z.toW (w' := cW ce h pl ar G L B8 J23) (by rw [eJ23]; exact cW_setJ (by omega)) ?_
  have gJ23 : J23 k = vp_updL (J18 k) (z20 : Int).toNat (x2) := by rw [eJ23]; exact up_eq
  have fJ23 : ∀ j_, j_ ≠ k → J23 j_ = J18 j_ := fun j_ hj_ => by rw [eJ23]; exact up_ne hj_
  exact hR _ _ _ dX3_setLine_43 ⟨B8, J23, rfl, (fun j_ h_k => ((fB8 j_ h_k).trans ((hq4 j_ h_k).trans rfl))), (fun j_ h_k => ((fJ23 j_ h_k).trans ((fJ18 j_ h_k).trans ((fJ13 j_ h_k).trans ((hq5 j_ h_k).trans rfl))))), (BOK_s (k := k) hB (by omega) (fun j_ h_k => ((fB8 j_ h_k).trans ((hq4 j_ h_k).trans rfl)))), (by assumption)⟩

theorem dX3_copy_0 : decode cX3_copy 0 = .ok (.aload_n 1, 1) := by decide +kernel
theorem dX3_copy_1 : decode cX3_copy 1 = .ok (.getfield 9, 3) := by decide +kernel
theorem dX3_copy_4 : decode cX3_copy 4 = .ok (.iconst 0, 1) := by decide +kernel
theorem dX3_copy_5 : decode cX3_copy 5 = .ok (.aload_n 0, 1) := by decide +kernel
theorem dX3_copy_6 : decode cX3_copy 6 = .ok (.getfield 9, 3) := by decide +kernel
theorem dX3_copy_9 : decode cX3_copy 9 = .ok (.iconst 0, 1) := by decide +kernel
theorem dX3_copy_10 : decode cX3_copy 10 = .ok (.bipush 28, 2) := by decide +kernel
theorem dX3_copy_12 : decode cX3_copy 12 = .ok (.invokestatic 32, 3) := by decide +kernel
theorem dX3_copy_15 : decode cX3_copy 15 = .ok (.aload_n 0, 1) := by decide +kernel
theorem dX3_copy_16 : decode cX3_copy 16 = .ok (.aload_n 1, 1) := by decide +kernel
theorem dX3_copy_17 : decode cX3_copy 17 = .ok (.getfield 15, 3) := by decide +kernel
theorem dX3_copy_20 : decode cX3_copy 20 = .ok (.putfield 15, 3) := by decide +kernel
theorem dX3_copy_23 : decode cX3_copy 23 = .ok (.return_, 1) := by decide +kernel
set_option maxHeartbeats 4000000 in
set_option maxRecDepth 100000 in
theorem ct_X3_copy (l : Launch) (D : va_G) (ce : Nat → ClassId) (h pl ar : Nat → Nat) (G : Nat → Int) (L : Nat → Nat → Int64) (B : Nat → Int) (J : Nat → Nat → Int64) (k : Nat) (kf : Nat) (hk : k < 42) (hB : BOK B) (hkf : kf < 42) : Ct l yX3_copy cX3_copy 2 none { frames := 1, cells := 0, slots := 0, locals := 40 } 0 0 D (TY ce) [.ref (pl k), .ref (pl kf)] (cW ce h pl ar G L B J) (QV D (TY ce) (fun w1 => ∃ B2 : Nat → Int, ∃ J2 : Nat → Nat → Int64, w1 = cW ce h pl ar G L B2 J2 ∧ (∀ j, j ≠ k → B2 j = B j) ∧ (∀ j, j ≠ k → J2 j = J j) ∧ (BOK B2) ∧ (B2 k = B kf))) := by
  refine Ct.ofV (by decide) (Nat.le_of_ble_eq_true rfl) ?_
  intro p e s m args below meth c A Q hX hnm hR
  refine Z.pick (lv' := [(0, .ref (pl k)), (1, .ref (pl kf))]) [0, 1] rfl ?_
  have hbf := hB kf hkf
  refine Z.aload_n hX dX3_copy_0 rfl rfl ?_
  refine Z.getf hX 3 (24 + kf) 0 dX3_copy_1 (cW_pl (by omega)) rfl inX3 (by decide) fl_X3_9 rfl rfl ?_
  refine Z.iconst hX dX3_copy_4 ?_
  refine Z.aload_n hX dX3_copy_5 rfl rfl ?_
  refine Z.getf hX 3 (24 + k) 0 dX3_copy_6 (cW_pl (by omega)) rfl inX3 (by decide) fl_X3_9 rfl rfl ?_
  refine Z.iconst hX dX3_copy_9 ?_
  refine Z.bipush hX dX3_copy_10 (by decide) ?_
  refine Z.copyA hX (66 + kf) (66 + k) 1 dX3_copy_12 (cW_ar (by omega)) (cW_ar (by omega)) rfl rfl (by decide) ml_X3_32 (by decide) (Nat.le_of_ble_eq_true rfl) ?_
  obtain ⟨J1, eJ1⟩ : ∃ J' : Nat → Nat → Int64, J' = va_up J k (va_cpy (J kf) (J k) 0 0 28) := ⟨_, rfl⟩
  refine Z.toW (w' := cW ce h pl ar G L B J1) (by rw [eJ1]; exact cW_setJ (by omega)) ?_
  have gJ1 : J1 k = va_cpy (J kf) (J k) 0 0 28 := by rw [eJ1]; exact up_eq
  have fJ1 : ∀ j_, j_ ≠ k → J1 j_ = J j_ := fun j_ hj_ => by rw [eJ1]; exact up_ne hj_
  refine Z.aload_n hX dX3_copy_15 rfl rfl ?_
  refine Z.aload_n hX dX3_copy_16 rfl rfl ?_
  refine Z.getf hX 3 (24 + kf) 1 dX3_copy_17 (cW_pl (by omega)) rfl inX3 (by decide) fl_X3_15 rfl rfl ?_
  refine Z.putf (ty := .int) hX 3 (24 + k) 1 tyX3 dX3_copy_20 (cW_pl (by omega)) rfl inX3 tyX3_ok nmX3 (by decide) fl_X3_15 rfl rfl (by decide +kernel) rfl rfl (Nat.le_of_ble_eq_true rfl) ?_
  obtain ⟨B2, eB2⟩ : ∃ F' : Nat → Int, F' = va_up B k (B kf) := ⟨_, rfl⟩
  refine Z.toW (w' := cW ce h pl ar G L B2 J1) (by rw [eB2]; exact cW_setB (by omega)) ?_
  have gB2 : B2 k = B kf := by rw [eB2]; exact up_eq
  have fB2 : ∀ j_, j_ ≠ k → B2 j_ = B j_ := fun j_ hj_ => by rw [eB2]; exact up_ne hj_
  exact hR _ _ _ dX3_copy_23 ⟨B2, J1, rfl, (fun j_ h_k => ((fB2 j_ h_k).trans rfl)), (fun j_ h_k => ((fJ1 j_ h_k).trans rfl)), (BOK_s (k := k) hB (by omega) (fun j_ h_k => ((fB2 j_ h_k).trans rfl))), (by assumption)⟩

theorem dX3_firstOfBound_0 : decode cX3_firstOfBound 0 = .ok (.iconst 0, 1) := by decide +kernel
theorem dX3_firstOfBound_1 : decode cX3_firstOfBound 1 = .ok (.istore_n 1, 1) := by decide +kernel
theorem dX3_firstOfBound_2 : decode cX3_firstOfBound 2 = .ok (.iload_n 1, 1) := by decide +kernel
theorem dX3_firstOfBound_3 : decode cX3_firstOfBound 3 = .ok (.aload_n 0, 1) := by decide +kernel
theorem dX3_firstOfBound_4 : decode cX3_firstOfBound 4 = .ok (.getfield 15, 3) := by decide +kernel
theorem dX3_firstOfBound_7 : decode cX3_firstOfBound 7 = .ok (.if_icmp .gt 29, 3) := by decide +kernel
theorem dX3_firstOfBound_10 : decode cX3_firstOfBound 10 = .ok (.aload_n 0, 1) := by decide +kernel
theorem dX3_firstOfBound_11 : decode cX3_firstOfBound 11 = .ok (.getfield 9, 3) := by decide +kernel
theorem dX3_firstOfBound_14 : decode cX3_firstOfBound 14 = .ok (.aload_n 0, 1) := by decide +kernel
theorem dX3_firstOfBound_15 : decode cX3_firstOfBound 15 = .ok (.getfield 15, 3) := by decide +kernel
theorem dX3_firstOfBound_18 : decode cX3_firstOfBound 18 = .ok (.iload_n 1, 1) := by decide +kernel
theorem dX3_firstOfBound_19 : decode cX3_firstOfBound 19 = .ok (.invokestatic 28, 3) := by decide +kernel
theorem dX3_firstOfBound_22 : decode cX3_firstOfBound 22 = .ok (.laload, 1) := by decide +kernel
theorem dX3_firstOfBound_23 : decode cX3_firstOfBound 23 = .ok (.lconst 0, 1) := by decide +kernel
theorem dX3_firstOfBound_24 : decode cX3_firstOfBound 24 = .ok (.lcmp, 1) := by decide +kernel
theorem dX3_firstOfBound_25 : decode cX3_firstOfBound 25 = .ok (.ifCond .eq 5, 3) := by decide +kernel
theorem dX3_firstOfBound_28 : decode cX3_firstOfBound 28 = .ok (.iload_n 1, 1) := by decide +kernel
theorem dX3_firstOfBound_29 : decode cX3_firstOfBound 29 = .ok (.ireturn, 1) := by decide +kernel
theorem dX3_firstOfBound_30 : decode cX3_firstOfBound 30 = .ok (.iinc 1 1, 3) := by decide +kernel
theorem dX3_firstOfBound_33 : decode cX3_firstOfBound 33 = .ok (.goto (-31), 3) := by decide +kernel
theorem dX3_firstOfBound_36 : decode cX3_firstOfBound 36 = .ok (.iconst (-1), 1) := by decide +kernel
theorem dX3_firstOfBound_37 : decode cX3_firstOfBound 37 = .ok (.ireturn, 1) := by decide +kernel
set_option maxHeartbeats 4000000 in
set_option maxRecDepth 100000 in
theorem ct_X3_firstOfBound (l : Launch) (D : va_G) (ce : Nat → ClassId) (h pl ar : Nat → Nat) (G : Nat → Int) (L : Nat → Nat → Int64) (B : Nat → Int) (J : Nat → Nat → Int64) (k : Nat) (hk : k < 42) (hB : BOK B) : Ct l yX3_firstOfBound cX3_firstOfBound 2 (some .int) { frames := 1, cells := 0, slots := 0, locals := 21 } 0 0 D (TY ce) [.ref (pl k)] (cW ce h pl ar G L B J) (QI D (TY ce) (fun r w1 => ∃ z : Int, r = zI z ∧ w1 = cW ce h pl ar G L B J ∧ (-1 ≤ z ∧ z ≤ B k))) := by
  refine Ct.ofI (by decide) (Nat.le_of_ble_eq_true rfl) ?_
  intro p e s m args below meth c A Q hX hnm hR
  refine Z.pick (lv' := [(0, .ref (pl k))]) [0] rfl ?_
  have hbk := hB k hk
  refine Z.iconst hX dX3_firstOfBound_0 ?_
  refine Z.istore_n (lv' := [(1, .int (zI 0)), (0, .ref (pl k))]) hX dX3_firstOfBound_1 rfl (by decide) rfl ?_
  have key_2 : ∀ (N : Nat), ∀ (i : Int), (B k + 1 - i).toNat < N → (hi : 0 ≤ i ∧ i ≤ B k + 1) → Z p l e { frames := 1, cells := 0, slots := 0, locals := 21 } s m args below meth c D A 2 0 0 Q 2 [(1, .int (zI i)), (0, .ref (pl k))] [] (cW ce h pl ar G L B J) := by
    intro N
    induction N with
    | zero => intro i hm; exact absurd hm (Nat.not_lt_zero _)
    | succ N ih_2 =>
      intro i hm hi
      refine Z.iload_n hX dX3_firstOfBound_2 rfl rfl ?_
      refine Z.aload_n hX dX3_firstOfBound_3 rfl rfl ?_
      refine Z.getf hX 3 (24 + k) 1 dX3_firstOfBound_4 (cW_pl (by omega)) rfl inX3 (by decide) fl_X3_15 rfl rfl ?_
      refine Z.icmp_gt hX 36 dX3_firstOfBound_7 (by decide) ⟨by omega, by omega⟩ ⟨by omega, by omega⟩ ?_ ?_
      · intro c1
        refine Z.iconst hX dX3_firstOfBound_36 ?_
        exact hR _ _ _ _ dX3_firstOfBound_37 ⟨(-1), rfl, rfl, (by omega)⟩
      · intro c1
        refine Z.aload_n hX dX3_firstOfBound_10 rfl rfl ?_
        refine Z.getf hX 3 (24 + k) 0 dX3_firstOfBound_11 (cW_pl (by omega)) rfl inX3 (by decide) fl_X3_9 rfl rfl ?_
        refine Z.aload_n hX dX3_firstOfBound_14 rfl rfl ?_
        refine Z.getf hX 3 (24 + k) 1 dX3_firstOfBound_15 (cW_pl (by omega)) rfl inX3 (by decide) fl_X3_15 rfl rfl ?_
        refine Z.iload_n hX dX3_firstOfBound_18 rfl rfl ?_
        refine Z.callSNi (As := [.int (zI (B k)), .int (zI i)]) (rest := [.ref (ar k)]) hX (ct_X6_slotOf l D ce (B k) i (by omega) (by omega)) mc_X6_slotOf ns_X3_28 st_X6_slotOf ini_X6 nd_X6_slotOf ⟨Nat.le_of_ble_eq_true rfl, Nat.le_of_ble_eq_true rfl⟩ ⟨rfl, rfl⟩ ⟨Nat.le_refl _, Nat.le_refl _⟩ rfl (Nat.le_of_ble_eq_true rfl) dX3_firstOfBound_19 ?_
        rintro r_2 w1 ⟨z3, hr_, hw_, hq4, hq5⟩
        subst hr_
        refine ⟨hw_, ?_⟩
        refine Z.laload hX (66 + k) 1 dX3_firstOfBound_22 (cW_ar (by omega)) rfl (by omega) (by omega) (by decide) ?_
        refine Z.lconst (v := 0) hX dX3_firstOfBound_23 rfl ?_
        refine Z.lcmp_eq hX 30 dX3_firstOfBound_24 dX3_firstOfBound_25 (by decide) ?_ ?_
        · intro c6
          refine Z.iinc (lv' := [(1, .int (zI (i + 1))), (0, .ref (pl k))]) hX dX3_firstOfBound_30 rfl (by decide) rfl ?_
          refine Z.goto hX 2 dX3_firstOfBound_33 (by decide) ?_
          refine Z.pick [0, 1] rfl ?_
          exact ih_2 _ (by omega) (by omega)
        · intro c6
          refine Z.iload_n hX dX3_firstOfBound_28 rfl rfl ?_
          exact hR _ _ _ _ dX3_firstOfBound_29 ⟨i, rfl, rfl, (by omega)⟩
  refine Z.pick [0, 1] rfl ?_
  exact key_2 _ _ (Nat.lt_succ_self _) (by omega)

theorem dX3_tighten_0 : decode cX3_tighten 0 = .ok (.aload_n 0, 1) := by decide +kernel
theorem dX3_tighten_1 : decode cX3_tighten 1 = .ok (.getfield 15, 3) := by decide +kernel
theorem dX3_tighten_4 : decode cX3_tighten 4 = .ok (.ifCond .le 23, 3) := by decide +kernel
theorem dX3_tighten_7 : decode cX3_tighten 7 = .ok (.aload_n 0, 1) := by decide +kernel
theorem dX3_tighten_8 : decode cX3_tighten 8 = .ok (.invokevirtual 38, 3) := by decide +kernel
theorem dX3_tighten_11 : decode cX3_tighten 11 = .ok (.ifCond .ge 16, 3) := by decide +kernel
theorem dX3_tighten_14 : decode cX3_tighten 14 = .ok (.aload_n 0, 1) := by decide +kernel
theorem dX3_tighten_15 : decode cX3_tighten 15 = .ok (.dup, 1) := by decide +kernel
theorem dX3_tighten_16 : decode cX3_tighten 16 = .ok (.getfield 15, 3) := by decide +kernel
theorem dX3_tighten_19 : decode cX3_tighten 19 = .ok (.iconst 1, 1) := by decide +kernel
theorem dX3_tighten_20 : decode cX3_tighten 20 = .ok (.isub, 1) := by decide +kernel
theorem dX3_tighten_21 : decode cX3_tighten 21 = .ok (.putfield 15, 3) := by decide +kernel
theorem dX3_tighten_24 : decode cX3_tighten 24 = .ok (.goto (-24), 3) := by decide +kernel
theorem dX3_tighten_27 : decode cX3_tighten 27 = .ok (.return_, 1) := by decide +kernel
set_option maxHeartbeats 4000000 in
set_option maxRecDepth 100000 in
theorem ct_X3_tighten (l : Launch) (D : va_G) (ce : Nat → ClassId) (h pl ar : Nat → Nat) (G : Nat → Int) (L : Nat → Nat → Int64) (B : Nat → Int) (J : Nat → Nat → Int64) (k : Nat) (hk : k < 42) (hB : BOK B) : Ct l yX3_tighten cX3_tighten 1 none { frames := 2, cells := 0, slots := 0, locals := 42 } 0 0 D (TY ce) [.ref (pl k)] (cW ce h pl ar G L B J) (QV D (TY ce) (fun w1 => ∃ B2 : Nat → Int, w1 = cW ce h pl ar G L B2 J ∧ (∀ j, j ≠ k → B2 j = B j) ∧ (BOK B2) ∧ (B2 k ≤ B k))) := by
  refine Ct.ofV (by decide) (Nat.le_of_ble_eq_true rfl) ?_
  intro p e s m args below meth c A Q hX hnm hR
  refine Z.pick (lv' := [(0, .ref (pl k))]) [0] rfl ?_
  have key_0 : ∀ (N : Nat), ∀ (M : Nat → Int), (M k).toNat < N → (hM : BOK M) → (hf : ∀ j, j ≠ k → M j = B j) → (hle : M k ≤ B k) → Z p l e { frames := 2, cells := 0, slots := 0, locals := 42 } s m args below meth c D A 1 0 0 Q 0 [(0, .ref (pl k))] [] (cW ce h pl ar G L M J) := by
    intro N
    induction N with
    | zero => intro M hm; exact absurd hm (Nat.not_lt_zero _)
    | succ N ih_0 =>
      intro M hm hM hf hle
      have hbk := hM k hk
      refine Z.aload_n hX dX3_tighten_0 rfl rfl ?_
      refine Z.getf hX 3 (24 + k) 1 dX3_tighten_1 (cW_pl (by omega)) rfl inX3 (by decide) fl_X3_15 rfl rfl ?_
      refine Z.if_le hX 27 dX3_tighten_4 (by decide) ⟨by omega, by omega⟩ ?_ ?_
      · intro c1
        exact hR _ _ _ dX3_tighten_27 ⟨M, rfl, hf, hM, hle⟩
      · intro c1
        refine Z.aload_n hX dX3_tighten_7 rfl rfl ?_
        refine Z.callVfi (As := []) (rest := []) hX 3 (24 + k) rfl (cW_pl (by omega)) (ct_X3_firstOfBound l D ce h pl ar G L M J k hk hM) mc_X3_firstOfBound ml_X3_38 im_X3_firstOfBound se_X3_firstOfBound ini_X3 nd_X3_firstOfBound ⟨Nat.le_of_ble_eq_true rfl, Nat.le_of_ble_eq_true rfl⟩ ⟨rfl, rfl⟩ ⟨Nat.le_refl _, Nat.le_refl _⟩ rfl (Nat.le_of_ble_eq_true rfl) dX3_tighten_8 ?_
        rintro r_2 w1 ⟨z3, hr_, hw_, hq4⟩
        subst hr_
        subst hw_
        refine Z.if_ge hX 27 dX3_tighten_11 (by decide) ⟨by omega, by omega⟩ ?_ ?_
        · intro c5
          exact hR _ _ _ dX3_tighten_27 ⟨M, rfl, hf, hM, hle⟩
        · intro c5
          refine Z.aload_n hX dX3_tighten_14 rfl rfl ?_
          refine Z.dup hX dX3_tighten_15 rfl ?_
          refine Z.getf hX 3 (24 + k) 1 dX3_tighten_16 (cW_pl (by omega)) rfl inX3 (by decide) fl_X3_15 rfl rfl ?_
          refine Z.iconst hX dX3_tighten_19 ?_
          refine Z.isub hX dX3_tighten_20 ?_
          refine Z.putf (ty := .int) hX 3 (24 + k) 1 tyX3 dX3_tighten_21 (cW_pl (by omega)) rfl inX3 tyX3_ok nmX3 (by decide) fl_X3_15 rfl rfl (by decide +kernel) rfl rfl (Nat.le_of_ble_eq_true rfl) ?_
          obtain ⟨B6, eB6⟩ : ∃ F' : Nat → Int, F' = va_up M k ((M k) - 1) := ⟨_, rfl⟩
          refine Z.toW (w' := cW ce h pl ar G L B6 J) (by rw [eB6]; exact cW_setB (by omega)) ?_
          have gB6 : B6 k = (M k) - 1 := by rw [eB6]; exact up_eq
          have fB6 : ∀ j_, j_ ≠ k → B6 j_ = M j_ := fun j_ hj_ => by rw [eB6]; exact up_ne hj_
          refine Z.goto hX 0 dX3_tighten_24 (by decide) ?_
          refine Z.pick [0] rfl ?_
          exact ih_0 _ (by omega) (BOK_s (k := k) hM (by omega) (fun j_ h_k => ((fB6 j_ h_k).trans rfl))) (fun j_ h_k => ((fB6 j_ h_k).trans (hf j_ h_k))) (by omega)
  refine Z.pick [0] rfl ?_
  exact key_0 _ _ (Nat.lt_succ_self _) hB (fun _ _ => rfl) (Int.le_refl _)

theorem dX3_makePrimitive_0 : decode cX3_makePrimitive 0 = .ok (.aload_n 0, 1) := by decide +kernel
theorem dX3_makePrimitive_1 : decode cX3_makePrimitive 1 = .ok (.invokevirtual 42, 3) := by decide +kernel
theorem dX3_makePrimitive_4 : decode cX3_makePrimitive 4 = .ok (.aload_n 0, 1) := by decide +kernel
theorem dX3_makePrimitive_5 : decode cX3_makePrimitive 5 = .ok (.invokevirtual 38, 3) := by decide +kernel
theorem dX3_makePrimitive_8 : decode cX3_makePrimitive 8 = .ok (.istore_n 1, 1) := by decide +kernel
theorem dX3_makePrimitive_9 : decode cX3_makePrimitive 9 = .ok (.lconst 0, 1) := by decide +kernel
theorem dX3_makePrimitive_10 : decode cX3_makePrimitive 10 = .ok (.lstore_n 2, 1) := by decide +kernel
theorem dX3_makePrimitive_11 : decode cX3_makePrimitive 11 = .ok (.iconst 0, 1) := by decide +kernel
theorem dX3_makePrimitive_12 : decode cX3_makePrimitive 12 = .ok (.istore 4, 2) := by decide +kernel
theorem dX3_makePrimitive_14 : decode cX3_makePrimitive 14 = .ok (.iload 4, 2) := by decide +kernel
theorem dX3_makePrimitive_16 : decode cX3_makePrimitive 16 = .ok (.bipush 28, 2) := by decide +kernel
theorem dX3_makePrimitive_18 : decode cX3_makePrimitive 18 = .ok (.if_icmp .ge 21, 3) := by decide +kernel
theorem dX3_makePrimitive_21 : decode cX3_makePrimitive 21 = .ok (.lload_n 2, 1) := by decide +kernel
theorem dX3_makePrimitive_22 : decode cX3_makePrimitive 22 = .ok (.aload_n 0, 1) := by decide +kernel
theorem dX3_makePrimitive_23 : decode cX3_makePrimitive 23 = .ok (.getfield 9, 3) := by decide +kernel
theorem dX3_makePrimitive_26 : decode cX3_makePrimitive 26 = .ok (.iload 4, 2) := by decide +kernel
theorem dX3_makePrimitive_28 : decode cX3_makePrimitive 28 = .ok (.laload, 1) := by decide +kernel
theorem dX3_makePrimitive_29 : decode cX3_makePrimitive 29 = .ok (.invokestatic 45, 3) := by decide +kernel
theorem dX3_makePrimitive_32 : decode cX3_makePrimitive 32 = .ok (.lstore_n 2, 1) := by decide +kernel
theorem dX3_makePrimitive_33 : decode cX3_makePrimitive 33 = .ok (.iinc 4 1, 3) := by decide +kernel
theorem dX3_makePrimitive_36 : decode cX3_makePrimitive 36 = .ok (.goto (-22), 3) := by decide +kernel
theorem dX3_makePrimitive_39 : decode cX3_makePrimitive 39 = .ok (.iload_n 1, 1) := by decide +kernel
theorem dX3_makePrimitive_40 : decode cX3_makePrimitive 40 = .ok (.ifCond .lt 9, 3) := by decide +kernel
theorem dX3_makePrimitive_43 : decode cX3_makePrimitive 43 = .ok (.lload_n 2, 1) := by decide +kernel
theorem dX3_makePrimitive_44 : decode cX3_makePrimitive 44 = .ok (.lconst 0, 1) := by decide +kernel
theorem dX3_makePrimitive_45 : decode cX3_makePrimitive 45 = .ok (.lcmp, 1) := by decide +kernel
theorem dX3_makePrimitive_46 : decode cX3_makePrimitive 46 = .ok (.ifCond .ne 4, 3) := by decide +kernel
theorem dX3_makePrimitive_49 : decode cX3_makePrimitive 49 = .ok (.return_, 1) := by decide +kernel
theorem dX3_makePrimitive_50 : decode cX3_makePrimitive 50 = .ok (.aload_n 0, 1) := by decide +kernel
theorem dX3_makePrimitive_51 : decode cX3_makePrimitive 51 = .ok (.getfield 9, 3) := by decide +kernel
theorem dX3_makePrimitive_54 : decode cX3_makePrimitive 54 = .ok (.aload_n 0, 1) := by decide +kernel
theorem dX3_makePrimitive_55 : decode cX3_makePrimitive 55 = .ok (.getfield 15, 3) := by decide +kernel
theorem dX3_makePrimitive_58 : decode cX3_makePrimitive 58 = .ok (.iload_n 1, 1) := by decide +kernel
theorem dX3_makePrimitive_59 : decode cX3_makePrimitive 59 = .ok (.invokestatic 28, 3) := by decide +kernel
theorem dX3_makePrimitive_62 : decode cX3_makePrimitive 62 = .ok (.laload, 1) := by decide +kernel
theorem dX3_makePrimitive_63 : decode cX3_makePrimitive 63 = .ok (.lconst 0, 1) := by decide +kernel
theorem dX3_makePrimitive_64 : decode cX3_makePrimitive 64 = .ok (.lcmp, 1) := by decide +kernel
theorem dX3_makePrimitive_65 : decode cX3_makePrimitive 65 = .ok (.ifCond .ge 6, 3) := by decide +kernel
theorem dX3_makePrimitive_68 : decode cX3_makePrimitive 68 = .ok (.lload_n 2, 1) := by decide +kernel
theorem dX3_makePrimitive_69 : decode cX3_makePrimitive 69 = .ok (.lneg, 1) := by decide +kernel
theorem dX3_makePrimitive_70 : decode cX3_makePrimitive 70 = .ok (.lstore_n 2, 1) := by decide +kernel
theorem dX3_makePrimitive_71 : decode cX3_makePrimitive 71 = .ok (.iconst 0, 1) := by decide +kernel
theorem dX3_makePrimitive_72 : decode cX3_makePrimitive 72 = .ok (.istore 4, 2) := by decide +kernel
theorem dX3_makePrimitive_74 : decode cX3_makePrimitive 74 = .ok (.iload 4, 2) := by decide +kernel
theorem dX3_makePrimitive_76 : decode cX3_makePrimitive 76 = .ok (.bipush 28, 2) := by decide +kernel
theorem dX3_makePrimitive_78 : decode cX3_makePrimitive 78 = .ok (.if_icmp .ge 20, 3) := by decide +kernel
theorem dX3_makePrimitive_81 : decode cX3_makePrimitive 81 = .ok (.aload_n 0, 1) := by decide +kernel
theorem dX3_makePrimitive_82 : decode cX3_makePrimitive 82 = .ok (.getfield 9, 3) := by decide +kernel
theorem dX3_makePrimitive_85 : decode cX3_makePrimitive 85 = .ok (.iload 4, 2) := by decide +kernel
theorem dX3_makePrimitive_87 : decode cX3_makePrimitive 87 = .ok (.dup2, 1) := by decide +kernel
theorem dX3_makePrimitive_88 : decode cX3_makePrimitive 88 = .ok (.laload, 1) := by decide +kernel
theorem dX3_makePrimitive_89 : decode cX3_makePrimitive 89 = .ok (.lload_n 2, 1) := by decide +kernel
theorem dX3_makePrimitive_90 : decode cX3_makePrimitive 90 = .ok (.ldiv, 1) := by decide +kernel
theorem dX3_makePrimitive_91 : decode cX3_makePrimitive 91 = .ok (.lastore, 1) := by decide +kernel
theorem dX3_makePrimitive_92 : decode cX3_makePrimitive 92 = .ok (.iinc 4 1, 3) := by decide +kernel
theorem dX3_makePrimitive_95 : decode cX3_makePrimitive 95 = .ok (.goto (-21), 3) := by decide +kernel
theorem dX3_makePrimitive_98 : decode cX3_makePrimitive 98 = .ok (.return_, 1) := by decide +kernel
set_option maxHeartbeats 4000000 in
set_option maxRecDepth 100000 in
theorem ct_X3_makePrimitive (l : Launch) (D : va_G) (ce : Nat → ClassId) (h pl ar : Nat → Nat) (G : Nat → Int) (L : Nat → Nat → Int64) (B : Nat → Int) (J : Nat → Nat → Int64) (k : Nat) (hk : k < 42) (hB : BOK B) : Ct l yX3_makePrimitive cX3_makePrimitive 5 none { frames := 3, cells := 0, slots := 0, locals := 62 } 0 0 D (TY ce) [.ref (pl k)] (cW ce h pl ar G L B J) (QV D (TY ce) (fun w1 => ∃ B2 : Nat → Int, ∃ J2 : Nat → Nat → Int64, w1 = cW ce h pl ar G L B2 J2 ∧ (∀ j, j ≠ k → B2 j = B j) ∧ (∀ j, j ≠ k → J2 j = J j) ∧ (BOK B2) ∧ (B2 k ≤ B k))) := by
  refine Ct.ofV (by decide) (Nat.le_of_ble_eq_true rfl) ?_
  intro p e s m args below meth c A Q hX hnm hR
  refine Z.pick (lv' := [(0, .ref (pl k))]) [0] rfl ?_
  refine Z.aload_n hX dX3_makePrimitive_0 rfl rfl ?_
  refine Z.callVfv (As := []) (rest := []) hX 3 (24 + k) rfl (cW_pl (by omega)) (ct_X3_tighten l D ce h pl ar G L B J k hk hB) mc_X3_tighten ml_X3_42 im_X3_tighten se_X3_tighten ini_X3 nd_X3_tighten ⟨Nat.le_of_ble_eq_true rfl, Nat.le_of_ble_eq_true rfl⟩ ⟨rfl, rfl⟩ ⟨Nat.le_refl _, Nat.le_refl _⟩ rfl (Nat.le_of_ble_eq_true rfl) dX3_makePrimitive_1 ?_
  rintro w1 ⟨Bt, hw_, ht1, ht2, ht3⟩
  subst hw_
  refine Z.aload_n hX dX3_makePrimitive_4 rfl rfl ?_
  refine Z.callVfi (As := []) (rest := []) hX 3 (24 + k) rfl (cW_pl (by omega)) (ct_X3_firstOfBound l D ce h pl ar G L Bt J k hk ht2) mc_X3_firstOfBound ml_X3_38 im_X3_firstOfBound se_X3_firstOfBound ini_X3 nd_X3_firstOfBound ⟨Nat.le_of_ble_eq_true rfl, Nat.le_of_ble_eq_true rfl⟩ ⟨rfl, rfl⟩ ⟨Nat.le_refl _, Nat.le_refl _⟩ rfl (Nat.le_of_ble_eq_true rfl) dX3_makePrimitive_5 ?_
  rintro r_2 w1 ⟨fb, hr_, hw_, hfb⟩
  subst hr_
  subst hw_
  have hbk := ht2 k hk
  refine Z.istore_n (lv' := [(1, .int (zI fb)), (0, .ref (pl k))]) hX dX3_makePrimitive_8 rfl (by decide) rfl ?_
  refine Z.lconst (v := 0) hX dX3_makePrimitive_9 rfl ?_
  refine Z.lstore_n (lv' := [(2, .long 0), (1, .int (zI fb)), (0, .ref (pl k))]) hX dX3_makePrimitive_10 rfl (by decide) rfl ?_
  refine Z.iconst hX dX3_makePrimitive_11 ?_
  refine Z.istore (lv' := [(4, .int (zI 0)), (2, .long 0), (1, .int (zI fb)), (0, .ref (pl k))]) hX dX3_makePrimitive_12 (by decide) rfl ?_
  have key_14 : ∀ (N : Nat), ∀ (i : Int) (x : Int64), (28 - i).toNat < N → (hi : 0 ≤ i ∧ i ≤ 28) → Z p l e { frames := 3, cells := 0, slots := 0, locals := 62 } s m args below meth c D A 5 0 0 Q 14 [(4, .int (zI i)), (2, .long x), (1, .int (zI fb)), (0, .ref (pl k))] [] (cW ce h pl ar G L Bt J) := by
    intro N
    induction N with
    | zero => intro i x hm; exact absurd hm (Nat.not_lt_zero _)
    | succ N ih_14 =>
      intro i x hm hi
      refine Z.iload hX dX3_makePrimitive_14 rfl ?_
      refine Z.bipush hX dX3_makePrimitive_16 (by decide) ?_
      refine Z.icmp_ge hX 39 dX3_makePrimitive_18 (by decide) ⟨by omega, by omega⟩ ⟨by omega, by omega⟩ ?_ ?_
      · intro c3
        refine Z.iload_n hX dX3_makePrimitive_39 rfl rfl ?_
        refine Z.if_lt hX 49 dX3_makePrimitive_40 (by decide) ⟨by omega, by omega⟩ ?_ ?_
        · intro c4
          exact hR _ _ _ dX3_makePrimitive_49 ⟨Bt, J, rfl, ht1, (fun _ _ => rfl), ht2, ht3⟩
        · intro c4
          refine Z.lload_n hX dX3_makePrimitive_43 rfl rfl ?_
          refine Z.lconst (v := 0) hX dX3_makePrimitive_44 rfl ?_
          refine Z.lcmp_ne hX 50 dX3_makePrimitive_45 dX3_makePrimitive_46 (by decide) ?_ ?_
          · intro c5
            have key_71 : ∀ (y : Int64), (hy0 : ¬ y = 0) → Z p l e { frames := 3, cells := 0, slots := 0, locals := 62 } s m args below meth c D A 5 0 0 Q 71 [(2, .long y), (0, .ref (pl k))] [] (cW ce h pl ar G L Bt J) := by
              intro y hy0
              refine Z.iconst hX dX3_makePrimitive_71 ?_
              refine Z.istore (lv' := [(4, .int (zI 0)), (2, .long y), (0, .ref (pl k))]) hX dX3_makePrimitive_72 (by decide) rfl ?_
              have key_74 : ∀ (N : Nat), ∀ (i : Int) (M : Nat → Nat → Int64), (28 - i).toNat < N → (hi2 : 0 ≤ i ∧ i ≤ 28) → (hM : ∀ j, j ≠ k → M j = J j) → Z p l e { frames := 3, cells := 0, slots := 0, locals := 62 } s m args below meth c D A 5 0 0 Q 74 [(4, .int (zI i)), (2, .long y), (0, .ref (pl k))] [] (cW ce h pl ar G L Bt M) := by
                intro N
                induction N with
                | zero => intro i M hm; exact absurd hm (Nat.not_lt_zero _)
                | succ N ih_74 =>
                  intro i M hm hi2 hM
                  refine Z.iload hX dX3_makePrimitive_74 rfl ?_
                  refine Z.bipush hX dX3_makePrimitive_76 (by decide) ?_
                  refine Z.icmp_ge hX 98 dX3_makePrimitive_78 (by decide) ⟨by omega, by omega⟩ ⟨by omega, by omega⟩ ?_ ?_
                  · intro c6
                    exact hR _ _ _ dX3_makePrimitive_98 ⟨Bt, M, rfl, ht1, hM, ht2, ht3⟩
                  · intro c6
                    refine Z.aload_n hX dX3_makePrimitive_81 rfl rfl ?_
                    refine Z.getf hX 3 (24 + k) 0 dX3_makePrimitive_82 (cW_pl (by omega)) rfl inX3 (by decide) fl_X3_9 rfl rfl ?_
                    refine Z.iload hX dX3_makePrimitive_85 rfl ?_
                    refine Z.dup2 hX dX3_makePrimitive_87 rfl rfl ?_
                    refine Z.laload hX (66 + k) 1 dX3_makePrimitive_88 (cW_ar (by omega)) rfl (by omega) (by omega) (by decide) ?_
                    refine Z.lload_n hX dX3_makePrimitive_89 rfl rfl ?_
                    refine Z.ldiv hX dX3_makePrimitive_90 hy0 ?_
                    refine Z.lastore hX (66 + k) 1 dX3_makePrimitive_91 (cW_ar (by omega)) rfl (by omega) (by omega) (by decide) ?_
                    obtain ⟨J7, eJ7⟩ : ∃ J' : Nat → Nat → Int64, J' = va_up M k (vp_updL (M k) (i : Int).toNat ((M k (i : Int).toNat) / y)) := ⟨_, rfl⟩
                    refine Z.toW (w' := cW ce h pl ar G L Bt J7) (by rw [eJ7]; exact cW_setJ (by omega)) ?_
                    have gJ7 : J7 k = vp_updL (M k) (i : Int).toNat ((M k (i : Int).toNat) / y) := by rw [eJ7]; exact up_eq
                    have fJ7 : ∀ j_, j_ ≠ k → J7 j_ = M j_ := fun j_ hj_ => by rw [eJ7]; exact up_ne hj_
                    refine Z.iinc (lv' := [(4, .int (zI (i + 1))), (2, .long y), (0, .ref (pl k))]) hX dX3_makePrimitive_92 rfl (by decide) rfl ?_
                    refine Z.goto hX 74 dX3_makePrimitive_95 (by decide) ?_
                    refine Z.pick [0, 1, 2] rfl ?_
                    exact ih_74 _ _ (by omega) (by omega) (fun j_ h_k => ((fJ7 j_ h_k).trans (hM j_ h_k)))
              refine Z.pick [0, 1, 2] rfl ?_
              exact key_74 _ _ _ (Nat.lt_succ_self _) (by omega) (fun _ _ => rfl)
            refine Z.aload_n hX dX3_makePrimitive_50 rfl rfl ?_
            refine Z.getf hX 3 (24 + k) 0 dX3_makePrimitive_51 (cW_pl (by omega)) rfl inX3 (by decide) fl_X3_9 rfl rfl ?_
            refine Z.aload_n hX dX3_makePrimitive_54 rfl rfl ?_
            refine Z.getf hX 3 (24 + k) 1 dX3_makePrimitive_55 (cW_pl (by omega)) rfl inX3 (by decide) fl_X3_15 rfl rfl ?_
            refine Z.iload_n hX dX3_makePrimitive_58 rfl rfl ?_
            refine Z.callSNi (As := [.int (zI (Bt k)), .int (zI fb)]) (rest := [.ref (ar k)]) hX (ct_X6_slotOf l D ce (Bt k) fb (by omega) (by omega)) mc_X6_slotOf ns_X3_28 st_X6_slotOf ini_X6 nd_X6_slotOf ⟨Nat.le_of_ble_eq_true rfl, Nat.le_of_ble_eq_true rfl⟩ ⟨rfl, rfl⟩ ⟨Nat.le_refl _, Nat.le_refl _⟩ rfl (Nat.le_of_ble_eq_true rfl) dX3_makePrimitive_59 ?_
            rintro r_8 w1 ⟨z9, hr_, hw_, hq10, hq11⟩
            subst hr_
            refine ⟨hw_, ?_⟩
            refine Z.laload hX (66 + k) 1 dX3_makePrimitive_62 (cW_ar (by omega)) rfl (by omega) (by omega) (by decide) ?_
            refine Z.lconst (v := 0) hX dX3_makePrimitive_63 rfl ?_
            refine Z.lcmp_ge hX 71 dX3_makePrimitive_64 dX3_makePrimitive_65 (by decide) ?_ ?_
            · intro c12
              refine Z.pick [1, 3] rfl ?_
              exact key_71 _ (by omega)
            · intro c12
              refine Z.lload_n hX dX3_makePrimitive_68 rfl rfl ?_
              refine Z.lneg hX dX3_makePrimitive_69 ?_
              refine Z.lstore_n (lv' := [(2, .long (-x)), (4, .int (zI i)), (1, .int (zI fb)), (0, .ref (pl k))]) hX dX3_makePrimitive_70 rfl (by decide) rfl ?_
              refine Z.pick [0, 3] rfl ?_
              exact key_71 _ (tl_n (by assumption))
          · intro c5
            exact hR _ _ _ dX3_makePrimitive_49 ⟨Bt, J, rfl, ht1, (fun _ _ => rfl), ht2, ht3⟩
      · intro c3
        refine Z.lload_n hX dX3_makePrimitive_21 rfl rfl ?_
        refine Z.aload_n hX dX3_makePrimitive_22 rfl rfl ?_
        refine Z.getf hX 3 (24 + k) 0 dX3_makePrimitive_23 (cW_pl (by omega)) rfl inX3 (by decide) fl_X3_9 rfl rfl ?_
        refine Z.iload hX dX3_makePrimitive_26 rfl ?_
        refine Z.laload hX (66 + k) 1 dX3_makePrimitive_28 (cW_ar (by omega)) rfl (by omega) (by omega) (by decide) ?_
        refine Z.callSNl (As := [.long x, .long (J k (i : Int).toNat)]) (rest := []) hX (ct_X6_commonOf l D ce x (J k (i : Int).toNat) ) mc_X6_commonOf ns_X3_45 st_X6_commonOf ini_X6 nd_X6_commonOf ⟨Nat.le_of_ble_eq_true rfl, Nat.le_of_ble_eq_true rfl⟩ ⟨rfl, rfl⟩ ⟨Nat.le_refl _, Nat.le_refl _⟩ rfl (Nat.le_of_ble_eq_true rfl) dX3_makePrimitive_29 ?_
        rintro r_13 w1 ⟨r014, hr_, hw_, hq15⟩
        subst hr_
        refine ⟨hw_, ?_⟩
        refine Z.lstore_n (lv' := [(2, .long r_13), (4, .int (zI i)), (1, .int (zI fb)), (0, .ref (pl k))]) hX dX3_makePrimitive_32 rfl (by decide) rfl ?_
        refine Z.iinc (lv' := [(4, .int (zI (i + 1))), (2, .long r_13), (1, .int (zI fb)), (0, .ref (pl k))]) hX dX3_makePrimitive_33 rfl (by decide) rfl ?_
        refine Z.goto hX 14 dX3_makePrimitive_36 (by decide) ?_
        refine Z.pick [0, 1, 2, 3] rfl ?_
        exact ih_14 _ _ (by omega) (by omega)
  refine Z.pick [0, 1, 2, 3] rfl ?_
  exact key_14 _ _ _ (Nat.lt_succ_self _) (by omega)

theorem dX3_isSame_0 : decode cX3_isSame 0 = .ok (.iconst 0, 1) := by decide +kernel
theorem dX3_isSame_1 : decode cX3_isSame 1 = .ok (.istore_n 2, 1) := by decide +kernel
theorem dX3_isSame_2 : decode cX3_isSame 2 = .ok (.iload_n 2, 1) := by decide +kernel
theorem dX3_isSame_3 : decode cX3_isSame 3 = .ok (.bipush 28, 2) := by decide +kernel
theorem dX3_isSame_5 : decode cX3_isSame 5 = .ok (.if_icmp .ge 27, 3) := by decide +kernel
theorem dX3_isSame_8 : decode cX3_isSame 8 = .ok (.aload_n 0, 1) := by decide +kernel
theorem dX3_isSame_9 : decode cX3_isSame 9 = .ok (.getfield 9, 3) := by decide +kernel
theorem dX3_isSame_12 : decode cX3_isSame 12 = .ok (.iload_n 2, 1) := by decide +kernel
theorem dX3_isSame_13 : decode cX3_isSame 13 = .ok (.laload, 1) := by decide +kernel
theorem dX3_isSame_14 : decode cX3_isSame 14 = .ok (.aload_n 1, 1) := by decide +kernel
theorem dX3_isSame_15 : decode cX3_isSame 15 = .ok (.getfield 9, 3) := by decide +kernel
theorem dX3_isSame_18 : decode cX3_isSame 18 = .ok (.iload_n 2, 1) := by decide +kernel
theorem dX3_isSame_19 : decode cX3_isSame 19 = .ok (.laload, 1) := by decide +kernel
theorem dX3_isSame_20 : decode cX3_isSame 20 = .ok (.lcmp, 1) := by decide +kernel
theorem dX3_isSame_21 : decode cX3_isSame 21 = .ok (.ifCond .eq 5, 3) := by decide +kernel
theorem dX3_isSame_24 : decode cX3_isSame 24 = .ok (.iconst 0, 1) := by decide +kernel
theorem dX3_isSame_25 : decode cX3_isSame 25 = .ok (.ireturn, 1) := by decide +kernel
theorem dX3_isSame_26 : decode cX3_isSame 26 = .ok (.iinc 2 1, 3) := by decide +kernel
theorem dX3_isSame_29 : decode cX3_isSame 29 = .ok (.goto (-27), 3) := by decide +kernel
theorem dX3_isSame_32 : decode cX3_isSame 32 = .ok (.iconst 1, 1) := by decide +kernel
theorem dX3_isSame_33 : decode cX3_isSame 33 = .ok (.ireturn, 1) := by decide +kernel
set_option maxHeartbeats 4000000 in
set_option maxRecDepth 100000 in
theorem ct_X3_isSame (l : Launch) (D : va_G) (ce : Nat → ClassId) (h pl ar : Nat → Nat) (G : Nat → Int) (L : Nat → Nat → Int64) (B : Nat → Int) (J : Nat → Nat → Int64) (k : Nat) (kt : Nat) (hk : k < 42) (hB : BOK B) (hkt : kt < 42) : Ct l yX3_isSame cX3_isSame 3 (some .boolean) { frames := 0, cells := 0, slots := 0, locals := 0 } 0 0 D (TY ce) [.ref (pl k), .ref (pl kt)] (cW ce h pl ar G L B J) (QI D (TY ce) (fun r w1 => ∃ z : Int, r = zI z ∧ w1 = cW ce h pl ar G L B J ∧ (z = 0 ∨ z = 1))) := by
  refine Ct.ofB (by decide) (Nat.le_of_ble_eq_true rfl) ?_
  intro p e s m args below meth c A Q hX hnm hR
  refine Z.pick (lv' := [(0, .ref (pl k)), (1, .ref (pl kt))]) [0, 1] rfl ?_
  refine Z.iconst hX dX3_isSame_0 ?_
  refine Z.istore_n (lv' := [(2, .int (zI 0)), (0, .ref (pl k)), (1, .ref (pl kt))]) hX dX3_isSame_1 rfl (by decide) rfl ?_
  have key_2 : ∀ (N : Nat), ∀ (i : Int), (28 - i).toNat < N → (hi : 0 ≤ i ∧ i ≤ 28) → Z p l e { frames := 0, cells := 0, slots := 0, locals := 0 } s m args below meth c D A 3 0 0 Q 2 [(2, .int (zI i)), (1, .ref (pl kt)), (0, .ref (pl k))] [] (cW ce h pl ar G L B J) := by
    intro N
    induction N with
    | zero => intro i hm; exact absurd hm (Nat.not_lt_zero _)
    | succ N ih_2 =>
      intro i hm hi
      refine Z.iload_n hX dX3_isSame_2 rfl rfl ?_
      refine Z.bipush hX dX3_isSame_3 (by decide) ?_
      refine Z.icmp_ge hX 32 dX3_isSame_5 (by decide) ⟨by omega, by omega⟩ ⟨by omega, by omega⟩ ?_ ?_
      · intro c1
        refine Z.iconst hX dX3_isSame_32 ?_
        exact hR _ _ _ _ dX3_isSame_33 rfl ⟨1, rfl, rfl, (by omega)⟩
      · intro c1
        refine Z.aload_n hX dX3_isSame_8 rfl rfl ?_
        refine Z.getf hX 3 (24 + k) 0 dX3_isSame_9 (cW_pl (by omega)) rfl inX3 (by decide) fl_X3_9 rfl rfl ?_
        refine Z.iload_n hX dX3_isSame_12 rfl rfl ?_
        refine Z.laload hX (66 + k) 1 dX3_isSame_13 (cW_ar (by omega)) rfl (by omega) (by omega) (by decide) ?_
        refine Z.aload_n hX dX3_isSame_14 rfl rfl ?_
        refine Z.getf hX 3 (24 + kt) 0 dX3_isSame_15 (cW_pl (by omega)) rfl inX3 (by decide) fl_X3_9 rfl rfl ?_
        refine Z.iload_n hX dX3_isSame_18 rfl rfl ?_
        refine Z.laload hX (66 + kt) 1 dX3_isSame_19 (cW_ar (by omega)) rfl (by omega) (by omega) (by decide) ?_
        refine Z.lcmp_eq hX 26 dX3_isSame_20 dX3_isSame_21 (by decide) ?_ ?_
        · intro c2
          refine Z.iinc (lv' := [(2, .int (zI (i + 1))), (1, .ref (pl kt)), (0, .ref (pl k))]) hX dX3_isSame_26 rfl (by decide) rfl ?_
          refine Z.goto hX 2 dX3_isSame_29 (by decide) ?_
          refine Z.pick [0, 1, 2] rfl ?_
          exact ih_2 _ (by omega) (by omega)
        · intro c2
          refine Z.iconst hX dX3_isSame_24 ?_
          exact hR _ _ _ _ dX3_isSame_25 rfl ⟨0, rfl, rfl, (by omega)⟩
  refine Z.pick [0, 2, 1] rfl ?_
  exact key_2 _ _ (Nat.lt_succ_self _) (by omega)

theorem dX3_scaledValue_0 : decode cX3_scaledValue 0 = .ok (.lconst 0, 1) := by decide +kernel
theorem dX3_scaledValue_1 : decode cX3_scaledValue 1 = .ok (.lstore 7, 2) := by decide +kernel
theorem dX3_scaledValue_3 : decode cX3_scaledValue 3 = .ok (.iconst 0, 1) := by decide +kernel
theorem dX3_scaledValue_4 : decode cX3_scaledValue 4 = .ok (.istore 9, 2) := by decide +kernel
theorem dX3_scaledValue_6 : decode cX3_scaledValue 6 = .ok (.iload 9, 2) := by decide +kernel
theorem dX3_scaledValue_8 : decode cX3_scaledValue 8 = .ok (.aload_n 0, 1) := by decide +kernel
theorem dX3_scaledValue_9 : decode cX3_scaledValue 9 = .ok (.getfield 15, 3) := by decide +kernel
theorem dX3_scaledValue_12 : decode cX3_scaledValue 12 = .ok (.if_icmp .gt 87, 3) := by decide +kernel
theorem dX3_scaledValue_15 : decode cX3_scaledValue 15 = .ok (.lload 5, 2) := by decide +kernel
theorem dX3_scaledValue_17 : decode cX3_scaledValue 17 = .ok (.aload_n 0, 1) := by decide +kernel
theorem dX3_scaledValue_18 : decode cX3_scaledValue 18 = .ok (.getfield 15, 3) := by decide +kernel
theorem dX3_scaledValue_21 : decode cX3_scaledValue 21 = .ok (.iload 9, 2) := by decide +kernel
theorem dX3_scaledValue_23 : decode cX3_scaledValue 23 = .ok (.isub, 1) := by decide +kernel
theorem dX3_scaledValue_24 : decode cX3_scaledValue 24 = .ok (.invokestatic 55, 3) := by decide +kernel
theorem dX3_scaledValue_27 : decode cX3_scaledValue 27 = .ok (.lstore 10, 2) := by decide +kernel
theorem dX3_scaledValue_29 : decode cX3_scaledValue 29 = .ok (.iconst 0, 1) := by decide +kernel
theorem dX3_scaledValue_30 : decode cX3_scaledValue 30 = .ok (.istore 12, 2) := by decide +kernel
theorem dX3_scaledValue_32 : decode cX3_scaledValue 32 = .ok (.iload 12, 2) := by decide +kernel
theorem dX3_scaledValue_34 : decode cX3_scaledValue 34 = .ok (.iload 9, 2) := by decide +kernel
theorem dX3_scaledValue_36 : decode cX3_scaledValue 36 = .ok (.if_icmp .gt 57, 3) := by decide +kernel
theorem dX3_scaledValue_39 : decode cX3_scaledValue 39 = .ok (.aload_n 0, 1) := by decide +kernel
theorem dX3_scaledValue_40 : decode cX3_scaledValue 40 = .ok (.getfield 9, 3) := by decide +kernel
theorem dX3_scaledValue_43 : decode cX3_scaledValue 43 = .ok (.iload 9, 2) := by decide +kernel
theorem dX3_scaledValue_45 : decode cX3_scaledValue 45 = .ok (.iload 12, 2) := by decide +kernel
theorem dX3_scaledValue_47 : decode cX3_scaledValue 47 = .ok (.invokestatic 28, 3) := by decide +kernel
theorem dX3_scaledValue_50 : decode cX3_scaledValue 50 = .ok (.laload, 1) := by decide +kernel
theorem dX3_scaledValue_51 : decode cX3_scaledValue 51 = .ok (.lstore 13, 2) := by decide +kernel
theorem dX3_scaledValue_53 : decode cX3_scaledValue 53 = .ok (.lload 13, 2) := by decide +kernel
theorem dX3_scaledValue_55 : decode cX3_scaledValue 55 = .ok (.lconst 0, 1) := by decide +kernel
theorem dX3_scaledValue_56 : decode cX3_scaledValue 56 = .ok (.lcmp, 1) := by decide +kernel
theorem dX3_scaledValue_57 : decode cX3_scaledValue 57 = .ok (.ifCond .eq 30, 3) := by decide +kernel
theorem dX3_scaledValue_60 : decode cX3_scaledValue 60 = .ok (.lload 7, 2) := by decide +kernel
theorem dX3_scaledValue_62 : decode cX3_scaledValue 62 = .ok (.lload 13, 2) := by decide +kernel
theorem dX3_scaledValue_64 : decode cX3_scaledValue 64 = .ok (.lload_n 1, 1) := by decide +kernel
theorem dX3_scaledValue_65 : decode cX3_scaledValue 65 = .ok (.iload 9, 2) := by decide +kernel
theorem dX3_scaledValue_67 : decode cX3_scaledValue 67 = .ok (.iload 12, 2) := by decide +kernel
theorem dX3_scaledValue_69 : decode cX3_scaledValue 69 = .ok (.isub, 1) := by decide +kernel
theorem dX3_scaledValue_70 : decode cX3_scaledValue 70 = .ok (.invokestatic 55, 3) := by decide +kernel
theorem dX3_scaledValue_73 : decode cX3_scaledValue 73 = .ok (.lmul, 1) := by decide +kernel
theorem dX3_scaledValue_74 : decode cX3_scaledValue 74 = .ok (.lload_n 3, 1) := by decide +kernel
theorem dX3_scaledValue_75 : decode cX3_scaledValue 75 = .ok (.iload 12, 2) := by decide +kernel
theorem dX3_scaledValue_77 : decode cX3_scaledValue 77 = .ok (.invokestatic 55, 3) := by decide +kernel
theorem dX3_scaledValue_80 : decode cX3_scaledValue 80 = .ok (.lmul, 1) := by decide +kernel
theorem dX3_scaledValue_81 : decode cX3_scaledValue 81 = .ok (.lload 10, 2) := by decide +kernel
theorem dX3_scaledValue_83 : decode cX3_scaledValue 83 = .ok (.lmul, 1) := by decide +kernel
theorem dX3_scaledValue_84 : decode cX3_scaledValue 84 = .ok (.ladd, 1) := by decide +kernel
theorem dX3_scaledValue_85 : decode cX3_scaledValue 85 = .ok (.lstore 7, 2) := by decide +kernel
theorem dX3_scaledValue_87 : decode cX3_scaledValue 87 = .ok (.iinc 12 1, 3) := by decide +kernel
theorem dX3_scaledValue_90 : decode cX3_scaledValue 90 = .ok (.goto (-58), 3) := by decide +kernel
theorem dX3_scaledValue_93 : decode cX3_scaledValue 93 = .ok (.iinc 9 1, 3) := by decide +kernel
theorem dX3_scaledValue_96 : decode cX3_scaledValue 96 = .ok (.goto (-90), 3) := by decide +kernel
theorem dX3_scaledValue_99 : decode cX3_scaledValue 99 = .ok (.lload 7, 2) := by decide +kernel
theorem dX3_scaledValue_101 : decode cX3_scaledValue 101 = .ok (.lreturn, 1) := by decide +kernel
set_option maxHeartbeats 4000000 in
set_option maxRecDepth 100000 in
theorem ct_X3_scaledValue (l : Launch) (D : va_G) (ce : Nat → ClassId) (h pl ar : Nat → Nat) (G : Nat → Int) (L : Nat → Nat → Int64) (B : Nat → Int) (J : Nat → Nat → Int64) (k : Nat) (x1 x2 x3 : Int64) (hk : k < 42) (hB : BOK B) : Ct l yX3_scaledValue cX3_scaledValue 15 (some .long) { frames := 1, cells := 0, slots := 0, locals := 25 } 0 0 D (TY ce) [.ref (pl k), .long x1, .long x2, .long x3] (cW ce h pl ar G L B J) (QL D (TY ce) (fun r w1 => ∃ r0 : Int64, r = r0 ∧ w1 = cW ce h pl ar G L B J)) := by
  refine Ct.ofL (by decide) (Nat.le_of_ble_eq_true rfl) ?_
  intro p e s m args below meth c A Q hX hnm hR
  refine Z.pick (lv' := [(0, .ref (pl k)), (1, .long x1), (3, .long x2), (5, .long x3)]) [0, 1, 2, 3] rfl ?_
  have hbk := hB k hk
  refine Z.lconst (v := 0) hX dX3_scaledValue_0 rfl ?_
  refine Z.lstore (lv' := [(7, .long 0), (0, .ref (pl k)), (1, .long x1), (3, .long x2), (5, .long x3)]) hX dX3_scaledValue_1 (by decide) rfl ?_
  refine Z.iconst hX dX3_scaledValue_3 ?_
  refine Z.istore (lv' := [(9, .int (zI 0)), (7, .long 0), (0, .ref (pl k)), (1, .long x1), (3, .long x2), (5, .long x3)]) hX dX3_scaledValue_4 (by decide) rfl ?_
  have key_6 : ∀ (N : Nat), ∀ (d : Int) (x : Int64), (B k + 1 - d).toNat < N → (hd : 0 ≤ d ∧ d ≤ B k + 1) → Z p l e { frames := 1, cells := 0, slots := 0, locals := 25 } s m args below meth c D A 15 0 0 Q 6 [(9, .int (zI d)), (7, .long x), (1, .long x1), (3, .long x2), (5, .long x3), (0, .ref (pl k))] [] (cW ce h pl ar G L B J) := by
    intro N
    induction N with
    | zero => intro d x hm; exact absurd hm (Nat.not_lt_zero _)
    | succ N ih_6 =>
      intro d x hm hd
      refine Z.iload hX dX3_scaledValue_6 rfl ?_
      refine Z.aload_n hX dX3_scaledValue_8 rfl rfl ?_
      refine Z.getf hX 3 (24 + k) 1 dX3_scaledValue_9 (cW_pl (by omega)) rfl inX3 (by decide) fl_X3_15 rfl rfl ?_
      refine Z.icmp_gt hX 99 dX3_scaledValue_12 (by decide) ⟨by omega, by omega⟩ ⟨by omega, by omega⟩ ?_ ?_
      · intro c1
        refine Z.lload hX dX3_scaledValue_99 rfl ?_
        exact hR _ _ _ _ dX3_scaledValue_101 ⟨x, rfl, rfl⟩
      · intro c1
        refine Z.lload hX dX3_scaledValue_15 rfl ?_
        refine Z.aload_n hX dX3_scaledValue_17 rfl rfl ?_
        refine Z.getf hX 3 (24 + k) 1 dX3_scaledValue_18 (cW_pl (by omega)) rfl inX3 (by decide) fl_X3_15 rfl rfl ?_
        refine Z.iload hX dX3_scaledValue_21 rfl ?_
        refine Z.isub hX dX3_scaledValue_23 ?_
        refine Z.callSNl (As := [.long x3, .int (zI ((B k) - d))]) (rest := []) hX (ct_X6_powerOf l D ce x3 ((B k) - d) (by omega)) mc_X6_powerOf ns_X3_55 st_X6_powerOf ini_X6 nd_X6_powerOf ⟨Nat.le_of_ble_eq_true rfl, Nat.le_of_ble_eq_true rfl⟩ ⟨rfl, rfl⟩ ⟨Nat.le_refl _, Nat.le_refl _⟩ rfl (Nat.le_of_ble_eq_true rfl) dX3_scaledValue_24 ?_
        rintro sc w1 ⟨r03, hr_, hw_, hq4⟩
        subst hr_
        refine ⟨hw_, ?_⟩
        refine Z.lstore (lv' := [(10, .long sc), (9, .int (zI d)), (7, .long x), (1, .long x1), (3, .long x2), (5, .long x3), (0, .ref (pl k))]) hX dX3_scaledValue_27 (by decide) rfl ?_
        refine Z.iconst hX dX3_scaledValue_29 ?_
        refine Z.istore (lv' := [(12, .int (zI 0)), (10, .long sc), (9, .int (zI d)), (7, .long x), (1, .long x1), (3, .long x2), (5, .long x3), (0, .ref (pl k))]) hX dX3_scaledValue_30 (by decide) rfl ?_
        have key_32 : ∀ (N : Nat), ∀ (j : Int) (x : Int64), (d + 1 - j).toNat < N → (hj : 0 ≤ j ∧ j ≤ d + 1) → Z p l e { frames := 1, cells := 0, slots := 0, locals := 25 } s m args below meth c D A 15 0 0 Q 32 [(12, .int (zI j)), (10, .long sc), (9, .int (zI d)), (7, .long x), (1, .long x1), (3, .long x2), (5, .long x3), (0, .ref (pl k))] [] (cW ce h pl ar G L B J) := by
          intro N
          induction N with
          | zero => intro j x hm; exact absurd hm (Nat.not_lt_zero _)
          | succ N ih_32 =>
            intro j x hm hj
            refine Z.iload hX dX3_scaledValue_32 rfl ?_
            refine Z.iload hX dX3_scaledValue_34 rfl ?_
            refine Z.icmp_gt hX 93 dX3_scaledValue_36 (by decide) ⟨by omega, by omega⟩ ⟨by omega, by omega⟩ ?_ ?_
            · intro c5
              refine Z.iinc (lv' := [(9, .int (zI (d + 1))), (12, .int (zI j)), (10, .long sc), (7, .long x), (1, .long x1), (3, .long x2), (5, .long x3), (0, .ref (pl k))]) hX dX3_scaledValue_93 rfl (by decide) rfl ?_
              refine Z.goto hX 6 dX3_scaledValue_96 (by decide) ?_
              refine Z.pick [0, 3, 4, 5, 6, 7] rfl ?_
              exact ih_6 _ _ (by omega) (by omega)
            · intro c5
              refine Z.aload_n hX dX3_scaledValue_39 rfl rfl ?_
              refine Z.getf hX 3 (24 + k) 0 dX3_scaledValue_40 (cW_pl (by omega)) rfl inX3 (by decide) fl_X3_9 rfl rfl ?_
              refine Z.iload hX dX3_scaledValue_43 rfl ?_
              refine Z.iload hX dX3_scaledValue_45 rfl ?_
              refine Z.callSNi (As := [.int (zI d), .int (zI j)]) (rest := [.ref (ar k)]) hX (ct_X6_slotOf l D ce d j (by omega) (by omega)) mc_X6_slotOf ns_X3_28 st_X6_slotOf ini_X6 nd_X6_slotOf ⟨Nat.le_of_ble_eq_true rfl, Nat.le_of_ble_eq_true rfl⟩ ⟨rfl, rfl⟩ ⟨Nat.le_refl _, Nat.le_refl _⟩ rfl (Nat.le_of_ble_eq_true rfl) dX3_scaledValue_47 ?_
              rintro r_6 w1 ⟨z7, hr_, hw_, hq8, hq9⟩
              subst hr_
              refine ⟨hw_, ?_⟩
              refine Z.laload hX (66 + k) 1 dX3_scaledValue_50 (cW_ar (by omega)) rfl (by omega) (by omega) (by decide) ?_
              refine Z.lstore (lv' := [(13, .long (J k (z7 : Int).toNat)), (12, .int (zI j)), (10, .long sc), (9, .int (zI d)), (7, .long x), (1, .long x1), (3, .long x2), (5, .long x3), (0, .ref (pl k))]) hX dX3_scaledValue_51 (by decide) rfl ?_
              refine Z.lload hX dX3_scaledValue_53 rfl ?_
              refine Z.lconst (v := 0) hX dX3_scaledValue_55 rfl ?_
              refine Z.lcmp_eq hX 87 dX3_scaledValue_56 dX3_scaledValue_57 (by decide) ?_ ?_
              · intro c10
                refine Z.iinc (lv' := [(12, .int (zI (j + 1))), (13, .long (J k (z7 : Int).toNat)), (10, .long sc), (9, .int (zI d)), (7, .long x), (1, .long x1), (3, .long x2), (5, .long x3), (0, .ref (pl k))]) hX dX3_scaledValue_87 rfl (by decide) rfl ?_
                refine Z.goto hX 32 dX3_scaledValue_90 (by decide) ?_
                refine Z.pick [0, 2, 3, 4, 5, 6, 7, 8] rfl ?_
                exact ih_32 _ _ (by omega) (by omega)
              · intro c10
                refine Z.lload hX dX3_scaledValue_60 rfl ?_
                refine Z.lload hX dX3_scaledValue_62 rfl ?_
                refine Z.lload_n hX dX3_scaledValue_64 rfl rfl ?_
                refine Z.iload hX dX3_scaledValue_65 rfl ?_
                refine Z.iload hX dX3_scaledValue_67 rfl ?_
                refine Z.isub hX dX3_scaledValue_69 ?_
                refine Z.callSNl (As := [.long x1, .int (zI (d - j))]) (rest := [.long (J k (z7 : Int).toNat), .long x]) hX (ct_X6_powerOf l D ce x1 (d - j) (by omega)) mc_X6_powerOf ns_X3_55 st_X6_powerOf ini_X6 nd_X6_powerOf ⟨Nat.le_of_ble_eq_true rfl, Nat.le_of_ble_eq_true rfl⟩ ⟨rfl, rfl⟩ ⟨Nat.le_refl _, Nat.le_refl _⟩ rfl (Nat.le_of_ble_eq_true rfl) dX3_scaledValue_70 ?_
                rintro r_11 w1 ⟨r012, hr_, hw_, hq13⟩
                subst hr_
                refine ⟨hw_, ?_⟩
                refine Z.lmul hX dX3_scaledValue_73 ?_
                refine Z.lload_n hX dX3_scaledValue_74 rfl rfl ?_
                refine Z.iload hX dX3_scaledValue_75 rfl ?_
                refine Z.callSNl (As := [.long x2, .int (zI j)]) (rest := [.long ((J k (z7 : Int).toNat) * r_11), .long x]) hX (ct_X6_powerOf l D ce x2 j (by omega)) mc_X6_powerOf ns_X3_55 st_X6_powerOf ini_X6 nd_X6_powerOf ⟨Nat.le_of_ble_eq_true rfl, Nat.le_of_ble_eq_true rfl⟩ ⟨rfl, rfl⟩ ⟨Nat.le_refl _, Nat.le_refl _⟩ rfl (Nat.le_of_ble_eq_true rfl) dX3_scaledValue_77 ?_
                rintro r_14 w1 ⟨r015, hr_, hw_, hq16⟩
                subst hr_
                refine ⟨hw_, ?_⟩
                refine Z.lmul hX dX3_scaledValue_80 ?_
                refine Z.lload hX dX3_scaledValue_81 rfl ?_
                refine Z.lmul hX dX3_scaledValue_83 ?_
                refine Z.ladd hX dX3_scaledValue_84 ?_
                refine Z.lstore (lv' := [(7, .long (x + ((((J k (z7 : Int).toNat) * r_11) * r_14) * sc))), (13, .long (J k (z7 : Int).toNat)), (12, .int (zI j)), (10, .long sc), (9, .int (zI d)), (1, .long x1), (3, .long x2), (5, .long x3), (0, .ref (pl k))]) hX dX3_scaledValue_85 (by decide) rfl ?_
                refine Z.iinc (lv' := [(12, .int (zI (j + 1))), (7, .long (x + ((((J k (z7 : Int).toNat) * r_11) * r_14) * sc))), (13, .long (J k (z7 : Int).toNat)), (10, .long sc), (9, .int (zI d)), (1, .long x1), (3, .long x2), (5, .long x3), (0, .ref (pl k))]) hX dX3_scaledValue_87 rfl (by decide) rfl ?_
                refine Z.goto hX 32 dX3_scaledValue_90 (by decide) ?_
                refine Z.pick [0, 3, 4, 1, 5, 6, 7, 8] rfl ?_
                exact ih_32 _ _ (by omega) (by omega)
        refine Z.pick [0, 1, 2, 3, 4, 5, 6, 7] rfl ?_
        exact key_32 _ _ _ (Nat.lt_succ_self _) (by omega)
  refine Z.pick [0, 1, 3, 4, 5, 2] rfl ?_
  exact key_6 _ _ _ (Nat.lt_succ_self _) (by omega)

theorem dX3_addProduct_0 : decode cX3_addProduct 0 = .ok (.aload_n 1, 1) := by decide +kernel
theorem dX3_addProduct_1 : decode cX3_addProduct 1 = .ok (.getfield 15, 3) := by decide +kernel
theorem dX3_addProduct_4 : decode cX3_addProduct 4 = .ok (.aload_n 2, 1) := by decide +kernel
theorem dX3_addProduct_5 : decode cX3_addProduct 5 = .ok (.getfield 15, 3) := by decide +kernel
theorem dX3_addProduct_8 : decode cX3_addProduct 8 = .ok (.iadd, 1) := by decide +kernel
theorem dX3_addProduct_9 : decode cX3_addProduct 9 = .ok (.istore 5, 2) := by decide +kernel
theorem dX3_addProduct_11 : decode cX3_addProduct 11 = .ok (.iload 5, 2) := by decide +kernel
theorem dX3_addProduct_13 : decode cX3_addProduct 13 = .ok (.bipush 6, 2) := by decide +kernel
theorem dX3_addProduct_15 : decode cX3_addProduct 15 = .ok (.if_icmp .le 4, 3) := by decide +kernel
theorem dX3_addProduct_18 : decode cX3_addProduct 18 = .ok (.return_, 1) := by decide +kernel
theorem dX3_addProduct_19 : decode cX3_addProduct 19 = .ok (.aload_n 0, 1) := by decide +kernel
theorem dX3_addProduct_20 : decode cX3_addProduct 20 = .ok (.aload_n 0, 1) := by decide +kernel
theorem dX3_addProduct_21 : decode cX3_addProduct 21 = .ok (.getfield 15, 3) := by decide +kernel
theorem dX3_addProduct_24 : decode cX3_addProduct 24 = .ok (.iload 5, 2) := by decide +kernel
theorem dX3_addProduct_26 : decode cX3_addProduct 26 = .ok (.if_icmp .ge 8, 3) := by decide +kernel
theorem dX3_addProduct_29 : decode cX3_addProduct 29 = .ok (.iload 5, 2) := by decide +kernel
theorem dX3_addProduct_31 : decode cX3_addProduct 31 = .ok (.goto 7, 3) := by decide +kernel
theorem dX3_addProduct_34 : decode cX3_addProduct 34 = .ok (.aload_n 0, 1) := by decide +kernel
theorem dX3_addProduct_35 : decode cX3_addProduct 35 = .ok (.getfield 15, 3) := by decide +kernel
theorem dX3_addProduct_38 : decode cX3_addProduct 38 = .ok (.putfield 15, 3) := by decide +kernel
theorem dX3_addProduct_41 : decode cX3_addProduct 41 = .ok (.iconst 0, 1) := by decide +kernel
theorem dX3_addProduct_42 : decode cX3_addProduct 42 = .ok (.istore 6, 2) := by decide +kernel
theorem dX3_addProduct_44 : decode cX3_addProduct 44 = .ok (.iload 6, 2) := by decide +kernel
theorem dX3_addProduct_46 : decode cX3_addProduct 46 = .ok (.aload_n 1, 1) := by decide +kernel
theorem dX3_addProduct_47 : decode cX3_addProduct 47 = .ok (.getfield 15, 3) := by decide +kernel
theorem dX3_addProduct_50 : decode cX3_addProduct 50 = .ok (.if_icmp .gt 136, 3) := by decide +kernel
theorem dX3_addProduct_53 : decode cX3_addProduct 53 = .ok (.iconst 0, 1) := by decide +kernel
theorem dX3_addProduct_54 : decode cX3_addProduct 54 = .ok (.istore 7, 2) := by decide +kernel
theorem dX3_addProduct_56 : decode cX3_addProduct 56 = .ok (.iload 7, 2) := by decide +kernel
theorem dX3_addProduct_58 : decode cX3_addProduct 58 = .ok (.iload 6, 2) := by decide +kernel
theorem dX3_addProduct_60 : decode cX3_addProduct 60 = .ok (.if_icmp .gt 120, 3) := by decide +kernel
theorem dX3_addProduct_63 : decode cX3_addProduct 63 = .ok (.lload_n 3, 1) := by decide +kernel
theorem dX3_addProduct_64 : decode cX3_addProduct 64 = .ok (.aload_n 1, 1) := by decide +kernel
theorem dX3_addProduct_65 : decode cX3_addProduct 65 = .ok (.getfield 9, 3) := by decide +kernel
theorem dX3_addProduct_68 : decode cX3_addProduct 68 = .ok (.iload 6, 2) := by decide +kernel
theorem dX3_addProduct_70 : decode cX3_addProduct 70 = .ok (.iload 7, 2) := by decide +kernel
theorem dX3_addProduct_72 : decode cX3_addProduct 72 = .ok (.invokestatic 28, 3) := by decide +kernel
theorem dX3_addProduct_75 : decode cX3_addProduct 75 = .ok (.laload, 1) := by decide +kernel
theorem dX3_addProduct_76 : decode cX3_addProduct 76 = .ok (.lmul, 1) := by decide +kernel
theorem dX3_addProduct_77 : decode cX3_addProduct 77 = .ok (.lstore 8, 2) := by decide +kernel
theorem dX3_addProduct_79 : decode cX3_addProduct 79 = .ok (.lload 8, 2) := by decide +kernel
theorem dX3_addProduct_81 : decode cX3_addProduct 81 = .ok (.lconst 0, 1) := by decide +kernel
theorem dX3_addProduct_82 : decode cX3_addProduct 82 = .ok (.lcmp, 1) := by decide +kernel
theorem dX3_addProduct_83 : decode cX3_addProduct 83 = .ok (.ifCond .ne 7, 3) := by decide +kernel
theorem dX3_addProduct_86 : decode cX3_addProduct 86 = .ok (.iconst (-1), 1) := by decide +kernel
theorem dX3_addProduct_87 : decode cX3_addProduct 87 = .ok (.goto 7, 3) := by decide +kernel
theorem dX3_addProduct_90 : decode cX3_addProduct 90 = .ok (.aload_n 2, 1) := by decide +kernel
theorem dX3_addProduct_91 : decode cX3_addProduct 91 = .ok (.getfield 15, 3) := by decide +kernel
theorem dX3_addProduct_94 : decode cX3_addProduct 94 = .ok (.istore 10, 2) := by decide +kernel
theorem dX3_addProduct_96 : decode cX3_addProduct 96 = .ok (.iconst 0, 1) := by decide +kernel
theorem dX3_addProduct_97 : decode cX3_addProduct 97 = .ok (.istore 11, 2) := by decide +kernel
theorem dX3_addProduct_99 : decode cX3_addProduct 99 = .ok (.iload 11, 2) := by decide +kernel
theorem dX3_addProduct_101 : decode cX3_addProduct 101 = .ok (.iload 10, 2) := by decide +kernel
theorem dX3_addProduct_103 : decode cX3_addProduct 103 = .ok (.if_icmp .gt 71, 3) := by decide +kernel
theorem dX3_addProduct_106 : decode cX3_addProduct 106 = .ok (.iload 11, 2) := by decide +kernel
theorem dX3_addProduct_108 : decode cX3_addProduct 108 = .ok (.iconst 0, 1) := by decide +kernel
theorem dX3_addProduct_109 : decode cX3_addProduct 109 = .ok (.invokestatic 28, 3) := by decide +kernel
theorem dX3_addProduct_112 : decode cX3_addProduct 112 = .ok (.istore 12, 2) := by decide +kernel
theorem dX3_addProduct_114 : decode cX3_addProduct 114 = .ok (.iload 6, 2) := by decide +kernel
theorem dX3_addProduct_116 : decode cX3_addProduct 116 = .ok (.iload 11, 2) := by decide +kernel
theorem dX3_addProduct_118 : decode cX3_addProduct 118 = .ok (.iadd, 1) := by decide +kernel
theorem dX3_addProduct_119 : decode cX3_addProduct 119 = .ok (.iload 7, 2) := by decide +kernel
theorem dX3_addProduct_121 : decode cX3_addProduct 121 = .ok (.invokestatic 28, 3) := by decide +kernel
theorem dX3_addProduct_124 : decode cX3_addProduct 124 = .ok (.istore 13, 2) := by decide +kernel
theorem dX3_addProduct_126 : decode cX3_addProduct 126 = .ok (.iconst 0, 1) := by decide +kernel
theorem dX3_addProduct_127 : decode cX3_addProduct 127 = .ok (.istore 14, 2) := by decide +kernel
theorem dX3_addProduct_129 : decode cX3_addProduct 129 = .ok (.iload 14, 2) := by decide +kernel
theorem dX3_addProduct_131 : decode cX3_addProduct 131 = .ok (.iload 11, 2) := by decide +kernel
theorem dX3_addProduct_133 : decode cX3_addProduct 133 = .ok (.if_icmp .gt 35, 3) := by decide +kernel
theorem dX3_addProduct_136 : decode cX3_addProduct 136 = .ok (.aload_n 0, 1) := by decide +kernel
theorem dX3_addProduct_137 : decode cX3_addProduct 137 = .ok (.getfield 9, 3) := by decide +kernel
theorem dX3_addProduct_140 : decode cX3_addProduct 140 = .ok (.iload 13, 2) := by decide +kernel
theorem dX3_addProduct_142 : decode cX3_addProduct 142 = .ok (.iload 14, 2) := by decide +kernel
theorem dX3_addProduct_144 : decode cX3_addProduct 144 = .ok (.iadd, 1) := by decide +kernel
theorem dX3_addProduct_145 : decode cX3_addProduct 145 = .ok (.dup2, 1) := by decide +kernel
theorem dX3_addProduct_146 : decode cX3_addProduct 146 = .ok (.laload, 1) := by decide +kernel
theorem dX3_addProduct_147 : decode cX3_addProduct 147 = .ok (.lload 8, 2) := by decide +kernel
theorem dX3_addProduct_149 : decode cX3_addProduct 149 = .ok (.aload_n 2, 1) := by decide +kernel
theorem dX3_addProduct_150 : decode cX3_addProduct 150 = .ok (.getfield 9, 3) := by decide +kernel
theorem dX3_addProduct_153 : decode cX3_addProduct 153 = .ok (.iload 12, 2) := by decide +kernel
theorem dX3_addProduct_155 : decode cX3_addProduct 155 = .ok (.iload 14, 2) := by decide +kernel
theorem dX3_addProduct_157 : decode cX3_addProduct 157 = .ok (.iadd, 1) := by decide +kernel
theorem dX3_addProduct_158 : decode cX3_addProduct 158 = .ok (.laload, 1) := by decide +kernel
theorem dX3_addProduct_159 : decode cX3_addProduct 159 = .ok (.lmul, 1) := by decide +kernel
theorem dX3_addProduct_160 : decode cX3_addProduct 160 = .ok (.ladd, 1) := by decide +kernel
theorem dX3_addProduct_161 : decode cX3_addProduct 161 = .ok (.lastore, 1) := by decide +kernel
theorem dX3_addProduct_162 : decode cX3_addProduct 162 = .ok (.iinc 14 1, 3) := by decide +kernel
theorem dX3_addProduct_165 : decode cX3_addProduct 165 = .ok (.goto (-36), 3) := by decide +kernel
theorem dX3_addProduct_168 : decode cX3_addProduct 168 = .ok (.iinc 11 1, 3) := by decide +kernel
theorem dX3_addProduct_171 : decode cX3_addProduct 171 = .ok (.goto (-72), 3) := by decide +kernel
theorem dX3_addProduct_174 : decode cX3_addProduct 174 = .ok (.iinc 7 1, 3) := by decide +kernel
theorem dX3_addProduct_177 : decode cX3_addProduct 177 = .ok (.goto (-121), 3) := by decide +kernel
theorem dX3_addProduct_180 : decode cX3_addProduct 180 = .ok (.iinc 6 1, 3) := by decide +kernel
theorem dX3_addProduct_183 : decode cX3_addProduct 183 = .ok (.goto (-139), 3) := by decide +kernel
theorem dX3_addProduct_186 : decode cX3_addProduct 186 = .ok (.return_, 1) := by decide +kernel
set_option maxHeartbeats 4000000 in
set_option maxRecDepth 100000 in
theorem ct_X3_addProduct (l : Launch) (D : va_G) (ce : Nat → ClassId) (h pl ar : Nat → Nat) (G : Nat → Int) (L : Nat → Nat → Int64) (B : Nat → Int) (J : Nat → Nat → Int64) (k : Nat) (ka kb : Nat) (fac : Int64) (hk : k < 42) (hB : BOK B) (hka : ka < 42 ∧ ka ≠ k) (hkb : kb < 42 ∧ kb ≠ k) : Ct l yX3_addProduct cX3_addProduct 15 none { frames := 1, cells := 0, slots := 0, locals := 21 } 0 0 D (TY ce) [.ref (pl k), .ref (pl ka), .ref (pl kb), .long fac] (cW ce h pl ar G L B J) (QV D (TY ce) (fun w1 => ∃ B2 : Nat → Int, ∃ J2 : Nat → Nat → Int64, w1 = cW ce h pl ar G L B2 J2 ∧ (∀ j, j ≠ k → B2 j = B j) ∧ (∀ j, j ≠ k → J2 j = J j) ∧ (BOK B2))) := by
  refine Ct.ofV (by decide) (Nat.le_of_ble_eq_true rfl) ?_
  intro p e s m args below meth c A Q hX hnm hR
  refine Z.pick (lv' := [(0, .ref (pl k)), (1, .ref (pl ka)), (2, .ref (pl kb)), (3, .long fac)]) [0, 1, 2, 3] rfl ?_
  have hbk := hB k hk
  have hba := hB ka hka.1
  have hbb := hB kb hkb.1
  refine Z.aload_n hX dX3_addProduct_0 rfl rfl ?_
  refine Z.getf hX 3 (24 + ka) 1 dX3_addProduct_1 (cW_pl (by omega)) rfl inX3 (by decide) fl_X3_15 rfl rfl ?_
  refine Z.aload_n hX dX3_addProduct_4 rfl rfl ?_
  refine Z.getf hX 3 (24 + kb) 1 dX3_addProduct_5 (cW_pl (by omega)) rfl inX3 (by decide) fl_X3_15 rfl rfl ?_
  refine Z.iadd hX dX3_addProduct_8 ?_
  refine Z.istore (lv' := [(5, .int (zI ((B ka) + (B kb)))), (0, .ref (pl k)), (1, .ref (pl ka)), (2, .ref (pl kb)), (3, .long fac)]) hX dX3_addProduct_9 (by decide) rfl ?_
  refine Z.iload hX dX3_addProduct_11 rfl ?_
  refine Z.bipush hX dX3_addProduct_13 (by decide) ?_
  refine Z.icmp_le hX 19 dX3_addProduct_15 (by decide) ⟨by omega, by omega⟩ ⟨by omega, by omega⟩ ?_ ?_
  · intro c1
    have key_38 : ∀ (v : Int), (hv : 0 ≤ v ∧ v ≤ 6) → Z p l e { frames := 1, cells := 0, slots := 0, locals := 21 } s m args below meth c D A 15 0 0 Q 38 [(5, .int (zI (B ka + B kb))), (3, .long fac), (2, .ref (pl kb)), (1, .ref (pl ka)), (0, .ref (pl k))] [.int (zI v), .ref (pl k)] (cW ce h pl ar G L B J) := by
      intro v hv
      refine Z.putf (ty := .int) hX 3 (24 + k) 1 tyX3 dX3_addProduct_38 (cW_pl (by omega)) rfl inX3 tyX3_ok nmX3 (by decide) fl_X3_15 rfl rfl (by decide +kernel) rfl rfl (Nat.le_of_ble_eq_true rfl) ?_
      obtain ⟨B2, eB2⟩ : ∃ F' : Nat → Int, F' = va_up B k (v) := ⟨_, rfl⟩
      refine Z.toW (w' := cW ce h pl ar G L B2 J) (by rw [eB2]; exact cW_setB (by omega)) ?_
      have gB2 : B2 k = v := by rw [eB2]; exact up_eq
      have fB2 : ∀ j_, j_ ≠ k → B2 j_ = B j_ := fun j_ hj_ => by rw [eB2]; exact up_ne hj_
      have eka : B2 ka = B ka := fB2 ka hka.2
      have ekb : B2 kb = B kb := fB2 kb hkb.2
      refine Z.iconst hX dX3_addProduct_41 ?_
      refine Z.istore (lv' := [(6, .int (zI 0)), (5, .int (zI (B ka + B kb))), (3, .long fac), (2, .ref (pl kb)), (1, .ref (pl ka)), (0, .ref (pl k))]) hX dX3_addProduct_42 (by decide) rfl ?_
      have key_44 : ∀ (N : Nat), ∀ (d : Int) (M : Nat → Nat → Int64), (B ka + 1 - d).toNat < N → (hd : 0 ≤ d ∧ d ≤ B ka + 1) → (hM : ∀ j, j ≠ k → M j = J j) → Z p l e { frames := 1, cells := 0, slots := 0, locals := 21 } s m args below meth c D A 15 0 0 Q 44 [(6, .int (zI d)), (5, .int (zI (B ka + B kb))), (3, .long fac), (2, .ref (pl kb)), (1, .ref (pl ka)), (0, .ref (pl k))] [] (cW ce h pl ar G L B2 M) := by
        intro N
        induction N with
        | zero => intro d M hm; exact absurd hm (Nat.not_lt_zero _)
        | succ N ih_44 =>
          intro d M hm hd hM
          refine Z.iload hX dX3_addProduct_44 rfl ?_
          refine Z.aload_n hX dX3_addProduct_46 rfl rfl ?_
          refine Z.getf hX 3 (24 + ka) 1 dX3_addProduct_47 (cW_pl (by omega)) rfl inX3 (by decide) fl_X3_15 rfl rfl ?_
          refine Z.icmp_gt hX 186 dX3_addProduct_50 (by decide) ⟨by omega, by omega⟩ ⟨by omega, by omega⟩ ?_ ?_
          · intro c3
            exact hR _ _ _ dX3_addProduct_186 ⟨B2, M, rfl, (fun j_ h_k => ((fB2 j_ h_k).trans rfl)), hM, (BOK_s (k := k) hB (by omega) (fun j_ h_k => ((fB2 j_ h_k).trans rfl)))⟩
          · intro c3
            refine Z.iconst hX dX3_addProduct_53 ?_
            refine Z.istore (lv' := [(7, .int (zI 0)), (6, .int (zI d)), (5, .int (zI (B ka + B kb))), (3, .long fac), (2, .ref (pl kb)), (1, .ref (pl ka)), (0, .ref (pl k))]) hX dX3_addProduct_54 (by decide) rfl ?_
            have key_56 : ∀ (N : Nat), ∀ (j : Int) (M : Nat → Nat → Int64), (d + 1 - j).toNat < N → (hj : 0 ≤ j ∧ j ≤ d + 1) → (hM : ∀ j, j ≠ k → M j = J j) → Z p l e { frames := 1, cells := 0, slots := 0, locals := 21 } s m args below meth c D A 15 0 0 Q 56 [(7, .int (zI j)), (6, .int (zI d)), (5, .int (zI (B ka + B kb))), (3, .long fac), (2, .ref (pl kb)), (1, .ref (pl ka)), (0, .ref (pl k))] [] (cW ce h pl ar G L B2 M) := by
              intro N
              induction N with
              | zero => intro j M hm; exact absurd hm (Nat.not_lt_zero _)
              | succ N ih_56 =>
                intro j M hm hj hM
                refine Z.iload hX dX3_addProduct_56 rfl ?_
                refine Z.iload hX dX3_addProduct_58 rfl ?_
                refine Z.icmp_gt hX 180 dX3_addProduct_60 (by decide) ⟨by omega, by omega⟩ ⟨by omega, by omega⟩ ?_ ?_
                · intro c4
                  refine Z.iinc (lv' := [(6, .int (zI (d + 1))), (7, .int (zI j)), (5, .int (zI (B ka + B kb))), (3, .long fac), (2, .ref (pl kb)), (1, .ref (pl ka)), (0, .ref (pl k))]) hX dX3_addProduct_180 rfl (by decide) rfl ?_
                  refine Z.goto hX 44 dX3_addProduct_183 (by decide) ?_
                  refine Z.pick [0, 2, 3, 4, 5, 6] rfl ?_
                  exact ih_44 _ _ (by omega) (by omega) hM
                · intro c4
                  refine Z.lload_n hX dX3_addProduct_63 rfl rfl ?_
                  refine Z.aload_n hX dX3_addProduct_64 rfl rfl ?_
                  refine Z.getf hX 3 (24 + ka) 0 dX3_addProduct_65 (cW_pl (by omega)) rfl inX3 (by decide) fl_X3_9 rfl rfl ?_
                  refine Z.iload hX dX3_addProduct_68 rfl ?_
                  refine Z.iload hX dX3_addProduct_70 rfl ?_
                  refine Z.callSNi (As := [.int (zI d), .int (zI j)]) (rest := [.ref (ar ka), .long fac]) hX (ct_X6_slotOf l D ce d j (by omega) (by omega)) mc_X6_slotOf ns_X3_28 st_X6_slotOf ini_X6 nd_X6_slotOf ⟨Nat.le_of_ble_eq_true rfl, Nat.le_of_ble_eq_true rfl⟩ ⟨rfl, rfl⟩ ⟨Nat.le_refl _, Nat.le_refl _⟩ rfl (Nat.le_of_ble_eq_true rfl) dX3_addProduct_72 ?_
                  rintro r_5 w1 ⟨s1, hr_, hw_, hq6, hq7⟩
                  subst hr_
                  refine ⟨hw_, ?_⟩
                  refine Z.laload hX (66 + ka) 1 dX3_addProduct_75 (cW_ar (by omega)) rfl (by omega) (by omega) (by decide) ?_
                  refine Z.lmul hX dX3_addProduct_76 ?_
                  refine Z.lstore (lv' := [(8, .long (fac * (M ka (s1 : Int).toNat))), (7, .int (zI j)), (6, .int (zI d)), (5, .int (zI (B ka + B kb))), (3, .long fac), (2, .ref (pl kb)), (1, .ref (pl ka)), (0, .ref (pl k))]) hX dX3_addProduct_77 (by decide) rfl ?_
                  obtain ⟨mu, emu⟩ : ∃ x : Int64, x = fac * (M ka (s1 : Int).toNat) := ⟨_, rfl⟩
                  rw [← emu]
                  have key_94 : ∀ (la : Int), (hla : -1 ≤ la ∧ la ≤ B kb) → Z p l e { frames := 1, cells := 0, slots := 0, locals := 21 } s m args below meth c D A 15 0 0 Q 94 [(8, .long mu), (7, .int (zI j)), (6, .int (zI d)), (5, .int (zI (B ka + B kb))), (3, .long fac), (2, .ref (pl kb)), (1, .ref (pl ka)), (0, .ref (pl k))] [.int (zI la)] (cW ce h pl ar G L B2 M) := by
                    intro la hla
                    refine Z.istore (lv' := [(10, .int (zI la)), (8, .long mu), (7, .int (zI j)), (6, .int (zI d)), (5, .int (zI (B ka + B kb))), (3, .long fac), (2, .ref (pl kb)), (1, .ref (pl ka)), (0, .ref (pl k))]) hX dX3_addProduct_94 (by decide) rfl ?_
                    refine Z.iconst hX dX3_addProduct_96 ?_
                    refine Z.istore (lv' := [(11, .int (zI 0)), (10, .int (zI la)), (8, .long mu), (7, .int (zI j)), (6, .int (zI d)), (5, .int (zI (B ka + B kb))), (3, .long fac), (2, .ref (pl kb)), (1, .ref (pl ka)), (0, .ref (pl k))]) hX dX3_addProduct_97 (by decide) rfl ?_
                    have key_99 : ∀ (N : Nat), ∀ (ev : Int) (M : Nat → Nat → Int64), (B kb + 1 - ev).toNat < N → (hev : 0 ≤ ev ∧ ev ≤ B kb + 1) → (hM : ∀ j, j ≠ k → M j = J j) → Z p l e { frames := 1, cells := 0, slots := 0, locals := 21 } s m args below meth c D A 15 0 0 Q 99 [(11, .int (zI ev)), (10, .int (zI la)), (8, .long mu), (7, .int (zI j)), (6, .int (zI d)), (5, .int (zI (B ka + B kb))), (3, .long fac), (2, .ref (pl kb)), (1, .ref (pl ka)), (0, .ref (pl k))] [] (cW ce h pl ar G L B2 M) := by
                      intro N
                      induction N with
                      | zero => intro ev M hm; exact absurd hm (Nat.not_lt_zero _)
                      | succ N ih_99 =>
                        intro ev M hm hev hM
                        refine Z.iload hX dX3_addProduct_99 rfl ?_
                        refine Z.iload hX dX3_addProduct_101 rfl ?_
                        refine Z.icmp_gt hX 174 dX3_addProduct_103 (by decide) ⟨by omega, by omega⟩ ⟨by omega, by omega⟩ ?_ ?_
                        · intro c8
                          refine Z.iinc (lv' := [(7, .int (zI (j + 1))), (11, .int (zI ev)), (10, .int (zI la)), (8, .long mu), (6, .int (zI d)), (5, .int (zI (B ka + B kb))), (3, .long fac), (2, .ref (pl kb)), (1, .ref (pl ka)), (0, .ref (pl k))]) hX dX3_addProduct_174 rfl (by decide) rfl ?_
                          refine Z.goto hX 56 dX3_addProduct_177 (by decide) ?_
                          refine Z.pick [0, 4, 5, 6, 7, 8, 9] rfl ?_
                          exact ih_56 _ _ (by omega) (by omega) hM
                        · intro c8
                          refine Z.iload hX dX3_addProduct_106 rfl ?_
                          refine Z.iconst hX dX3_addProduct_108 ?_
                          refine Z.callSNi (As := [.int (zI ev), .int (zI 0)]) (rest := []) hX (ct_X6_slotOf l D ce ev 0 (by omega) (by omega)) mc_X6_slotOf ns_X3_28 st_X6_slotOf ini_X6 nd_X6_slotOf ⟨Nat.le_of_ble_eq_true rfl, Nat.le_of_ble_eq_true rfl⟩ ⟨rfl, rfl⟩ ⟨Nat.le_refl _, Nat.le_refl _⟩ rfl (Nat.le_of_ble_eq_true rfl) dX3_addProduct_109 ?_
                          rintro r_9 w1 ⟨s2, hr_, hw_, es2, hs2⟩
                          subst hr_
                          refine ⟨hw_, ?_⟩
                          subst es2
                          refine Z.istore (lv' := [(12, .int (zI (sl ev + 0))), (11, .int (zI ev)), (10, .int (zI la)), (8, .long mu), (7, .int (zI j)), (6, .int (zI d)), (5, .int (zI (B ka + B kb))), (3, .long fac), (2, .ref (pl kb)), (1, .ref (pl ka)), (0, .ref (pl k))]) hX dX3_addProduct_112 (by decide) rfl ?_
                          refine Z.iload hX dX3_addProduct_114 rfl ?_
                          refine Z.iload hX dX3_addProduct_116 rfl ?_
                          refine Z.iadd hX dX3_addProduct_118 ?_
                          refine Z.iload hX dX3_addProduct_119 rfl ?_
                          refine Z.callSNi (As := [.int (zI (d + ev)), .int (zI j)]) (rest := []) hX (ct_X6_slotOf l D ce (d + ev) j (by omega) (by omega)) mc_X6_slotOf ns_X3_28 st_X6_slotOf ini_X6 nd_X6_slotOf ⟨Nat.le_of_ble_eq_true rfl, Nat.le_of_ble_eq_true rfl⟩ ⟨rfl, rfl⟩ ⟨Nat.le_refl _, Nat.le_refl _⟩ rfl (Nat.le_of_ble_eq_true rfl) dX3_addProduct_121 ?_
                          rintro r_10 w1 ⟨s3, hr_, hw_, es3, hs3⟩
                          subst hr_
                          refine ⟨hw_, ?_⟩
                          subst es3
                          refine Z.istore (lv' := [(13, .int (zI (sl (d + ev) + j))), (12, .int (zI (sl ev + 0))), (11, .int (zI ev)), (10, .int (zI la)), (8, .long mu), (7, .int (zI j)), (6, .int (zI d)), (5, .int (zI (B ka + B kb))), (3, .long fac), (2, .ref (pl kb)), (1, .ref (pl ka)), (0, .ref (pl k))]) hX dX3_addProduct_124 (by decide) rfl ?_
                          refine Z.iconst hX dX3_addProduct_126 ?_
                          refine Z.istore (lv' := [(14, .int (zI 0)), (13, .int (zI (sl (d + ev) + j))), (12, .int (zI (sl ev + 0))), (11, .int (zI ev)), (10, .int (zI la)), (8, .long mu), (7, .int (zI j)), (6, .int (zI d)), (5, .int (zI (B ka + B kb))), (3, .long fac), (2, .ref (pl kb)), (1, .ref (pl ka)), (0, .ref (pl k))]) hX dX3_addProduct_127 (by decide) rfl ?_
                          have key_129 : ∀ (N : Nat), ∀ (q : Int) (M : Nat → Nat → Int64), (ev + 1 - q).toNat < N → (hq : 0 ≤ q ∧ q ≤ ev + 1) → (hM : ∀ j, j ≠ k → M j = J j) → Z p l e { frames := 1, cells := 0, slots := 0, locals := 21 } s m args below meth c D A 15 0 0 Q 129 [(14, .int (zI q)), (13, .int (zI (sl (d + ev) + j))), (12, .int (zI (sl ev + 0))), (11, .int (zI ev)), (10, .int (zI la)), (8, .long mu), (7, .int (zI j)), (6, .int (zI d)), (5, .int (zI (B ka + B kb))), (3, .long fac), (2, .ref (pl kb)), (1, .ref (pl ka)), (0, .ref (pl k))] [] (cW ce h pl ar G L B2 M) := by
                            intro N
                            induction N with
                            | zero => intro q M hm; exact absurd hm (Nat.not_lt_zero _)
                            | succ N ih_129 =>
                              intro q M hm hq hM
                              refine Z.iload hX dX3_addProduct_129 rfl ?_
                              refine Z.iload hX dX3_addProduct_131 rfl ?_
                              refine Z.icmp_gt hX 168 dX3_addProduct_133 (by decide) ⟨by omega, by omega⟩ ⟨by omega, by omega⟩ ?_ ?_
                              · intro c11
                                refine Z.iinc (lv' := [(11, .int (zI (ev + 1))), (14, .int (zI q)), (13, .int (zI (sl (d + ev) + j))), (12, .int (zI (sl ev + 0))), (10, .int (zI la)), (8, .long mu), (7, .int (zI j)), (6, .int (zI d)), (5, .int (zI (B ka + B kb))), (3, .long fac), (2, .ref (pl kb)), (1, .ref (pl ka)), (0, .ref (pl k))]) hX dX3_addProduct_168 rfl (by decide) rfl ?_
                                refine Z.goto hX 99 dX3_addProduct_171 (by decide) ?_
                                refine Z.pick [0, 4, 5, 6, 7, 8, 9, 10, 11, 12] rfl ?_
                                exact ih_99 _ _ (by omega) (by omega) hM
                              · intro c11
                                refine Z.aload_n hX dX3_addProduct_136 rfl rfl ?_
                                refine Z.getf hX 3 (24 + k) 0 dX3_addProduct_137 (cW_pl (by omega)) rfl inX3 (by decide) fl_X3_9 rfl rfl ?_
                                refine Z.iload hX dX3_addProduct_140 rfl ?_
                                refine Z.iload hX dX3_addProduct_142 rfl ?_
                                refine Z.iadd hX dX3_addProduct_144 ?_
                                refine Z.dup2 hX dX3_addProduct_145 rfl rfl ?_
                                refine Z.laload hX (66 + k) 1 dX3_addProduct_146 (cW_ar (by omega)) rfl (by omega) (by omega) (by decide) ?_
                                refine Z.lload hX dX3_addProduct_147 rfl ?_
                                refine Z.aload_n hX dX3_addProduct_149 rfl rfl ?_
                                refine Z.getf hX 3 (24 + kb) 0 dX3_addProduct_150 (cW_pl (by omega)) rfl inX3 (by decide) fl_X3_9 rfl rfl ?_
                                refine Z.iload hX dX3_addProduct_153 rfl ?_
                                refine Z.iload hX dX3_addProduct_155 rfl ?_
                                refine Z.iadd hX dX3_addProduct_157 ?_
                                refine Z.laload hX (66 + kb) 1 dX3_addProduct_158 (cW_ar (by omega)) rfl (by omega) (by omega) (by decide) ?_
                                refine Z.lmul hX dX3_addProduct_159 ?_
                                refine Z.ladd hX dX3_addProduct_160 ?_
                                refine Z.lastore hX (66 + k) 1 dX3_addProduct_161 (cW_ar (by omega)) rfl (by omega) (by omega) (by decide) ?_
                                obtain ⟨J12, eJ12⟩ : ∃ J' : Nat → Nat → Int64, J' = va_up M k (vp_updL (M k) ((sl (d + ev) + j) + q : Int).toNat ((M k ((sl (d + ev) + j) + q : Int).toNat) + (mu * (M kb ((sl ev + 0) + q : Int).toNat)))) := ⟨_, rfl⟩
                                refine Z.toW (w' := cW ce h pl ar G L B2 J12) (by rw [eJ12]; exact cW_setJ (by omega)) ?_
                                have gJ12 : J12 k = vp_updL (M k) ((sl (d + ev) + j) + q : Int).toNat ((M k ((sl (d + ev) + j) + q : Int).toNat) + (mu * (M kb ((sl ev + 0) + q : Int).toNat))) := by rw [eJ12]; exact up_eq
                                have fJ12 : ∀ j_, j_ ≠ k → J12 j_ = M j_ := fun j_ hj_ => by rw [eJ12]; exact up_ne hj_
                                refine Z.iinc (lv' := [(14, .int (zI (q + 1))), (13, .int (zI (sl (d + ev) + j))), (12, .int (zI (sl ev + 0))), (11, .int (zI ev)), (10, .int (zI la)), (8, .long mu), (7, .int (zI j)), (6, .int (zI d)), (5, .int (zI (B ka + B kb))), (3, .long fac), (2, .ref (pl kb)), (1, .ref (pl ka)), (0, .ref (pl k))]) hX dX3_addProduct_162 rfl (by decide) rfl ?_
                                refine Z.goto hX 129 dX3_addProduct_165 (by decide) ?_
                                refine Z.pick [0, 1, 2, 3, 4, 5, 6, 7, 8, 9, 10, 11, 12] rfl ?_
                                exact ih_129 _ _ (by omega) (by omega) (fun j_ h_k => ((fJ12 j_ h_k).trans (hM j_ h_k)))
                          refine Z.pick [0, 1, 2, 3, 4, 5, 6, 7, 8, 9, 10, 11, 12] rfl ?_
                          exact key_129 _ _ _ (Nat.lt_succ_self _) (by omega) hM
                    refine Z.pick [0, 1, 2, 3, 4, 5, 6, 7, 8, 9] rfl ?_
                    exact key_99 _ _ _ (Nat.lt_succ_self _) (by omega) hM
                  refine Z.lload hX dX3_addProduct_79 rfl ?_
                  refine Z.lconst (v := 0) hX dX3_addProduct_81 rfl ?_
                  refine Z.lcmp_ne hX 90 dX3_addProduct_82 dX3_addProduct_83 (by decide) ?_ ?_
                  · intro c13
                    refine Z.aload_n hX dX3_addProduct_90 rfl rfl ?_
                    refine Z.getf hX 3 (24 + kb) 1 dX3_addProduct_91 (cW_pl (by omega)) rfl inX3 (by decide) fl_X3_15 rfl rfl ?_
                    refine Z.pick [0, 1, 2, 3, 4, 5, 6, 7] rfl ?_
                    exact key_94 _ (by omega)
                  · intro c13
                    refine Z.iconst hX dX3_addProduct_86 ?_
                    refine Z.goto hX 94 dX3_addProduct_87 (by decide) ?_
                    refine Z.pick [0, 1, 2, 3, 4, 5, 6, 7] rfl ?_
                    exact key_94 _ (by omega)
            refine Z.pick [0, 1, 2, 3, 4, 5, 6] rfl ?_
            exact key_56 _ _ _ (Nat.lt_succ_self _) (by omega) hM
      refine Z.pick [0, 1, 2, 3, 4, 5] rfl ?_
      exact key_44 _ _ _ (Nat.lt_succ_self _) (by omega) (fun _ _ => rfl)
    refine Z.aload_n hX dX3_addProduct_19 rfl rfl ?_
    refine Z.aload_n hX dX3_addProduct_20 rfl rfl ?_
    refine Z.getf hX 3 (24 + k) 1 dX3_addProduct_21 (cW_pl (by omega)) rfl inX3 (by decide) fl_X3_15 rfl rfl ?_
    refine Z.iload hX dX3_addProduct_24 rfl ?_
    refine Z.icmp_ge hX 34 dX3_addProduct_26 (by decide) ⟨by omega, by omega⟩ ⟨by omega, by omega⟩ ?_ ?_
    · intro c14
      refine Z.aload_n hX dX3_addProduct_34 rfl rfl ?_
      refine Z.getf hX 3 (24 + k) 1 dX3_addProduct_35 (cW_pl (by omega)) rfl inX3 (by decide) fl_X3_15 rfl rfl ?_
      refine Z.pick [0, 4, 3, 2, 1] rfl ?_
      exact key_38 _ (by omega)
    · intro c14
      refine Z.iload hX dX3_addProduct_29 rfl ?_
      refine Z.goto hX 38 dX3_addProduct_31 (by decide) ?_
      refine Z.pick [0, 4, 3, 2, 1] rfl ?_
      exact key_38 _ (by omega)
  · intro c1
    exact hR _ _ _ dX3_addProduct_18 ⟨B, J, rfl, (fun _ _ => rfl), (fun _ _ => rfl), hB⟩

