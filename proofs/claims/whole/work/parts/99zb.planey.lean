theorem ln_mk {f f1 f2 f3 : Nat → Int64} {s0 s1 s2 : Int} {x1 x2 x3 : Int64} (h : ∀ q : Int, 0 ≤ q → q < 28 → f q.toNat = 0) (e0 : s0 = sl 0 + 0) (e1 : s1 = sl 1 + 0) (e2 : s2 = sl 1 + 1) (g1 : f1 = vp_updL f s0.toNat x3) (g2 : f2 = vp_updL f1 s1.toNat x1) (g3 : f3 = vp_updL f2 s2.toNat x2) : LNp f3 x1 x2 x3 := by
  have a0 : s0 = 0 := e0
  have a1 : s1 = 1 := e1
  have a2 : s2 = 2 := e2
  subst a0
  subst a1
  subst a2
  have at3 : ∀ q : Int, 0 ≤ q → f3 q.toNat = if q = 2 then x2 else if q = 1 then x1 else if q = 0 then x3 else f q.toNat := fun q hq => by
    rw [g3, up_at (by decide) hq, g2, up_at (by decide) hq, g1, up_at (by decide) hq]
  exact ⟨at3 0 (by decide), at3 1 (by decide), at3 2 (by decide), fun q h1 h2 => by rw [at3 q (by omega), if_neg (by omega), if_neg (by omega), if_neg (by omega)]; exact h q (by omega) h2⟩
theorem cpy28 {f g : Nat → Int64} {j : Int} (h1 : 0 ≤ j) (h2 : j < 28) : va_cpy f g 0 0 28 j.toNat = f j.toNat := by
  unfold va_cpy
  rw [if_pos (by omega), show 0 + (j.toNat - 0) = j.toNat by omega]
theorem dg_s {f : Nat → Int64} {s i : Int} (h0 : 0 ≤ i) (hz : f (s + i).toNat = 0) (h : ∀ j : Int, 0 ≤ j → j < i → f (s + j).toNat = 0) : ∀ j : Int, 0 ≤ j → j < i + 1 → f (s + j).toNat = 0 := fun j a b => by
  by_cases e : j = i
  · rw [e]
    exact hz
  · exact h j a (by omega)
set_option maxHeartbeats 4000000 in
set_option maxRecDepth 100000 in
theorem ct_X3_erase_y (l : Launch) (D : va_G) (ce : Nat → ClassId) (h pl ar : Nat → Nat) (G : Nat → Int) (L : Nat → Nat → Int64) (B : Nat → Int) (J : Nat → Nat → Int64) (k : Nat) (hk : k < 42) (hB : BOK B) : Ct l yX3_erase cX3_erase 1 none { frames := 1, cells := 0, slots := 0, locals := 24 } 0 0 D (TY ce) [.ref (pl k)] (cW ce h pl ar G L B J) (QV D (TY ce) (fun w1 => ∃ B2 : Nat → Int, ∃ J2 : Nat → Nat → Int64, w1 = cW ce h pl ar G L B2 J2 ∧ (∀ j, j ≠ k → B2 j = B j) ∧ (∀ j, j ≠ k → J2 j = J j) ∧ (BOK B2) ∧ (B2 k = 0) ∧ (∀ q : Int, 0 ≤ q → q < 28 → J2 k q.toNat = 0))) := by
  refine Ct.ofV (by decide) (Nat.le_of_ble_eq_true rfl) ?_
  intro p e s m args below meth c A Q hX hnm hR
  refine Z.pick (lv' := [(0, .ref (pl k))]) [0] rfl ?_
  refine Z.aload_n hX dX3_erase_0 rfl rfl ?_
  refine Z.getf hX 3 (24 + k) 0 dX3_erase_1 (cW_pl (by omega)) rfl inX3 (by decide) fl_X3_9 rfl rfl ?_
  refine Z.lconst (v := 0) hX dX3_erase_4 rfl ?_
  refine Z.callS1v (As := [.ref (ar k), .long 0]) (rest := []) hX (66 + k) (cW_ar (by omega)) (ct_J7_fill_d0a16 l D ce ((ar k)) 28 (J k) 0 (by decide)) mc_J7_fill_d0a16 ml_X3_19 st_J7_fill_d0a16 ini_J7 nd_J7_fill_d0a16 ⟨Nat.le_of_ble_eq_true rfl, Nat.le_of_ble_eq_true rfl⟩ ⟨rfl, rfl⟩ ⟨Nat.le_refl _, Nat.le_refl _⟩ rfl (Nat.le_of_ble_eq_true rfl) dX3_erase_5 ?_
  rintro w1 ⟨f22, hw_, hfl⟩
  refine ⟨_, hw_, ?_⟩
  obtain ⟨J3, eJ3⟩ : ∃ J' : Nat → Nat → Int64, J' = va_up J k (f22) := ⟨_, rfl⟩
  refine Z.toW (w' := cW ce h pl ar G L B J3) (by rw [eJ3]; exact cW_setJ (by omega)) ?_
  have gJ3 : J3 k = f22 := by rw [eJ3]; exact up_eq
  have fJ3 : ∀ j_, j_ ≠ k → J3 j_ = J j_ := fun j_ hj_ => by rw [eJ3]; exact up_ne hj_
  refine Z.aload_n hX dX3_erase_8 rfl rfl ?_
  refine Z.iconst hX dX3_erase_9 ?_
  refine Z.putf (ty := .int) hX 3 (24 + k) 1 tyX3 dX3_erase_10 (cW_pl (by omega)) rfl inX3 tyX3_ok nmX3 (by decide) fl_X3_15 rfl rfl (by decide +kernel) rfl rfl (Nat.le_of_ble_eq_true rfl) ?_
  obtain ⟨B4, eB4⟩ : ∃ F' : Nat → Int, F' = va_up B k (0) := ⟨_, rfl⟩
  refine Z.toW (w' := cW ce h pl ar G L B4 J3) (by rw [eB4]; exact cW_setB (by omega)) ?_
  have gB4 : B4 k = 0 := by rw [eB4]; exact up_eq
  have fB4 : ∀ j_, j_ ≠ k → B4 j_ = B j_ := fun j_ hj_ => by rw [eB4]; exact up_ne hj_
  exact hR _ _ _ dX3_erase_13 ⟨B4, J3, rfl, (fun j_ h_k => ((fB4 j_ h_k).trans rfl)), (fun j_ h_k => ((fJ3 j_ h_k).trans rfl)), (BOK_s (k := k) hB (by omega) (fun j_ h_k => ((fB4 j_ h_k).trans rfl))), (by assumption), (fun q a b => by rw [gJ3]; exact hfl q a (by omega))⟩

set_option maxHeartbeats 4000000 in
set_option maxRecDepth 100000 in
theorem ct_X3_setLine_y (l : Launch) (D : va_G) (ce : Nat → ClassId) (h pl ar : Nat → Nat) (G : Nat → Int) (L : Nat → Nat → Int64) (B : Nat → Int) (J : Nat → Nat → Int64) (k : Nat) (x1 x2 x3 : Int64) (hk : k < 42) (hB : BOK B) : Ct l yX3_setLine cX3_setLine 7 none { frames := 2, cells := 0, slots := 0, locals := 44 } 0 0 D (TY ce) [.ref (pl k), .long x1, .long x2, .long x3] (cW ce h pl ar G L B J) (QV D (TY ce) (fun w1 => ∃ B2 : Nat → Int, ∃ J2 : Nat → Nat → Int64, w1 = cW ce h pl ar G L B2 J2 ∧ (∀ j, j ≠ k → B2 j = B j) ∧ (∀ j, j ≠ k → J2 j = J j) ∧ (BOK B2) ∧ (B2 k = 1) ∧ (LNp (J2 k) x1 x2 x3))) := by
  refine Ct.ofV (by decide) (Nat.le_of_ble_eq_true rfl) ?_
  intro p e s m args below meth c A Q hX hnm hR
  refine Z.pick (lv' := [(0, .ref (pl k)), (1, .long x1), (3, .long x2), (5, .long x3)]) [0, 1, 2, 3] rfl ?_
  refine Z.aload_n hX dX3_setLine_0 rfl rfl ?_
  refine Z.callVfv (As := []) (rest := []) hX 3 (24 + k) rfl (cW_pl (by omega)) (ct_X3_erase_y l D ce h pl ar G L B J k hk hB) mc_X3_erase ml_X3_25 im_X3_erase se_X3_erase ini_X3 nd_X3_erase ⟨Nat.le_of_ble_eq_true rfl, Nat.le_of_ble_eq_true rfl⟩ ⟨rfl, rfl⟩ ⟨Nat.le_refl _, Nat.le_refl _⟩ rfl (Nat.le_of_ble_eq_true rfl) dX3_setLine_1 ?_
  rintro w1 ⟨B22, J23, hw_, e1, e2, e3, e4, e5⟩
  subst hw_
  refine Z.aload_n hX dX3_setLine_4 rfl rfl ?_
  refine Z.iconst hX dX3_setLine_5 ?_
  refine Z.putf (ty := .int) hX 3 (24 + k) 1 tyX3 dX3_setLine_6 (cW_pl (by omega)) rfl inX3 tyX3_ok nmX3 (by decide) fl_X3_15 rfl rfl (by decide +kernel) rfl rfl (Nat.le_of_ble_eq_true rfl) ?_
  obtain ⟨B4, eB4⟩ : ∃ F' : Nat → Int, F' = va_up B22 k (1) := ⟨_, rfl⟩
  refine Z.toW (w' := cW ce h pl ar G L B4 J23) (by rw [eB4]; exact cW_setB (by omega)) ?_
  have gB4 : B4 k = 1 := by rw [eB4]; exact up_eq
  have fB4 : ∀ j_, j_ ≠ k → B4 j_ = B22 j_ := fun j_ hj_ => by rw [eB4]; exact up_ne hj_
  refine Z.aload_n hX dX3_setLine_9 rfl rfl ?_
  refine Z.getf hX 3 (24 + k) 0 dX3_setLine_10 (cW_pl (by omega)) rfl inX3 (by decide) fl_X3_9 rfl rfl ?_
  refine Z.iconst hX dX3_setLine_13 ?_
  refine Z.iconst hX dX3_setLine_14 ?_
  refine Z.callSNi (As := [.int (zI 0), .int (zI 0)]) (rest := [.ref (ar k)]) hX (ct_X6_slotOf l D ce 0 0 (by omega) (by omega)) mc_X6_slotOf ns_X3_28 st_X6_slotOf ini_X6 nd_X6_slotOf ⟨Nat.le_of_ble_eq_true rfl, Nat.le_of_ble_eq_true rfl⟩ ⟨rfl, rfl⟩ ⟨Nat.le_refl _, Nat.le_refl _⟩ rfl (Nat.le_of_ble_eq_true rfl) dX3_setLine_15 ?_
  rintro r_5 w1 ⟨s0, hr_, hw_, es0, hs0⟩
  subst hr_
  refine ⟨hw_, ?_⟩
  refine Z.lload hX dX3_setLine_18 rfl ?_
  refine Z.lastore hX (66 + k) 1 dX3_setLine_20 (cW_ar (by omega)) rfl (by omega) (by omega) (by decide) ?_
  obtain ⟨J6, eJ6⟩ : ∃ J' : Nat → Nat → Int64, J' = va_up J23 k (vp_updL (J23 k) (s0 : Int).toNat (x3)) := ⟨_, rfl⟩
  refine Z.toW (w' := cW ce h pl ar G L B4 J6) (by rw [eJ6]; exact cW_setJ (by omega)) ?_
  have gJ6 : J6 k = vp_updL (J23 k) (s0 : Int).toNat (x3) := by rw [eJ6]; exact up_eq
  have fJ6 : ∀ j_, j_ ≠ k → J6 j_ = J23 j_ := fun j_ hj_ => by rw [eJ6]; exact up_ne hj_
  refine Z.aload_n hX dX3_setLine_21 rfl rfl ?_
  refine Z.getf hX 3 (24 + k) 0 dX3_setLine_22 (cW_pl (by omega)) rfl inX3 (by decide) fl_X3_9 rfl rfl ?_
  refine Z.iconst hX dX3_setLine_25 ?_
  refine Z.iconst hX dX3_setLine_26 ?_
  refine Z.callSNi (As := [.int (zI 1), .int (zI 0)]) (rest := [.ref (ar k)]) hX (ct_X6_slotOf l D ce 1 0 (by omega) (by omega)) mc_X6_slotOf ns_X3_28 st_X6_slotOf ini_X6 nd_X6_slotOf ⟨Nat.le_of_ble_eq_true rfl, Nat.le_of_ble_eq_true rfl⟩ ⟨rfl, rfl⟩ ⟨Nat.le_refl _, Nat.le_refl _⟩ rfl (Nat.le_of_ble_eq_true rfl) dX3_setLine_27 ?_
  rintro r_7 w1 ⟨s1, hr_, hw_, es1, hs1⟩
  subst hr_
  refine ⟨hw_, ?_⟩
  refine Z.lload_n hX dX3_setLine_30 rfl rfl ?_
  refine Z.lastore hX (66 + k) 1 dX3_setLine_31 (cW_ar (by omega)) rfl (by omega) (by omega) (by decide) ?_
  obtain ⟨J8, eJ8⟩ : ∃ J' : Nat → Nat → Int64, J' = va_up J6 k (vp_updL (J6 k) (s1 : Int).toNat (x1)) := ⟨_, rfl⟩
  refine Z.toW (w' := cW ce h pl ar G L B4 J8) (by rw [eJ8]; exact cW_setJ (by omega)) ?_
  have gJ8 : J8 k = vp_updL (J6 k) (s1 : Int).toNat (x1) := by rw [eJ8]; exact up_eq
  have fJ8 : ∀ j_, j_ ≠ k → J8 j_ = J6 j_ := fun j_ hj_ => by rw [eJ8]; exact up_ne hj_
  refine Z.aload_n hX dX3_setLine_32 rfl rfl ?_
  refine Z.getf hX 3 (24 + k) 0 dX3_setLine_33 (cW_pl (by omega)) rfl inX3 (by decide) fl_X3_9 rfl rfl ?_
  refine Z.iconst hX dX3_setLine_36 ?_
  refine Z.iconst hX dX3_setLine_37 ?_
  refine Z.callSNi (As := [.int (zI 1), .int (zI 1)]) (rest := [.ref (ar k)]) hX (ct_X6_slotOf l D ce 1 1 (by omega) (by omega)) mc_X6_slotOf ns_X3_28 st_X6_slotOf ini_X6 nd_X6_slotOf ⟨Nat.le_of_ble_eq_true rfl, Nat.le_of_ble_eq_true rfl⟩ ⟨rfl, rfl⟩ ⟨Nat.le_refl _, Nat.le_refl _⟩ rfl (Nat.le_of_ble_eq_true rfl) dX3_setLine_38 ?_
  rintro r_9 w1 ⟨s2, hr_, hw_, es2, hs2⟩
  subst hr_
  refine ⟨hw_, ?_⟩
  refine Z.lload_n hX dX3_setLine_41 rfl rfl ?_
  refine Z.lastore hX (66 + k) 1 dX3_setLine_42 (cW_ar (by omega)) rfl (by omega) (by omega) (by decide) ?_
  obtain ⟨J10, eJ10⟩ : ∃ J' : Nat → Nat → Int64, J' = va_up J8 k (vp_updL (J8 k) (s2 : Int).toNat (x2)) := ⟨_, rfl⟩
  refine Z.toW (w' := cW ce h pl ar G L B4 J10) (by rw [eJ10]; exact cW_setJ (by omega)) ?_
  have gJ10 : J10 k = vp_updL (J8 k) (s2 : Int).toNat (x2) := by rw [eJ10]; exact up_eq
  have fJ10 : ∀ j_, j_ ≠ k → J10 j_ = J8 j_ := fun j_ hj_ => by rw [eJ10]; exact up_ne hj_
  exact hR _ _ _ dX3_setLine_43 ⟨B4, J10, rfl, (fun j_ h_k => ((fB4 j_ h_k).trans ((e1 j_ h_k).trans rfl))), (fun j_ h_k => ((fJ10 j_ h_k).trans ((fJ8 j_ h_k).trans ((fJ6 j_ h_k).trans ((e2 j_ h_k).trans rfl))))), (BOK_s (k := k) hB (by omega) (fun j_ h_k => ((fB4 j_ h_k).trans ((e1 j_ h_k).trans rfl)))), (by assumption), (ln_mk e5 es0 es1 es2 gJ6 gJ8 gJ10)⟩

set_option maxHeartbeats 4000000 in
set_option maxRecDepth 100000 in
theorem ct_X3_copy_y (l : Launch) (D : va_G) (ce : Nat → ClassId) (h pl ar : Nat → Nat) (G : Nat → Int) (L : Nat → Nat → Int64) (B : Nat → Int) (J : Nat → Nat → Int64) (k : Nat) (kf : Nat) (hk : k < 42) (hB : BOK B) (hkf : kf < 42) : Ct l yX3_copy cX3_copy 2 none { frames := 1, cells := 0, slots := 0, locals := 40 } 0 0 D (TY ce) [.ref (pl k), .ref (pl kf)] (cW ce h pl ar G L B J) (QV D (TY ce) (fun w1 => ∃ B2 : Nat → Int, ∃ J2 : Nat → Nat → Int64, w1 = cW ce h pl ar G L B2 J2 ∧ (∀ j, j ≠ k → B2 j = B j) ∧ (∀ j, j ≠ k → J2 j = J j) ∧ (BOK B2) ∧ (B2 k = B kf) ∧ (∀ q : Int, 0 ≤ q → q < 28 → J2 k q.toNat = J kf q.toNat))) := by
  refine Ct.ofV (by decide) (Nat.le_of_ble_eq_true rfl) ?_
  intro p e s m args below meth c A Q hX hnm hR
  refine Z.pick (lv' := [(0, .ref (pl k)), (1, .ref (pl kf))]) [0, 1] rfl ?_
  have hbf := hB kf hkf
  refine Z.aload_n hX dX3_copy_0 rfl rfl ?_
  refine Z.getf hX 3 (24 + kf) 0 dX3_copy_1 (cW_pl (by omega)) rfl inX3 (by decide) fl_X3_9 rfl rfl ?_
  refine Z.iconst hX dX3_copy_4 ?_
  refine Z.aload_n hX dX3_copy_5 rfl rfl ?_
  refine Z.getf hX 3 (24 + k) 0 dX3_copy_6 (cW_pl (by omega)) rfl inX3 (by decide) fl_X3_9 rfl rfl ?_
  refine Z.iconst hX dX3_copy_9 ?_
  refine Z.bipush hX dX3_copy_10 (by decide) ?_
  refine Z.copyA hX (66 + kf) (66 + k) 1 dX3_copy_12 (cW_ar (by omega)) (cW_ar (by omega)) rfl rfl (by decide) ml_X3_32 (by decide) (Nat.le_of_ble_eq_true rfl) ?_
  obtain ⟨J1, eJ1⟩ : ∃ J' : Nat → Nat → Int64, J' = va_up J k (va_cpy (J kf) (J k) 0 0 28) := ⟨_, rfl⟩
  refine Z.toW (w' := cW ce h pl ar G L B J1) (by rw [eJ1]; exact cW_setJ (by omega)) ?_
  have gJ1 : J1 k = va_cpy (J kf) (J k) 0 0 28 := by rw [eJ1]; exact up_eq
  have fJ1 : ∀ j_, j_ ≠ k → J1 j_ = J j_ := fun j_ hj_ => by rw [eJ1]; exact up_ne hj_
  refine Z.aload_n hX dX3_copy_15 rfl rfl ?_
  refine Z.aload_n hX dX3_copy_16 rfl rfl ?_
  refine Z.getf hX 3 (24 + kf) 1 dX3_copy_17 (cW_pl (by omega)) rfl inX3 (by decide) fl_X3_15 rfl rfl ?_
  refine Z.putf (ty := .int) hX 3 (24 + k) 1 tyX3 dX3_copy_20 (cW_pl (by omega)) rfl inX3 tyX3_ok nmX3 (by decide) fl_X3_15 rfl rfl (by decide +kernel) rfl rfl (Nat.le_of_ble_eq_true rfl) ?_
  obtain ⟨B2, eB2⟩ : ∃ F' : Nat → Int, F' = va_up B k (B kf) := ⟨_, rfl⟩
  refine Z.toW (w' := cW ce h pl ar G L B2 J1) (by rw [eB2]; exact cW_setB (by omega)) ?_
  have gB2 : B2 k = B kf := by rw [eB2]; exact up_eq
  have fB2 : ∀ j_, j_ ≠ k → B2 j_ = B j_ := fun j_ hj_ => by rw [eB2]; exact up_ne hj_
  exact hR _ _ _ dX3_copy_23 ⟨B2, J1, rfl, (fun j_ h_k => ((fB2 j_ h_k).trans rfl)), (fun j_ h_k => ((fJ1 j_ h_k).trans rfl)), (BOK_s (k := k) hB (by omega) (fun j_ h_k => ((fB2 j_ h_k).trans rfl))), (by assumption), (fun q a b => by rw [gJ1]; exact cpy28 a b)⟩

set_option maxHeartbeats 4000000 in
set_option maxRecDepth 100000 in
theorem ct_X3_firstOfBound_y (l : Launch) (D : va_G) (ce : Nat → ClassId) (h pl ar : Nat → Nat) (G : Nat → Int) (L : Nat → Nat → Int64) (B : Nat → Int) (J : Nat → Nat → Int64) (k : Nat) (hk : k < 42) (hB : BOK B) : Ct l yX3_firstOfBound cX3_firstOfBound 2 (some .int) { frames := 1, cells := 0, slots := 0, locals := 21 } 0 0 D (TY ce) [.ref (pl k)] (cW ce h pl ar G L B J) (QI D (TY ce) (fun r w1 => ∃ z : Int, r = zI z ∧ w1 = cW ce h pl ar G L B J ∧ (-1 ≤ z ∧ z ≤ B k) ∧ (0 ≤ z → J k (sl (B k) + z).toNat ≠ 0) ∧ (z = -1 → deg0 (J k) (B k)))) := by
  refine Ct.ofI (by decide) (Nat.le_of_ble_eq_true rfl) ?_
  intro p e s m args below meth c A Q hX hnm hR
  refine Z.pick (lv' := [(0, .ref (pl k))]) [0] rfl ?_
  have hbk := hB k hk
  refine Z.iconst hX dX3_firstOfBound_0 ?_
  refine Z.istore_n (lv' := [(1, .int (zI 0)), (0, .ref (pl k))]) hX dX3_firstOfBound_1 rfl (by decide) rfl ?_
  have key_2 : ∀ (N : Nat), ∀ (i : Int), (B k + 1 - i).toNat < N → (hi : 0 ≤ i ∧ i ≤ B k + 1) → (hz : ∀ j : Int, 0 ≤ j → j < i → J k (sl (B k) + j).toNat = 0) → Z p l e { frames := 1, cells := 0, slots := 0, locals := 21 } s m args below meth c D A 2 0 0 Q 2 [(1, .int (zI i)), (0, .ref (pl k))] [] (cW ce h pl ar G L B J) := by
    intro N
    induction N with
    | zero => intro i hm; exact absurd hm (Nat.not_lt_zero _)
    | succ N ih_2 =>
      intro i hm hi hz
      refine Z.iload_n hX dX3_firstOfBound_2 rfl rfl ?_
      refine Z.aload_n hX dX3_firstOfBound_3 rfl rfl ?_
      refine Z.getf hX 3 (24 + k) 1 dX3_firstOfBound_4 (cW_pl (by omega)) rfl inX3 (by decide) fl_X3_15 rfl rfl ?_
      refine Z.icmp_gt hX 36 dX3_firstOfBound_7 (by decide) ⟨by omega, by omega⟩ ⟨by omega, by omega⟩ ?_ ?_
      · intro c1
        refine Z.iconst hX dX3_firstOfBound_36 ?_
        exact hR _ _ _ _ dX3_firstOfBound_37 ⟨(-1), rfl, rfl, (by omega), (fun q => by omega), (fun _ j a b => hz j a (by omega))⟩
      · intro c1
        refine Z.aload_n hX dX3_firstOfBound_10 rfl rfl ?_
        refine Z.getf hX 3 (24 + k) 0 dX3_firstOfBound_11 (cW_pl (by omega)) rfl inX3 (by decide) fl_X3_9 rfl rfl ?_
        refine Z.aload_n hX dX3_firstOfBound_14 rfl rfl ?_
        refine Z.getf hX 3 (24 + k) 1 dX3_firstOfBound_15 (cW_pl (by omega)) rfl inX3 (by decide) fl_X3_15 rfl rfl ?_
        refine Z.iload_n hX dX3_firstOfBound_18 rfl rfl ?_
        refine Z.callSNi (As := [.int (zI (B k)), .int (zI i)]) (rest := [.ref (ar k)]) hX (ct_X6_slotOf l D ce (B k) i (by omega) (by omega)) mc_X6_slotOf ns_X3_28 st_X6_slotOf ini_X6 nd_X6_slotOf ⟨Nat.le_of_ble_eq_true rfl, Nat.le_of_ble_eq_true rfl⟩ ⟨rfl, rfl⟩ ⟨Nat.le_refl _, Nat.le_refl _⟩ rfl (Nat.le_of_ble_eq_true rfl) dX3_firstOfBound_19 ?_
        rintro r_2 w1 ⟨so, hr_, hw_, eso, hso⟩
        subst hr_
        refine ⟨hw_, ?_⟩
        refine Z.laload hX (66 + k) 1 dX3_firstOfBound_22 (cW_ar (by omega)) rfl (by omega) (by omega) (by decide) ?_
        refine Z.lconst (v := 0) hX dX3_firstOfBound_23 rfl ?_
        refine Z.lcmp_eq hX 30 dX3_firstOfBound_24 dX3_firstOfBound_25 (by decide) ?_ ?_
        · intro c3
          refine Z.iinc (lv' := [(1, .int (zI (i + 1))), (0, .ref (pl k))]) hX dX3_firstOfBound_30 rfl (by decide) rfl ?_
          refine Z.goto hX 2 dX3_firstOfBound_33 (by decide) ?_
          refine Z.pick [0, 1] rfl ?_
          exact ih_2 _ (by omega) (by omega) (dg_s (by omega) (by rw [← eso]; assumption) hz)
        · intro c3
          refine Z.iload_n hX dX3_firstOfBound_28 rfl rfl ?_
          exact hR _ _ _ _ dX3_firstOfBound_29 ⟨i, rfl, rfl, (by omega), (fun _ => by rw [← eso]; assumption), (fun q => by omega)⟩
  refine Z.pick [0, 1] rfl ?_
  exact key_2 _ _ (Nat.lt_succ_self _) (by omega) (fun j a b => by omega)

set_option maxHeartbeats 4000000 in
set_option maxRecDepth 100000 in
theorem ct_X3_tighten_y (l : Launch) (D : va_G) (ce : Nat → ClassId) (h pl ar : Nat → Nat) (G : Nat → Int) (L : Nat → Nat → Int64) (B : Nat → Int) (J : Nat → Nat → Int64) (k : Nat) (hk : k < 42) (hB : BOK B) (hz : PZ (J k) (B k)) : Ct l yX3_tighten cX3_tighten 1 none { frames := 2, cells := 0, slots := 0, locals := 42 } 0 0 D (TY ce) [.ref (pl k)] (cW ce h pl ar G L B J) (QV D (TY ce) (fun w1 => ∃ B2 : Nat → Int, w1 = cW ce h pl ar G L B2 J ∧ (∀ j, j ≠ k → B2 j = B j) ∧ (BOK B2) ∧ (B2 k ≤ B k) ∧ (PZ (J k) (B2 k)) ∧ (B2 k = 0 ∨ ¬ deg0 (J k) (B2 k)))) := by
  refine Ct.ofV (by decide) (Nat.le_of_ble_eq_true rfl) ?_
  intro p e s m args below meth c A Q hX hnm hR
  refine Z.pick (lv' := [(0, .ref (pl k))]) [0] rfl ?_
  have key_0 : ∀ (N : Nat), ∀ (M : Nat → Int), (M k).toNat < N → (hM : BOK M) → (hf : ∀ j, j ≠ k → M j = B j) → (hle : M k ≤ B k) → (hpz : PZ (J k) (M k)) → Z p l e { frames := 2, cells := 0, slots := 0, locals := 42 } s m args below meth c D A 1 0 0 Q 0 [(0, .ref (pl k))] [] (cW ce h pl ar G L M J) := by
    intro N
    induction N with
    | zero => intro M hm; exact absurd hm (Nat.not_lt_zero _)
    | succ N ih_0 =>
      intro M hm hM hf hle hpz
      have hbk := hM k hk
      refine Z.aload_n hX dX3_tighten_0 rfl rfl ?_
      refine Z.getf hX 3 (24 + k) 1 dX3_tighten_1 (cW_pl (by omega)) rfl inX3 (by decide) fl_X3_15 rfl rfl ?_
      refine Z.if_le hX 27 dX3_tighten_4 (by decide) ⟨by omega, by omega⟩ ?_ ?_
      · intro c1
        exact hR _ _ _ dX3_tighten_27 ⟨M, rfl, hf, hM, hle, hpz, (by first | exact Or.inl (by omega) | exact Or.inr (fun q => f2 (by omega) (q fz (by omega) (by omega))))⟩
      · intro c1
        refine Z.aload_n hX dX3_tighten_7 rfl rfl ?_
        refine Z.callVfi (As := []) (rest := []) hX 3 (24 + k) rfl (cW_pl (by omega)) (ct_X3_firstOfBound_y l D ce h pl ar G L M J k hk hM) mc_X3_firstOfBound ml_X3_38 im_X3_firstOfBound se_X3_firstOfBound ini_X3 nd_X3_firstOfBound ⟨Nat.le_of_ble_eq_true rfl, Nat.le_of_ble_eq_true rfl⟩ ⟨rfl, rfl⟩ ⟨Nat.le_refl _, Nat.le_refl _⟩ rfl (Nat.le_of_ble_eq_true rfl) dX3_tighten_8 ?_
        rintro r_2 w1 ⟨fz, hr_, hw_, f1, f2, f3⟩
        subst hr_
        subst hw_
        refine Z.if_ge hX 27 dX3_tighten_11 (by decide) ⟨by omega, by omega⟩ ?_ ?_
        · intro c3
          exact hR _ _ _ dX3_tighten_27 ⟨M, rfl, hf, hM, hle, hpz, (by first | exact Or.inl (by omega) | exact Or.inr (fun q => f2 (by omega) (q fz (by omega) (by omega))))⟩
        · intro c3
          refine Z.aload_n hX dX3_tighten_14 rfl rfl ?_
          refine Z.dup hX dX3_tighten_15 rfl ?_
          refine Z.getf hX 3 (24 + k) 1 dX3_tighten_16 (cW_pl (by omega)) rfl inX3 (by decide) fl_X3_15 rfl rfl ?_
          refine Z.iconst hX dX3_tighten_19 ?_
          refine Z.isub hX dX3_tighten_20 ?_
          refine Z.putf (ty := .int) hX 3 (24 + k) 1 tyX3 dX3_tighten_21 (cW_pl (by omega)) rfl inX3 tyX3_ok nmX3 (by decide) fl_X3_15 rfl rfl (by decide +kernel) rfl rfl (Nat.le_of_ble_eq_true rfl) ?_
          obtain ⟨B4, eB4⟩ : ∃ F' : Nat → Int, F' = va_up M k ((M k) - 1) := ⟨_, rfl⟩
          refine Z.toW (w' := cW ce h pl ar G L B4 J) (by rw [eB4]; exact cW_setB (by omega)) ?_
          have gB4 : B4 k = (M k) - 1 := by rw [eB4]; exact up_eq
          have fB4 : ∀ j_, j_ ≠ k → B4 j_ = M j_ := fun j_ hj_ => by rw [eB4]; exact up_ne hj_
          refine Z.goto hX 0 dX3_tighten_24 (by decide) ?_
          refine Z.pick [0] rfl ?_
          exact ih_0 _ (by omega) (BOK_s (k := k) hM (by omega) (fun j_ h_k => ((fB4 j_ h_k).trans rfl))) (fun j_ h_k => ((fB4 j_ h_k).trans (hf j_ h_k))) (by omega) (by rw [gB4]; exact PZ_down hpz (f3 (by omega)))
  refine Z.pick [0] rfl ?_
  exact key_0 _ _ (Nat.lt_succ_self _) hB (fun _ _ => rfl) (Int.le_refl _) hz

set_option maxHeartbeats 4000000 in
set_option maxRecDepth 100000 in
theorem ct_X3_makePrimitive_y (l : Launch) (D : va_G) (ce : Nat → ClassId) (h pl ar : Nat → Nat) (G : Nat → Int) (L : Nat → Nat → Int64) (B : Nat → Int) (J : Nat → Nat → Int64) (k : Nat) (hk : k < 42) (hB : BOK B) (hz : PZ (J k) (B k)) : Ct l yX3_makePrimitive cX3_makePrimitive 5 none { frames := 3, cells := 0, slots := 0, locals := 62 } 0 0 D (TY ce) [.ref (pl k)] (cW ce h pl ar G L B J) (QV D (TY ce) (fun w1 => ∃ B2 : Nat → Int, ∃ J2 : Nat → Nat → Int64, w1 = cW ce h pl ar G L B2 J2 ∧ (∀ j, j ≠ k → B2 j = B j) ∧ (∀ j, j ≠ k → J2 j = J j) ∧ (BOK B2) ∧ (B2 k ≤ B k) ∧ (PZ (J k) (B2 k)) ∧ (B2 k = 0 ∨ ¬ deg0 (J k) (B2 k)))) := by
  refine Ct.ofV (by decide) (Nat.le_of_ble_eq_true rfl) ?_
  intro p e s m args below meth c A Q hX hnm hR
  refine Z.pick (lv' := [(0, .ref (pl k))]) [0] rfl ?_
  refine Z.aload_n hX dX3_makePrimitive_0 rfl rfl ?_
  refine Z.callVfv (As := []) (rest := []) hX 3 (24 + k) rfl (cW_pl (by omega)) (ct_X3_tighten_y l D ce h pl ar G L B J k hk hB hz) mc_X3_tighten ml_X3_42 im_X3_tighten se_X3_tighten ini_X3 nd_X3_tighten ⟨Nat.le_of_ble_eq_true rfl, Nat.le_of_ble_eq_true rfl⟩ ⟨rfl, rfl⟩ ⟨Nat.le_refl _, Nat.le_refl _⟩ rfl (Nat.le_of_ble_eq_true rfl) dX3_makePrimitive_1 ?_
  rintro w1 ⟨Bt, hw_, ht1, ht2, ht3, ht4, ht5⟩
  subst hw_
  refine Z.aload_n hX dX3_makePrimitive_4 rfl rfl ?_
  refine Z.callVfi (As := []) (rest := []) hX 3 (24 + k) rfl (cW_pl (by omega)) (ct_X3_firstOfBound l D ce h pl ar G L Bt J k hk ht2) mc_X3_firstOfBound ml_X3_38 im_X3_firstOfBound se_X3_firstOfBound ini_X3 nd_X3_firstOfBound ⟨Nat.le_of_ble_eq_true rfl, Nat.le_of_ble_eq_true rfl⟩ ⟨rfl, rfl⟩ ⟨Nat.le_refl _, Nat.le_refl _⟩ rfl (Nat.le_of_ble_eq_true rfl) dX3_makePrimitive_5 ?_
  rintro r_2 w1 ⟨fb, hr_, hw_, hfb⟩
  subst hr_
  subst hw_
  have hbk := ht2 k hk
  refine Z.istore_n (lv' := [(1, .int (zI fb)), (0, .ref (pl k))]) hX dX3_makePrimitive_8 rfl (by decide) rfl ?_
  refine Z.lconst (v := 0) hX dX3_makePrimitive_9 rfl ?_
  refine Z.lstore_n (lv' := [(2, .long 0), (1, .int (zI fb)), (0, .ref (pl k))]) hX dX3_makePrimitive_10 rfl (by decide) rfl ?_
  refine Z.iconst hX dX3_makePrimitive_11 ?_
  refine Z.istore (lv' := [(4, .int (zI 0)), (2, .long 0), (1, .int (zI fb)), (0, .ref (pl k))]) hX dX3_makePrimitive_12 (by decide) rfl ?_
  have key_14 : ∀ (N : Nat), ∀ (i : Int) (x : Int64), (28 - i).toNat < N → (hi : 0 ≤ i ∧ i ≤ 28) → Z p l e { frames := 3, cells := 0, slots := 0, locals := 62 } s m args below meth c D A 5 0 0 Q 14 [(4, .int (zI i)), (2, .long x), (1, .int (zI fb)), (0, .ref (pl k))] [] (cW ce h pl ar G L Bt J) := by
    intro N
    induction N with
    | zero => intro i x hm; exact absurd hm (Nat.not_lt_zero _)
    | succ N ih_14 =>
      intro i x hm hi
      refine Z.iload hX dX3_makePrimitive_14 rfl ?_
      refine Z.bipush hX dX3_makePrimitive_16 (by decide) ?_
      refine Z.icmp_ge hX 39 dX3_makePrimitive_18 (by decide) ⟨by omega, by omega⟩ ⟨by omega, by omega⟩ ?_ ?_
      · intro c3
        refine Z.iload_n hX dX3_makePrimitive_39 rfl rfl ?_
        refine Z.if_lt hX 49 dX3_makePrimitive_40 (by decide) ⟨by omega, by omega⟩ ?_ ?_
        · intro c4
          exact hR _ _ _ dX3_makePrimitive_49 ⟨Bt, J, rfl, ht1, (fun _ _ => rfl), ht2, ht3, ht4, ht5⟩
        · intro c4
          refine Z.lload_n hX dX3_makePrimitive_43 rfl rfl ?_
          refine Z.lconst (v := 0) hX dX3_makePrimitive_44 rfl ?_
          refine Z.lcmp_ne hX 50 dX3_makePrimitive_45 dX3_makePrimitive_46 (by decide) ?_ ?_
          · intro c5
            have key_71 : ∀ (y : Int64), (hy0 : ¬ y = 0) → Z p l e { frames := 3, cells := 0, slots := 0, locals := 62 } s m args below meth c D A 5 0 0 Q 71 [(2, .long y), (0, .ref (pl k))] [] (cW ce h pl ar G L Bt J) := by
              intro y hy0
              refine Z.iconst hX dX3_makePrimitive_71 ?_
              refine Z.istore (lv' := [(4, .int (zI 0)), (2, .long y), (0, .ref (pl k))]) hX dX3_makePrimitive_72 (by decide) rfl ?_
              have key_74 : ∀ (N : Nat), ∀ (i : Int) (M : Nat → Nat → Int64), (28 - i).toNat < N → (hi2 : 0 ≤ i ∧ i ≤ 28) → (hM : ∀ j, j ≠ k → M j = J j) → Z p l e { frames := 3, cells := 0, slots := 0, locals := 62 } s m args below meth c D A 5 0 0 Q 74 [(4, .int (zI i)), (2, .long y), (0, .ref (pl k))] [] (cW ce h pl ar G L Bt M) := by
                intro N
                induction N with
                | zero => intro i M hm; exact absurd hm (Nat.not_lt_zero _)
                | succ N ih_74 =>
                  intro i M hm hi2 hM
                  refine Z.iload hX dX3_makePrimitive_74 rfl ?_
                  refine Z.bipush hX dX3_makePrimitive_76 (by decide) ?_
                  refine Z.icmp_ge hX 98 dX3_makePrimitive_78 (by decide) ⟨by omega, by omega⟩ ⟨by omega, by omega⟩ ?_ ?_
                  · intro c6
                    exact hR _ _ _ dX3_makePrimitive_98 ⟨Bt, M, rfl, ht1, hM, ht2, ht3, ht4, ht5⟩
                  · intro c6
                    refine Z.aload_n hX dX3_makePrimitive_81 rfl rfl ?_
                    refine Z.getf hX 3 (24 + k) 0 dX3_makePrimitive_82 (cW_pl (by omega)) rfl inX3 (by decide) fl_X3_9 rfl rfl ?_
                    refine Z.iload hX dX3_makePrimitive_85 rfl ?_
                    refine Z.dup2 hX dX3_makePrimitive_87 rfl rfl ?_
                    refine Z.laload hX (66 + k) 1 dX3_makePrimitive_88 (cW_ar (by omega)) rfl (by omega) (by omega) (by decide) ?_
                    refine Z.lload_n hX dX3_makePrimitive_89 rfl rfl ?_
                    refine Z.ldiv hX dX3_makePrimitive_90 hy0 ?_
                    refine Z.lastore hX (66 + k) 1 dX3_makePrimitive_91 (cW_ar (by omega)) rfl (by omega) (by omega) (by decide) ?_
                    obtain ⟨J7, eJ7⟩ : ∃ J' : Nat → Nat → Int64, J' = va_up M k (vp_updL (M k) (i : Int).toNat ((M k (i : Int).toNat) / y)) := ⟨_, rfl⟩
                    refine Z.toW (w' := cW ce h pl ar G L Bt J7) (by rw [eJ7]; exact cW_setJ (by omega)) ?_
                    have gJ7 : J7 k = vp_updL (M k) (i : Int).toNat ((M k (i : Int).toNat) / y) := by rw [eJ7]; exact up_eq
                    have fJ7 : ∀ j_, j_ ≠ k → J7 j_ = M j_ := fun j_ hj_ => by rw [eJ7]; exact up_ne hj_
                    refine Z.iinc (lv' := [(4, .int (zI (i + 1))), (2, .long y), (0, .ref (pl k))]) hX dX3_makePrimitive_92 rfl (by decide) rfl ?_
                    refine Z.goto hX 74 dX3_makePrimitive_95 (by decide) ?_
                    refine Z.pick [0, 1, 2] rfl ?_
                    exact ih_74 _ _ (by omega) (by omega) (fun j_ h_k => ((fJ7 j_ h_k).trans (hM j_ h_k)))
              refine Z.pick [0, 1, 2] rfl ?_
              exact key_74 _ _ _ (Nat.lt_succ_self _) (by omega) (fun _ _ => rfl)
            refine Z.aload_n hX dX3_makePrimitive_50 rfl rfl ?_
            refine Z.getf hX 3 (24 + k) 0 dX3_makePrimitive_51 (cW_pl (by omega)) rfl inX3 (by decide) fl_X3_9 rfl rfl ?_
            refine Z.aload_n hX dX3_makePrimitive_54 rfl rfl ?_
            refine Z.getf hX 3 (24 + k) 1 dX3_makePrimitive_55 (cW_pl (by omega)) rfl inX3 (by decide) fl_X3_15 rfl rfl ?_
            refine Z.iload_n hX dX3_makePrimitive_58 rfl rfl ?_
            refine Z.callSNi (As := [.int (zI (Bt k)), .int (zI fb)]) (rest := [.ref (ar k)]) hX (ct_X6_slotOf l D ce (Bt k) fb (by omega) (by omega)) mc_X6_slotOf ns_X3_28 st_X6_slotOf ini_X6 nd_X6_slotOf ⟨Nat.le_of_ble_eq_true rfl, Nat.le_of_ble_eq_true rfl⟩ ⟨rfl, rfl⟩ ⟨Nat.le_refl _, Nat.le_refl _⟩ rfl (Nat.le_of_ble_eq_true rfl) dX3_makePrimitive_59 ?_
            rintro r_8 w1 ⟨z9, hr_, hw_, hq10, hq11⟩
            subst hr_
            refine ⟨hw_, ?_⟩
            refine Z.laload hX (66 + k) 1 dX3_makePrimitive_62 (cW_ar (by omega)) rfl (by omega) (by omega) (by decide) ?_
            refine Z.lconst (v := 0) hX dX3_makePrimitive_63 rfl ?_
            refine Z.lcmp_ge hX 71 dX3_makePrimitive_64 dX3_makePrimitive_65 (by decide) ?_ ?_
            · intro c12
              refine Z.pick [1, 3] rfl ?_
              exact key_71 _ (by omega)
            · intro c12
              refine Z.lload_n hX dX3_makePrimitive_68 rfl rfl ?_
              refine Z.lneg hX dX3_makePrimitive_69 ?_
              refine Z.lstore_n (lv' := [(2, .long (-x)), (4, .int (zI i)), (1, .int (zI fb)), (0, .ref (pl k))]) hX dX3_makePrimitive_70 rfl (by decide) rfl ?_
              refine Z.pick [0, 3] rfl ?_
              exact key_71 _ (tl_n (by assumption))
          · intro c5
            exact hR _ _ _ dX3_makePrimitive_49 ⟨Bt, J, rfl, ht1, (fun _ _ => rfl), ht2, ht3, ht4, ht5⟩
      · intro c3
        refine Z.lload_n hX dX3_makePrimitive_21 rfl rfl ?_
        refine Z.aload_n hX dX3_makePrimitive_22 rfl rfl ?_
        refine Z.getf hX 3 (24 + k) 0 dX3_makePrimitive_23 (cW_pl (by omega)) rfl inX3 (by decide) fl_X3_9 rfl rfl ?_
        refine Z.iload hX dX3_makePrimitive_26 rfl ?_
        refine Z.laload hX (66 + k) 1 dX3_makePrimitive_28 (cW_ar (by omega)) rfl (by omega) (by omega) (by decide) ?_
        refine Z.callSNl (As := [.long x, .long (J k (i : Int).toNat)]) (rest := []) hX (ct_X6_commonOf l D ce x (J k (i : Int).toNat) ) mc_X6_commonOf ns_X3_45 st_X6_commonOf ini_X6 nd_X6_commonOf ⟨Nat.le_of_ble_eq_true rfl, Nat.le_of_ble_eq_true rfl⟩ ⟨rfl, rfl⟩ ⟨Nat.le_refl _, Nat.le_refl _⟩ rfl (Nat.le_of_ble_eq_true rfl) dX3_makePrimitive_29 ?_
        rintro r_13 w1 ⟨r014, hr_, hw_, hq15⟩
        subst hr_
        refine ⟨hw_, ?_⟩
        refine Z.lstore_n (lv' := [(2, .long r_13), (4, .int (zI i)), (1, .int (zI fb)), (0, .ref (pl k))]) hX dX3_makePrimitive_32 rfl (by decide) rfl ?_
        refine Z.iinc (lv' := [(4, .int (zI (i + 1))), (2, .long r_13), (1, .int (zI fb)), (0, .ref (pl k))]) hX dX3_makePrimitive_33 rfl (by decide) rfl ?_
        refine Z.goto hX 14 dX3_makePrimitive_36 (by decide) ?_
        refine Z.pick [0, 1, 2, 3] rfl ?_
        exact ih_14 _ _ (by omega) (by omega)
  refine Z.pick [0, 1, 2, 3] rfl ?_
  exact key_14 _ _ _ (Nat.lt_succ_self _) (by omega)

set_option maxHeartbeats 4000000 in
set_option maxRecDepth 100000 in
theorem ct_X3_addProduct_y (l : Launch) (D : va_G) (ce : Nat → ClassId) (h pl ar : Nat → Nat) (G : Nat → Int) (L : Nat → Nat → Int64) (B : Nat → Int) (J : Nat → Nat → Int64) (k : Nat) (ka kb : Nat) (fac : Int64) (hk : k < 42) (hB : BOK B) (hka : ka < 42 ∧ ka ≠ k) (hkb : kb < 42 ∧ kb ≠ k) (hza : PZ (J ka) (B ka)) (hzb : PZ (J kb) (B kb)) (hzk : PZ (J k) (B k)) (h6 : B ka + B kb ≤ 6) : Ct l yX3_addProduct cX3_addProduct 15 none { frames := 1, cells := 0, slots := 0, locals := 21 } 0 0 D (TY ce) [.ref (pl k), .ref (pl ka), .ref (pl kb), .long fac] (cW ce h pl ar G L B J) (QV D (TY ce) (fun w1 => ∃ B2 : Nat → Int, ∃ J2 : Nat → Nat → Int64, w1 = cW ce h pl ar G L B2 J2 ∧ (∀ j, j ≠ k → B2 j = B j) ∧ (∀ j, j ≠ k → J2 j = J j) ∧ (BOK B2) ∧ (CG (pw ixs (J2 k) 28) (fun z => pw ixs (J k) 28 z + fac.toInt * pw ixs (J ka) 28 z * pw ixs (J kb) 28 z)) ∧ (PZ (J2 k) (B2 k)) ∧ (B2 k = if B k < B ka + B kb then B ka + B kb else B k))) := by
  refine Ct.ofV (by decide) (Nat.le_of_ble_eq_true rfl) ?_
  intro p e s m args below meth c A Q hX hnm hR
  refine Z.pick (lv' := [(0, .ref (pl k)), (1, .ref (pl ka)), (2, .ref (pl kb)), (3, .long fac)]) [0, 1, 2, 3] rfl ?_
  have hbk := hB k hk
  have hba := hB ka hka.1
  have hbb := hB kb hkb.1
  have hPb := Pf_pw ixs (J kb) 28
  refine Z.aload_n hX dX3_addProduct_0 rfl rfl ?_
  refine Z.getf hX 3 (24 + ka) 1 dX3_addProduct_1 (cW_pl (by omega)) rfl inX3 (by decide) fl_X3_15 rfl rfl ?_
  refine Z.aload_n hX dX3_addProduct_4 rfl rfl ?_
  refine Z.getf hX 3 (24 + kb) 1 dX3_addProduct_5 (cW_pl (by omega)) rfl inX3 (by decide) fl_X3_15 rfl rfl ?_
  refine Z.iadd hX dX3_addProduct_8 ?_
  refine Z.istore (lv' := [(5, .int (zI ((B ka) + (B kb)))), (0, .ref (pl k)), (1, .ref (pl ka)), (2, .ref (pl kb)), (3, .long fac)]) hX dX3_addProduct_9 (by decide) rfl ?_
  refine Z.iload hX dX3_addProduct_11 rfl ?_
  refine Z.bipush hX dX3_addProduct_13 (by decide) ?_
  refine Z.icmp_le hX 19 dX3_addProduct_15 (by decide) ⟨by omega, by omega⟩ ⟨by omega, by omega⟩ ?_ ?_
  · intro c1
    have key_38 : ∀ (v : Int), (hv : 0 ≤ v ∧ v ≤ 6) → (hve : v = if B k < B ka + B kb then B ka + B kb else B k) → Z p l e { frames := 1, cells := 0, slots := 0, locals := 21 } s m args below meth c D A 15 0 0 Q 38 [(5, .int (zI (B ka + B kb))), (3, .long fac), (2, .ref (pl kb)), (1, .ref (pl ka)), (0, .ref (pl k))] [.int (zI v), .ref (pl k)] (cW ce h pl ar G L B J) := by
      intro v hv hve
      have hvk : B k ≤ v ∧ B ka + B kb ≤ v := by rw [hve]; split <;> omega
      refine Z.putf (ty := .int) hX 3 (24 + k) 1 tyX3 dX3_addProduct_38 (cW_pl (by omega)) rfl inX3 tyX3_ok nmX3 (by decide) fl_X3_15 rfl rfl (by decide +kernel) rfl rfl (Nat.le_of_ble_eq_true rfl) ?_
      obtain ⟨B2, eB2⟩ : ∃ F' : Nat → Int, F' = va_up B k (v) := ⟨_, rfl⟩
      refine Z.toW (w' := cW ce h pl ar G L B2 J) (by rw [eB2]; exact cW_setB (by omega)) ?_
      have gB2 : B2 k = v := by rw [eB2]; exact up_eq
      have fB2 : ∀ j_, j_ ≠ k → B2 j_ = B j_ := fun j_ hj_ => by rw [eB2]; exact up_ne hj_
      have eka : B2 ka = B ka := fB2 ka hka.2
      have ekb : B2 kb = B kb := fB2 kb hkb.2
      refine Z.iconst hX dX3_addProduct_41 ?_
      refine Z.istore (lv' := [(6, .int (zI 0)), (5, .int (zI (B ka + B kb))), (3, .long fac), (2, .ref (pl kb)), (1, .ref (pl ka)), (0, .ref (pl k))]) hX dX3_addProduct_42 (by decide) rfl ?_
      have key_44 : ∀ (N : Nat), ∀ (d : Int) (M : Nat → Nat → Int64), (B ka + 1 - d).toNat < N → (hd : 0 ≤ d ∧ d ≤ B ka + 1) → (hM : ∀ j, j ≠ k → M j = J j) → (hpz : PZ (M k) v) → (hC : CG (pw ixs (M k) 28) (ApF (pw ixs (J k) 28) fac.toInt (J ka) (sl d) (pw ixs (J kb) 28))) → Z p l e { frames := 1, cells := 0, slots := 0, locals := 21 } s m args below meth c D A 15 0 0 Q 44 [(6, .int (zI d)), (5, .int (zI (B ka + B kb))), (3, .long fac), (2, .ref (pl kb)), (1, .ref (pl ka)), (0, .ref (pl k))] [] (cW ce h pl ar G L B2 M) := by
        intro N
        induction N with
        | zero => intro d M hm; exact absurd hm (Nat.not_lt_zero _)
        | succ N ih_44 =>
          intro d M hm hd hM hpz hC
          refine Z.iload hX dX3_addProduct_44 rfl ?_
          refine Z.aload_n hX dX3_addProduct_46 rfl rfl ?_
          refine Z.getf hX 3 (24 + ka) 1 dX3_addProduct_47 (cW_pl (by omega)) rfl inX3 (by decide) fl_X3_15 rfl rfl ?_
          refine Z.icmp_gt hX 186 dX3_addProduct_50 (by decide) ⟨by omega, by omega⟩ ⟨by omega, by omega⟩ ?_ ?_
          · intro c3
            exact hR _ _ _ dX3_addProduct_186 ⟨B2, M, rfl, (fun j_ h_k => ((fB2 j_ h_k).trans rfl)), hM, (BOK_s (k := k) hB (by omega) (fun j_ h_k => ((fB2 j_ h_k).trans rfl))), (ap_end (by omega) hza (by rw [show B ka + 1 = d by omega]; exact hC)), (by rw [gB2]; exact hpz), (by rw [gB2]; exact hve)⟩
          · intro c3
            refine Z.iconst hX dX3_addProduct_53 ?_
            refine Z.istore (lv' := [(7, .int (zI 0)), (6, .int (zI d)), (5, .int (zI (B ka + B kb))), (3, .long fac), (2, .ref (pl kb)), (1, .ref (pl ka)), (0, .ref (pl k))]) hX dX3_addProduct_54 (by decide) rfl ?_
            have key_56 : ∀ (N : Nat), ∀ (j : Int) (M : Nat → Nat → Int64), (d + 1 - j).toNat < N → (hj : 0 ≤ j ∧ j ≤ d + 1) → (hM : ∀ j, j ≠ k → M j = J j) → (hpz : PZ (M k) v) → (hC2 : CG (pw ixs (M k) 28) (ApF (pw ixs (J k) 28) fac.toInt (J ka) (sl d + j) (pw ixs (J kb) 28))) → Z p l e { frames := 1, cells := 0, slots := 0, locals := 21 } s m args below meth c D A 15 0 0 Q 56 [(7, .int (zI j)), (6, .int (zI d)), (5, .int (zI (B ka + B kb))), (3, .long fac), (2, .ref (pl kb)), (1, .ref (pl ka)), (0, .ref (pl k))] [] (cW ce h pl ar G L B2 M) := by
              intro N
              induction N with
              | zero => intro j M hm; exact absurd hm (Nat.not_lt_zero _)
              | succ N ih_56 =>
                intro j M hm hj hM hpz hC2
                have hsd := sl_b (d := d) (by omega)
                refine Z.iload hX dX3_addProduct_56 rfl ?_
                refine Z.iload hX dX3_addProduct_58 rfl ?_
                refine Z.icmp_gt hX 180 dX3_addProduct_60 (by decide) ⟨by omega, by omega⟩ ⟨by omega, by omega⟩ ?_ ?_
                · intro c4
                  refine Z.iinc (lv' := [(6, .int (zI (d + 1))), (7, .int (zI j)), (5, .int (zI (B ka + B kb))), (3, .long fac), (2, .ref (pl kb)), (1, .ref (pl ka)), (0, .ref (pl k))]) hX dX3_addProduct_180 rfl (by decide) rfl ?_
                  refine Z.goto hX 44 dX3_addProduct_183 (by decide) ?_
                  refine Z.pick [0, 2, 3, 4, 5, 6] rfl ?_
                  exact ih_44 _ _ (by omega) (by omega) hM hpz (by rw [sl_s, show sl d + (d + 1) = sl d + j by omega]; exact hC2)
                · intro c4
                  refine Z.lload_n hX dX3_addProduct_63 rfl rfl ?_
                  refine Z.aload_n hX dX3_addProduct_64 rfl rfl ?_
                  refine Z.getf hX 3 (24 + ka) 0 dX3_addProduct_65 (cW_pl (by omega)) rfl inX3 (by decide) fl_X3_9 rfl rfl ?_
                  refine Z.iload hX dX3_addProduct_68 rfl ?_
                  refine Z.iload hX dX3_addProduct_70 rfl ?_
                  refine Z.callSNi (As := [.int (zI d), .int (zI j)]) (rest := [.ref (ar ka), .long fac]) hX (ct_X6_slotOf l D ce d j (by omega) (by omega)) mc_X6_slotOf ns_X3_28 st_X6_slotOf ini_X6 nd_X6_slotOf ⟨Nat.le_of_ble_eq_true rfl, Nat.le_of_ble_eq_true rfl⟩ ⟨rfl, rfl⟩ ⟨Nat.le_refl _, Nat.le_refl _⟩ rfl (Nat.le_of_ble_eq_true rfl) dX3_addProduct_72 ?_
                  rintro r_5 w1 ⟨s1, hr_, hw_, es1, hs1⟩
                  subst hr_
                  refine ⟨hw_, ?_⟩
                  refine Z.laload hX (66 + ka) 1 dX3_addProduct_75 (cW_ar (by omega)) rfl (by omega) (by omega) (by decide) ?_
                  refine Z.lmul hX dX3_addProduct_76 ?_
                  refine Z.lstore (lv' := [(8, .long (fac * (M ka (s1 : Int).toNat))), (7, .int (zI j)), (6, .int (zI d)), (5, .int (zI (B ka + B kb))), (3, .long fac), (2, .ref (pl kb)), (1, .ref (pl ka)), (0, .ref (pl k))]) hX dX3_addProduct_77 (by decide) rfl ?_
                  rw [hM ka hka.2]
                  obtain ⟨mu, emu⟩ : ∃ x : Int64, x = fac * (J ka (s1 : Int).toNat) := ⟨_, rfl⟩
                  rw [← emu]
                  have key_94 : ∀ (la : Int), (hla : -1 ≤ la ∧ la ≤ B kb) → (hlm : mu = 0 ∨ la = B kb) → Z p l e { frames := 1, cells := 0, slots := 0, locals := 21 } s m args below meth c D A 15 0 0 Q 94 [(8, .long mu), (7, .int (zI j)), (6, .int (zI d)), (5, .int (zI (B ka + B kb))), (3, .long fac), (2, .ref (pl kb)), (1, .ref (pl ka)), (0, .ref (pl k))] [.int (zI la)] (cW ce h pl ar G L B2 M) := by
                    intro la hla hlm
                    refine Z.istore (lv' := [(10, .int (zI la)), (8, .long mu), (7, .int (zI j)), (6, .int (zI d)), (5, .int (zI (B ka + B kb))), (3, .long fac), (2, .ref (pl kb)), (1, .ref (pl ka)), (0, .ref (pl k))]) hX dX3_addProduct_94 (by decide) rfl ?_
                    refine Z.iconst hX dX3_addProduct_96 ?_
                    refine Z.istore (lv' := [(11, .int (zI 0)), (10, .int (zI la)), (8, .long mu), (7, .int (zI j)), (6, .int (zI d)), (5, .int (zI (B ka + B kb))), (3, .long fac), (2, .ref (pl kb)), (1, .ref (pl ka)), (0, .ref (pl k))]) hX dX3_addProduct_97 (by decide) rfl ?_
                    have key_99 : ∀ (N : Nat), ∀ (ev : Int) (M : Nat → Nat → Int64), (B kb + 1 - ev).toNat < N → (hev : 0 ≤ ev ∧ ev ≤ la + 1) → (hM : ∀ j, j ≠ k → M j = J j) → (hpz : PZ (M k) v) → (hC3 : CG (pw ixs (M k) 28) (fun z => ApF (pw ixs (J k) 28) fac.toInt (J ka) (sl d + j) (pw ixs (J kb) 28) z + mu.toInt * z ^ (ixs (sl d + j).toNat) * pw ixs (J kb) (sl ev).toNat z)) → Z p l e { frames := 1, cells := 0, slots := 0, locals := 21 } s m args below meth c D A 15 0 0 Q 99 [(11, .int (zI ev)), (10, .int (zI la)), (8, .long mu), (7, .int (zI j)), (6, .int (zI d)), (5, .int (zI (B ka + B kb))), (3, .long fac), (2, .ref (pl kb)), (1, .ref (pl ka)), (0, .ref (pl k))] [] (cW ce h pl ar G L B2 M) := by
                      intro N
                      induction N with
                      | zero => intro ev M hm; exact absurd hm (Nat.not_lt_zero _)
                      | succ N ih_99 =>
                        intro ev M hm hev hM hpz hC3
                        refine Z.iload hX dX3_addProduct_99 rfl ?_
                        refine Z.iload hX dX3_addProduct_101 rfl ?_
                        refine Z.icmp_gt hX 174 dX3_addProduct_103 (by decide) ⟨by omega, by omega⟩ ⟨by omega, by omega⟩ ?_ ?_
                        · intro c6
                          refine Z.iinc (lv' := [(7, .int (zI (j + 1))), (11, .int (zI ev)), (10, .int (zI la)), (8, .long mu), (6, .int (zI d)), (5, .int (zI (B ka + B kb))), (3, .long fac), (2, .ref (pl kb)), (1, .ref (pl ka)), (0, .ref (pl k))]) hX dX3_addProduct_174 rfl (by decide) rfl ?_
                          refine Z.goto hX 56 dX3_addProduct_177 (by decide) ?_
                          refine Z.pick [0, 4, 5, 6, 7, 8, 9] rfl ?_
                          exact ih_56 _ _ (by omega) (by omega) hM hpz (by rw [← Int.add_assoc]; exact ap_j (by omega) hPb (by rw [emu, es1]) (ap_el (by omega) hzb (by omega) hlm hC3))
                        · intro c6
                          refine Z.iload hX dX3_addProduct_106 rfl ?_
                          refine Z.iconst hX dX3_addProduct_108 ?_
                          refine Z.callSNi (As := [.int (zI ev), .int (zI 0)]) (rest := []) hX (ct_X6_slotOf l D ce ev 0 (by omega) (by omega)) mc_X6_slotOf ns_X3_28 st_X6_slotOf ini_X6 nd_X6_slotOf ⟨Nat.le_of_ble_eq_true rfl, Nat.le_of_ble_eq_true rfl⟩ ⟨rfl, rfl⟩ ⟨Nat.le_refl _, Nat.le_refl _⟩ rfl (Nat.le_of_ble_eq_true rfl) dX3_addProduct_109 ?_
                          rintro r_7 w1 ⟨s2, hr_, hw_, es2, hs2⟩
                          subst hr_
                          refine ⟨hw_, ?_⟩
                          subst es2
                          refine Z.istore (lv' := [(12, .int (zI (sl ev + 0))), (11, .int (zI ev)), (10, .int (zI la)), (8, .long mu), (7, .int (zI j)), (6, .int (zI d)), (5, .int (zI (B ka + B kb))), (3, .long fac), (2, .ref (pl kb)), (1, .ref (pl ka)), (0, .ref (pl k))]) hX dX3_addProduct_112 (by decide) rfl ?_
                          refine Z.iload hX dX3_addProduct_114 rfl ?_
                          refine Z.iload hX dX3_addProduct_116 rfl ?_
                          refine Z.iadd hX dX3_addProduct_118 ?_
                          refine Z.iload hX dX3_addProduct_119 rfl ?_
                          refine Z.callSNi (As := [.int (zI (d + ev)), .int (zI j)]) (rest := []) hX (ct_X6_slotOf l D ce (d + ev) j (by omega) (by omega)) mc_X6_slotOf ns_X3_28 st_X6_slotOf ini_X6 nd_X6_slotOf ⟨Nat.le_of_ble_eq_true rfl, Nat.le_of_ble_eq_true rfl⟩ ⟨rfl, rfl⟩ ⟨Nat.le_refl _, Nat.le_refl _⟩ rfl (Nat.le_of_ble_eq_true rfl) dX3_addProduct_121 ?_
                          rintro r_8 w1 ⟨s3, hr_, hw_, es3, hs3⟩
                          subst hr_
                          refine ⟨hw_, ?_⟩
                          subst es3
                          refine Z.istore (lv' := [(13, .int (zI (sl (d + ev) + j))), (12, .int (zI (sl ev + 0))), (11, .int (zI ev)), (10, .int (zI la)), (8, .long mu), (7, .int (zI j)), (6, .int (zI d)), (5, .int (zI (B ka + B kb))), (3, .long fac), (2, .ref (pl kb)), (1, .ref (pl ka)), (0, .ref (pl k))]) hX dX3_addProduct_124 (by decide) rfl ?_
                          refine Z.iconst hX dX3_addProduct_126 ?_
                          refine Z.istore (lv' := [(14, .int (zI 0)), (13, .int (zI (sl (d + ev) + j))), (12, .int (zI (sl ev + 0))), (11, .int (zI ev)), (10, .int (zI la)), (8, .long mu), (7, .int (zI j)), (6, .int (zI d)), (5, .int (zI (B ka + B kb))), (3, .long fac), (2, .ref (pl kb)), (1, .ref (pl ka)), (0, .ref (pl k))]) hX dX3_addProduct_127 (by decide) rfl ?_
                          have key_129 : ∀ (N : Nat), ∀ (q : Int) (M : Nat → Nat → Int64), (ev + 1 - q).toNat < N → (hq : 0 ≤ q ∧ q ≤ ev + 1) → (hM : ∀ j, j ≠ k → M j = J j) → (hpz : PZ (M k) v) → (hC4 : CG (pw ixs (M k) 28) (fun z => ApF (pw ixs (J k) 28) fac.toInt (J ka) (sl d + j) (pw ixs (J kb) 28) z + mu.toInt * z ^ (ixs (sl d + j).toNat) * pw ixs (J kb) (sl ev + q).toNat z)) → Z p l e { frames := 1, cells := 0, slots := 0, locals := 21 } s m args below meth c D A 15 0 0 Q 129 [(14, .int (zI q)), (13, .int (zI (sl (d + ev) + j))), (12, .int (zI (sl ev + 0))), (11, .int (zI ev)), (10, .int (zI la)), (8, .long mu), (7, .int (zI j)), (6, .int (zI d)), (5, .int (zI (B ka + B kb))), (3, .long fac), (2, .ref (pl kb)), (1, .ref (pl ka)), (0, .ref (pl k))] [] (cW ce h pl ar G L B2 M) := by
                            intro N
                            induction N with
                            | zero => intro q M hm; exact absurd hm (Nat.not_lt_zero _)
                            | succ N ih_129 =>
                              intro q M hm hq hM hpz hC4
                              refine Z.iload hX dX3_addProduct_129 rfl ?_
                              refine Z.iload hX dX3_addProduct_131 rfl ?_
                              refine Z.icmp_gt hX 168 dX3_addProduct_133 (by decide) ⟨by omega, by omega⟩ ⟨by omega, by omega⟩ ?_ ?_
                              · intro c9
                                refine Z.iinc (lv' := [(11, .int (zI (ev + 1))), (14, .int (zI q)), (13, .int (zI (sl (d + ev) + j))), (12, .int (zI (sl ev + 0))), (10, .int (zI la)), (8, .long mu), (7, .int (zI j)), (6, .int (zI d)), (5, .int (zI (B ka + B kb))), (3, .long fac), (2, .ref (pl kb)), (1, .ref (pl ka)), (0, .ref (pl k))]) hX dX3_addProduct_168 rfl (by decide) rfl ?_
                                refine Z.goto hX 99 dX3_addProduct_171 (by decide) ?_
                                refine Z.pick [0, 4, 5, 6, 7, 8, 9, 10, 11, 12] rfl ?_
                                exact ih_99 _ _ (by omega) (by omega) hM hpz (by rw [sl_s, show sl ev + (ev + 1) = sl ev + q by omega]; exact hC4)
                              · intro c9
                                refine Z.aload_n hX dX3_addProduct_136 rfl rfl ?_
                                refine Z.getf hX 3 (24 + k) 0 dX3_addProduct_137 (cW_pl (by omega)) rfl inX3 (by decide) fl_X3_9 rfl rfl ?_
                                refine Z.iload hX dX3_addProduct_140 rfl ?_
                                refine Z.iload hX dX3_addProduct_142 rfl ?_
                                refine Z.iadd hX dX3_addProduct_144 ?_
                                refine Z.dup2 hX dX3_addProduct_145 rfl rfl ?_
                                refine Z.laload hX (66 + k) 1 dX3_addProduct_146 (cW_ar (by omega)) rfl (by omega) (by omega) (by decide) ?_
                                refine Z.lload hX dX3_addProduct_147 rfl ?_
                                refine Z.aload_n hX dX3_addProduct_149 rfl rfl ?_
                                refine Z.getf hX 3 (24 + kb) 0 dX3_addProduct_150 (cW_pl (by omega)) rfl inX3 (by decide) fl_X3_9 rfl rfl ?_
                                refine Z.iload hX dX3_addProduct_153 rfl ?_
                                refine Z.iload hX dX3_addProduct_155 rfl ?_
                                refine Z.iadd hX dX3_addProduct_157 ?_
                                refine Z.laload hX (66 + kb) 1 dX3_addProduct_158 (cW_ar (by omega)) rfl (by omega) (by omega) (by decide) ?_
                                refine Z.lmul hX dX3_addProduct_159 ?_
                                refine Z.ladd hX dX3_addProduct_160 ?_
                                refine Z.lastore hX (66 + k) 1 dX3_addProduct_161 (cW_ar (by omega)) rfl (by omega) (by omega) (by decide) ?_
                                obtain ⟨J10, eJ10⟩ : ∃ J' : Nat → Nat → Int64, J' = va_up M k (vp_updL (M k) ((sl (d + ev) + j) + q : Int).toNat ((M k ((sl (d + ev) + j) + q : Int).toNat) + (mu * (M kb ((sl ev + 0) + q : Int).toNat)))) := ⟨_, rfl⟩
                                refine Z.toW (w' := cW ce h pl ar G L B2 J10) (by rw [eJ10]; exact cW_setJ (by omega)) ?_
                                have gJ10 : J10 k = vp_updL (M k) ((sl (d + ev) + j) + q : Int).toNat ((M k ((sl (d + ev) + j) + q : Int).toNat) + (mu * (M kb ((sl ev + 0) + q : Int).toNat))) := by rw [eJ10]; exact up_eq
                                have fJ10 : ∀ j_, j_ ≠ k → J10 j_ = M j_ := fun j_ hj_ => by rw [eJ10]; exact up_ne hj_
                                refine Z.iinc (lv' := [(14, .int (zI (q + 1))), (13, .int (zI (sl (d + ev) + j))), (12, .int (zI (sl ev + 0))), (11, .int (zI ev)), (10, .int (zI la)), (8, .long mu), (7, .int (zI j)), (6, .int (zI d)), (5, .int (zI (B ka + B kb))), (3, .long fac), (2, .ref (pl kb)), (1, .ref (pl ka)), (0, .ref (pl k))]) hX dX3_addProduct_162 rfl (by decide) rfl ?_
                                refine Z.goto hX 129 dX3_addProduct_165 (by decide) ?_
                                refine Z.pick [0, 1, 2, 3, 4, 5, 6, 7, 8, 9, 10, 11, 12] rfl ?_
                                exact ih_129 _ _ (by omega) (by omega) (fun j_ h_k => ((fJ10 j_ h_k).trans (hM j_ h_k))) (PZ_u (d := d + ev) (j := j + q) (by omega) (by omega) (by omega) (by omega) gJ10 hpz) (ap_q (by omega) (by omega) (by omega) (by omega) rfl (by rw [← hM kb hkb.2, show sl ev + q = sl ev + 0 + q by omega]; exact gJ10) hC4)
                          refine Z.pick [0, 1, 2, 3, 4, 5, 6, 7, 8, 9, 10, 11, 12] rfl ?_
                          exact key_129 _ _ _ (Nat.lt_succ_self _) (by omega) hM hpz (by rw [Int.add_zero]; exact hC3)
                    refine Z.pick [0, 1, 2, 3, 4, 5, 6, 7, 8, 9] rfl ?_
                    exact key_99 _ _ _ (Nat.lt_succ_self _) (by omega) hM hpz (ap_e0 (x := (ixs (sl d + j).toNat : Nat)) hC2)
                  refine Z.lload hX dX3_addProduct_79 rfl ?_
                  refine Z.lconst (v := 0) hX dX3_addProduct_81 rfl ?_
                  refine Z.lcmp_ne hX 90 dX3_addProduct_82 dX3_addProduct_83 (by decide) ?_ ?_
                  · intro c11
                    refine Z.aload_n hX dX3_addProduct_90 rfl rfl ?_
                    refine Z.getf hX 3 (24 + kb) 1 dX3_addProduct_91 (cW_pl (by omega)) rfl inX3 (by decide) fl_X3_15 rfl rfl ?_
                    refine Z.pick [0, 1, 2, 3, 4, 5, 6, 7] rfl ?_
                    exact key_94 _ (by omega) (by first | exact Or.inl (by assumption) | exact Or.inr (by omega))
                  · intro c11
                    refine Z.iconst hX dX3_addProduct_86 ?_
                    refine Z.goto hX 94 dX3_addProduct_87 (by decide) ?_
                    refine Z.pick [0, 1, 2, 3, 4, 5, 6, 7] rfl ?_
                    exact key_94 _ (by omega) (by first | exact Or.inl (by assumption) | exact Or.inr (by omega))
            refine Z.pick [0, 1, 2, 3, 4, 5, 6] rfl ?_
            exact key_56 _ _ _ (Nat.lt_succ_self _) (by omega) hM hpz (by rw [Int.add_zero]; exact hC)
      refine Z.pick [0, 1, 2, 3, 4, 5] rfl ?_
      exact key_44 _ _ _ (Nat.lt_succ_self _) (by omega) (fun _ _ => rfl) (PZ_m (by omega) (by omega) (by omega) hzk) ap_0
    refine Z.aload_n hX dX3_addProduct_19 rfl rfl ?_
    refine Z.aload_n hX dX3_addProduct_20 rfl rfl ?_
    refine Z.getf hX 3 (24 + k) 1 dX3_addProduct_21 (cW_pl (by omega)) rfl inX3 (by decide) fl_X3_15 rfl rfl ?_
    refine Z.iload hX dX3_addProduct_24 rfl ?_
    refine Z.icmp_ge hX 34 dX3_addProduct_26 (by decide) ⟨by omega, by omega⟩ ⟨by omega, by omega⟩ ?_ ?_
    · intro c12
      refine Z.aload_n hX dX3_addProduct_34 rfl rfl ?_
      refine Z.getf hX 3 (24 + k) 1 dX3_addProduct_35 (cW_pl (by omega)) rfl inX3 (by decide) fl_X3_15 rfl rfl ?_
      refine Z.pick [0, 4, 3, 2, 1] rfl ?_
      exact key_38 _ (by omega) (by first | exact (if_pos (by omega)).symm | exact (if_neg (by omega)).symm)
    · intro c12
      refine Z.iload hX dX3_addProduct_29 rfl ?_
      refine Z.goto hX 38 dX3_addProduct_31 (by decide) ?_
      refine Z.pick [0, 4, 3, 2, 1] rfl ?_
      exact key_38 _ (by omega) (by first | exact (if_pos (by omega)).symm | exact (if_neg (by omega)).symm)
  · intro c1
    exfalso; omega

