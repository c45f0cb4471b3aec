set_option maxHeartbeats 4000000 in
set_option maxRecDepth 100000 in
theorem ct_X1_shareWithOther_0 (l : Launch) (D : va_G) (ce : Nat → ClassId) (h pl ar : Nat → Nat) (G : Nat → Int) (L : Nat → Nat → Int64) (B : Nat → Int) (J : Nat → Nat → Int64) (h7 : z5 (L 7)) : Ct l yX1_shareWithOther cX1_shareWithOther 4 none { frames := 1, cells := 0, slots := 0, locals := 21 } 0 0 D (TY ce) [.ref (h 3)] (cW ce h pl ar G L B J) (QV D (TY ce) (fun w1 => w1 = cW ce h pl ar G L B J ∧ (True))) := by
  refine Ct.ofV (by decide) (Nat.le_of_ble_eq_true rfl) ?_
  intro p e s m args below meth c A Q hX hnm hR
  refine Z.pick (lv' := [(0, .ref (h 3))]) [0] rfl ?_
  refine Z.iconst hX dX1_shareWithOther_0 ?_
  refine Z.istore_n (lv' := [(1, .int (zI 0)), (0, .ref (h 3))]) hX dX1_shareWithOther_1 rfl (by decide) rfl ?_
  refine Z.iload_n hX dX1_shareWithOther_2 rfl rfl ?_
  refine Z.bipush hX dX1_shareWithOther_3 (by decide) ?_
  refine Z.icmp_ge hX 61 dX1_shareWithOther_5 (by decide) ⟨by omega, by omega⟩ ⟨by omega, by omega⟩ ?_ ?_
  · intro c1
    exfalso; omega
  · intro c1
    refine Z.aload_n hX dX1_shareWithOther_8 rfl rfl ?_
    refine Z.getf hX 1 3 0 dX1_shareWithOther_9 rfl rfl inX1 (by decide) fl_X1_9 rfl rfl ?_
    refine Z.callS1i (As := [.ref (h 11)]) (rest := []) hX 11 rfl (ct_X5_topOf l D ce ((h 11)) (L 6) ) mc_X5_topOf ml_X1_46 st_X5_topOf ini_X5 nd_X5_topOf ⟨Nat.le_of_ble_eq_true rfl, Nat.le_of_ble_eq_true rfl⟩ ⟨rfl, rfl⟩ ⟨Nat.le_refl _, Nat.le_refl _⟩ rfl (Nat.le_of_ble_eq_true rfl) dX1_shareWithOther_12 ?_
    rintro r_2 w1 ⟨ta, hr_, hw_, a1, a2, a3⟩
    subst hr_
    refine ⟨_, hw_, ?_⟩
    refine Z.toW (w' := cW ce h pl ar G L B J) (set_self rfl) ?_
    refine Z.istore_n (lv' := [(2, .int (zI ta)), (1, .int (zI 0)), (0, .ref (h 3))]) hX dX1_shareWithOther_15 rfl (by decide) rfl ?_
    refine Z.aload_n hX dX1_shareWithOther_16 rfl rfl ?_
    refine Z.getf hX 1 3 1 dX1_shareWithOther_17 rfl rfl inX1 (by decide) fl_X1_15 rfl rfl ?_
    refine Z.callS1i (As := [.ref (h 12)]) (rest := []) hX 12 rfl (ct_X5_topOf l D ce ((h 12)) (L 7) ) mc_X5_topOf ml_X1_46 st_X5_topOf ini_X5 nd_X5_topOf ⟨Nat.le_of_ble_eq_true rfl, Nat.le_of_ble_eq_true rfl⟩ ⟨rfl, rfl⟩ ⟨Nat.le_refl _, Nat.le_refl _⟩ rfl (Nat.le_of_ble_eq_true rfl) dX1_shareWithOther_20 ?_
    rintro r_3 w1 ⟨tb, hr_, hw_, b1, b2, b3⟩
    subst hr_
    refine ⟨_, hw_, ?_⟩
    refine Z.toW (w' := cW ce h pl ar G L B J) (set_self rfl) ?_
    refine Z.istore_n (lv' := [(3, .int (zI tb)), (2, .int (zI ta)), (1, .int (zI 0)), (0, .ref (h 3))]) hX dX1_shareWithOther_23 rfl (by decide) rfl ?_
    refine Z.iload_n hX dX1_shareWithOther_24 rfl rfl ?_
    refine Z.if_ge hX 29 dX1_shareWithOther_25 (by decide) ⟨by omega, by omega⟩ ?_ ?_
    · intro c4
      exact absurd (h7 tb (by omega) (by omega)) (b3 (by omega))
    · intro c4
      exact hR _ _ _ dX1_shareWithOther_28 ⟨rfl, trivial⟩

set_option maxHeartbeats 4000000 in
set_option maxRecDepth 100000 in
theorem ct_X1_makePrimitive_0 (l : Launch) (D : va_G) (ce : Nat → ClassId) (h pl ar : Nat → Nat) (G : Nat → Int) (L : Nat → Nat → Int64) (B : Nat → Int) (J : Nat → Nat → Int64) (h6 : z5 (L 6)) : Ct l yX1_makePrimitive cX1_makePrimitive 6 none { frames := 1, cells := 0, slots := 0, locals := 21 } 0 0 D (TY ce) [.ref (h 3), .ref (h 11)] (cW ce h pl ar G L B J) (QV D (TY ce) (fun w1 => w1 = cW ce h pl ar G L B J ∧ (True))) := by
  refine Ct.ofV (by decide) (Nat.le_of_ble_eq_true rfl) ?_
  intro p e s m args below meth c A Q hX hnm hR
  refine Z.pick (lv' := [(0, .ref (h 3)), (1, .ref (h 11))]) [0, 1] rfl ?_
  refine Z.aload_n hX dX1_makePrimitive_0 rfl rfl ?_
  refine Z.callS1i (As := [.ref (h 11)]) (rest := []) hX 11 rfl (ct_X5_topOf l D ce ((h 11)) (L 6) ) mc_X5_topOf ml_X1_46 st_X5_topOf ini_X5 nd_X5_topOf ⟨Nat.le_of_ble_eq_true rfl, Nat.le_of_ble_eq_true rfl⟩ ⟨rfl, rfl⟩ ⟨Nat.le_refl _, Nat.le_refl _⟩ rfl (Nat.le_of_ble_eq_true rfl) dX1_makePrimitive_1 ?_
  rintro r_1 w1 ⟨tp, hr_, hw_, t1, t2, t3⟩
  subst hr_
  refine ⟨_, hw_, ?_⟩
  refine Z.toW (w' := cW ce h pl ar G L B J) (set_self rfl) ?_
  refine Z.istore_n (lv' := [(2, .int (zI tp)), (0, .ref (h 3)), (1, .ref (h 11))]) hX dX1_makePrimitive_4 rfl (by decide) rfl ?_
  refine Z.iload_n hX dX1_makePrimitive_5 rfl rfl ?_
  refine Z.if_ge hX 10 dX1_makePrimitive_6 (by decide) ⟨by omega, by omega⟩ ?_ ?_
  · intro c2
    exact absurd (h6 tp (by omega) (by omega)) (t3 (by omega))
  · intro c2
    exact hR _ _ _ dX1_makePrimitive_9 ⟨rfl, trivial⟩

set_option maxHeartbeats 4000000 in
set_option maxRecDepth 100000 in
theorem ct_X1_free_0 (l : Launch) (D : va_G) (ce : Nat → ClassId) (h pl ar : Nat → Nat) (G : Nat → Int) (L : Nat → Nat → Int64) (B : Nat → Int) (J : Nat → Nat → Int64) (hz : zc L) : Ct l yX1_free cX1_free 4 none { frames := 2, cells := 0, slots := 0, locals := 46 } 0 0 D (TY ce) [.ref (h 3), .ref (h 1), .ref (h 2)] (cW ce h pl ar G L B J) (QV D (TY ce) (fun w1 => ∃ L2 : Nat → Nat → Int64, w1 = cW ce h pl ar G L2 B J ∧ (∀ k, k ≠ 3 → k ≠ 4 → k ≠ 5 → k ≠ 6 → k ≠ 7 → k ≠ 8 → L2 k = L k) ∧ (zf L2))) := by
  refine Ct.ofV (by decide) (Nat.le_of_ble_eq_true rfl) ?_
  intro p e s m args below meth c A Q hX hnm hR
  refine Z.pick (lv' := [(0, .ref (h 3)), (1, .ref (h 1)), (2, .ref (h 2))]) [0, 1, 2] rfl ?_
  refine Z.aload_n hX dX1_free_0 rfl rfl ?_
  refine Z.getf hX 1 3 0 dX1_free_1 rfl rfl inX1 (by decide) fl_X1_9 rfl rfl ?_
  refine Z.lconst (v := 0) hX dX1_free_4 rfl ?_
  refine Z.callS1v (As := [.ref (h 11), .long 0]) (rest := []) hX 11 rfl (ct_J7_fill_d0a16 l D ce ((h 11)) 5 (L 6) 0 (by decide)) mc_J7_fill_d0a16 ml_X1_21 st_J7_fill_d0a16 ini_J7 nd_J7_fill_d0a16 ⟨Nat.le_of_ble_eq_true rfl, Nat.le_of_ble_eq_true rfl⟩ ⟨rfl, rfl⟩ ⟨Nat.le_refl _, Nat.le_refl _⟩ rfl (Nat.le_of_ble_eq_true rfl) dX1_free_5 ?_
  rintro w1 ⟨f22, hw_, hfl⟩
  refine ⟨_, hw_, ?_⟩
  obtain ⟨L3, eL3⟩ : ∃ J' : Nat → Nat → Int64, J' = va_up L 6 (f22) := ⟨_, rfl⟩
  refine Z.toW (w' := cW ce h pl ar G L3 B J) (by rw [eL3]; rfl) ?_
  have gL3 : L3 6 = f22 := by rw [eL3]; exact up_eq
  have fL3 : ∀ j_, j_ ≠ 6 → L3 j_ = L j_ := fun j_ hj_ => by rw [eL3]; exact up_ne hj_
  have hs6 : z5 (L3 6) := fun j a b => by rw [gL3]; exact hfl j a (by omega)
  refine Z.iconst hX dX1_free_8 ?_
  refine Z.istore_n (lv' := [(3, .int (zI 0)), (0, .ref (h 3)), (1, .ref (h 1)), (2, .ref (h 2))]) hX dX1_free_9 rfl (by decide) rfl ?_
  have key_10 : ∀ (N : Nat), ∀ (i : Int) (M : Nat → Nat → Int64), (3 - i).toNat < N → (hi : 0 ≤ i ∧ i ≤ 3) → (hM : ∀ k, k ≠ 3 → k ≠ 4 → k ≠ 5 → k ≠ 6 → k ≠ 7 → k ≠ 8 → M k = L k) → (hq6 : z5 (M 6)) → (hqo : ∀ j : Int, 0 ≤ j → j < i → z5 (M (3 + j.toNat))) → Z p l e { frames := 2, cells := 0, slots := 0, locals := 46 } s m args below meth c D A 4 0 0 Q 10 [(3, .int (zI i)), (2, .ref (h 2)), (1, .ref (h 1)), (0, .ref (h 3))] [] (cW ce h pl ar G M B J) := by
    intro N
    induction N with
    | zero => intro i M hm; exact absurd hm (Nat.not_lt_zero _)
    | succ N ih_10 =>
      intro i M hm hi hM hq6 hqo
      refine Z.iload_n hX dX1_free_10 rfl rfl ?_
      refine Z.iconst hX dX1_free_11 ?_
      refine Z.icmp_ge hX 59 dX1_free_12 (by decide) ⟨by omega, by omega⟩ ⟨by omega, by omega⟩ ?_ ?_
      · intro c4
        refine Z.aload_n hX dX1_free_59 rfl rfl ?_
        refine Z.aload_n hX dX1_free_60 rfl rfl ?_
        refine Z.getf hX 1 3 0 dX1_free_61 rfl rfl inX1 (by decide) fl_X1_9 rfl rfl ?_
        refine Z.callVfv (As := [.ref (h 11)]) (rest := []) hX 1 3 rfl rfl (ct_X1_makePrimitive_0 l D ce h pl ar G M B J hq6) mc_X1_makePrimitive ml_X1_42 im_X1_makePrimitive se_X1_makePrimitive ini_X1 nd_X1_makePrimitive ⟨Nat.le_of_ble_eq_true rfl, Nat.le_of_ble_eq_true rfl⟩ ⟨rfl, rfl⟩ ⟨Nat.le_refl _, Nat.le_refl _⟩ rfl (Nat.le_of_ble_eq_true rfl) dX1_free_64 ?_
        rintro w1 ⟨hw_, htr2⟩
        subst hw_
        refine Z.aload_n hX dX1_free_67 rfl rfl ?_
        refine Z.getf hX 1 3 0 dX1_free_68 rfl rfl inX1 (by decide) fl_X1_9 rfl rfl ?_
        refine Z.callS1i (As := [.ref (h 11)]) (rest := []) hX 11 rfl (ct_X5_topOf l D ce ((h 11)) (M 6) ) mc_X5_topOf ml_X1_46 st_X5_topOf ini_X5 nd_X5_topOf ⟨Nat.le_of_ble_eq_true rfl, Nat.le_of_ble_eq_true rfl⟩ ⟨rfl, rfl⟩ ⟨Nat.le_refl _, Nat.le_refl _⟩ rfl (Nat.le_of_ble_eq_true rfl) dX1_free_71 ?_
        rintro r_6 w1 ⟨tp, hr_, hw_, t1, t2, t3⟩
        subst hr_
        refine ⟨_, hw_, ?_⟩
        refine Z.toW (w' := cW ce h pl ar G M B J) (set_self rfl) ?_
        refine Z.iconst hX dX1_free_74 ?_
        refine Z.icmp_lt hX 101 dX1_free_75 (by decide) ⟨by omega, by omega⟩ ⟨by omega, by omega⟩ ?_ ?_
        · intro c7
          exact hR _ _ _ dX1_free_101 ⟨M, rfl, (fun j_ h_3 h_4 h_5 h_6 h_7 h_8 => (hM j_ h_3 h_4 h_5 h_6 h_7 h_8)), (fun a ha => by have := hqo (a : Int) (by omega) (by omega); rw [Int.toNat_natCast] at this; exact this)⟩
        · intro c7
          exact absurd (hq6 tp (by omega) (by omega)) (t3 (by omega))
      · intro c4
        refine Z.aload_n hX dX1_free_15 rfl rfl ?_
        refine Z.getf hX 5 1 0 dX1_free_16 rfl rfl inX5 (by decide) fl_X1_27 rfl rfl ?_
        refine Z.iload_n hX dX1_free_19 rfl rfl ?_
        refine Z.aaload hX 9 3 dX1_free_20 rfl rfl rfl (by omega) (by omega) (by decide) rfl ?_
        refine Z.iconst hX dX1_free_21 ?_
        refine Z.aload_n hX dX1_free_22 rfl rfl ?_
        refine Z.getf hX 5 2 0 dX1_free_23 rfl rfl inX5 (by decide) fl_X1_27 rfl rfl ?_
        refine Z.iload_n hX dX1_free_26 rfl rfl ?_
        refine Z.aaload hX 10 3 dX1_free_27 rfl rfl rfl (by omega) (by omega) (by decide) rfl ?_
        refine Z.iconst hX dX1_free_28 ?_
        refine Z.iconst hX dX1_free_29 ?_
        refine Z.copyA hX (18 + (i : Int).toNat) (18 + (3 + (i : Int).toNat)) 1 dX1_free_30 (cW_in (by omega)) (cW_in (by omega)) rfl rfl (by decide) ml_X1_33 (by decide) (Nat.le_of_ble_eq_true rfl) ?_
        obtain ⟨L8, eL8⟩ : ∃ J' : Nat → Nat → Int64, J' = va_up M ((3 + (i : Int).toNat)) (va_cpy (M ((i : Int).toNat)) (M ((3 + (i : Int).toNat))) 0 0 5) := ⟨_, rfl⟩
        refine Z.toW (w' := cW ce h pl ar G L8 B J) (by rw [eL8]; exact cW_setL (by omega)) ?_
        have gL8 : L8 ((3 + (i : Int).toNat)) = va_cpy (M ((i : Int).toNat)) (M ((3 + (i : Int).toNat))) 0 0 5 := by rw [eL8]; exact up_eq
        have fL8 : ∀ j_, j_ ≠ (3 + (i : Int).toNat) → L8 j_ = M j_ := fun j_ hj_ => by rw [eL8]; exact up_ne hj_
        refine Z.aload_n hX dX1_free_33 rfl rfl ?_
        refine Z.getf hX 5 1 0 dX1_free_34 rfl rfl inX5 (by decide) fl_X1_27 rfl rfl ?_
        refine Z.iload_n hX dX1_free_37 rfl rfl ?_
        refine Z.aaload hX 9 3 dX1_free_38 rfl rfl rfl (by omega) (by omega) (by decide) rfl ?_
        refine Z.iconst hX dX1_free_39 ?_
        refine Z.aload_n hX dX1_free_40 rfl rfl ?_
        refine Z.getf hX 1 3 1 dX1_free_41 rfl rfl inX1 (by decide) fl_X1_15 rfl rfl ?_
        refine Z.iconst hX dX1_free_44 ?_
        refine Z.iconst hX dX1_free_45 ?_
        refine Z.copyA hX (18 + (i : Int).toNat) 12 1 dX1_free_46 (cW_in (by omega)) rfl rfl rfl (by decide) ml_X1_33 (by decide) (Nat.le_of_ble_eq_true rfl) ?_
        obtain ⟨L9, eL9⟩ : ∃ J' : Nat → Nat → Int64, J' = va_up L8 7 (va_cpy (L8 ((i : Int).toNat)) (L8 7) 0 0 5) := ⟨_, rfl⟩
        refine Z.toW (w' := cW ce h pl ar G L9 B J) (by rw [eL9]; rfl) ?_
        have gL9 : L9 7 = va_cpy (L8 ((i : Int).toNat)) (L8 7) 0 0 5 := by rw [eL9]; exact up_eq
        have fL9 : ∀ j_, j_ ≠ 7 → L9 j_ = L8 j_ := fun j_ hj_ => by rw [eL9]; exact up_ne hj_
        have hza : z5 (M (i : Int).toNat) := by rw [hM _ (by omega) (by omega) (by omega) (by omega) (by omega) (by omega)]; exact hz _ (by omega)
        have hq7 : z5 (L9 7) := by rw [gL9]; exact cpy_z (by rw [fL8 _ (by omega)]; exact hza)
        have hq6n : z5 (L9 6) := by rw [fL9 6 (by decide), fL8 6 (by omega)]; exact hq6
        have hq3n : z5 (L9 (3 + (i : Int).toNat)) := by rw [fL9 _ (by omega), gL8]; exact cpy_z hza
        have hqon : ∀ j : Int, 0 ≤ j → j < i + 1 → z5 (L9 (3 + j.toNat)) := fun j ja jb => if e : j = i then (by rw [e]; exact hq3n) else (by rw [fL9 _ (by omega), fL8 _ (by omega)]; exact hqo j ja (by omega))
        refine Z.aload_n hX dX1_free_49 rfl rfl ?_
        refine Z.callVfv (As := []) (rest := []) hX 1 3 rfl rfl (ct_X1_shareWithOther_0 l D ce h pl ar G L9 B J hq7) mc_X1_shareWithOther ml_X1_39 im_X1_shareWithOther se_X1_shareWithOther ini_X1 nd_X1_shareWithOther ⟨Nat.le_of_ble_eq_true rfl, Nat.le_of_ble_eq_true rfl⟩ ⟨rfl, rfl⟩ ⟨Nat.le_refl _, Nat.le_refl _⟩ rfl (Nat.le_of_ble_eq_true rfl) dX1_free_50 ?_
        rintro w1 ⟨hw_, htr1⟩
        subst hw_
        refine Z.iinc (lv' := [(3, .int (zI (i + 1))), (2, .ref (h 2)), (1, .ref (h 1)), (0, .ref (h 3))]) hX dX1_free_53 rfl (by decide) rfl ?_
        refine Z.goto hX 10 dX1_free_56 (by decide) ?_
        refine Z.pick [0, 1, 2, 3] rfl ?_
        exact ih_10 _ _ (by omega) (by omega) (fun j_ h_3 h_4 h_5 h_6 h_7 h_8 => ((fL9 j_ h_7).trans ((fL8 j_ (by omega)).trans (hM j_ h_3 h_4 h_5 h_6 h_7 h_8)))) hq6n hqon
  refine Z.pick [0, 3, 2, 1] rfl ?_
  exact key_10 _ _ _ (Nat.lt_succ_self _) (by omega) (fun j_ h_3 h_4 h_5 h_6 h_7 h_8 => ((fL3 j_ h_6).trans rfl)) hs6 (fun j a b => by omega)

set_option maxHeartbeats 4000000 in
set_option maxRecDepth 100000 in
theorem ct_X6_freeRow_0 (l : Launch) (D : va_G) (ce : Nat → ClassId) (h pl ar : Nat → Nat) (G : Nat → Int) (L : Nat → Nat → Int64) (B : Nat → Int) (J : Nat → Nat → Int64) (hg : G 0 = 0) (hz : zc L) : Ct l yX6_freeRow cX6_freeRow 1 (some (.object "EliminateLoci$Row")) { frames := 3, cells := 0, slots := 0, locals := 69 } 0 0 D (TY ce) [.ref (h 0)] (cW ce h pl ar G L B J) (QR D (TY ce) (fun r w1 => ∃ G2 : Nat → Int, ∃ L2 : Nat → Nat → Int64, r = (h 2) ∧ w1 = cW ce h pl ar G2 L2 B J ∧ (∀ k, k ≠ 0 → G2 k = G k) ∧ (zf L2) ∧ (∀ k, k < 3 → L2 k = L k))) := by
  refine Ct.ofR (by decide) (Nat.le_of_ble_eq_true rfl) (Or.inl ⟨_, rfl⟩) ?_
  intro p e s m args below meth c A Q hX hnm hR
  refine Z.pick (lv' := [(0, .ref (h 0))]) [0] rfl ?_
  refine Z.aload_n hX dX6_freeRow_0 rfl rfl ?_
  refine Z.getf hX 6 0 8 dX6_freeRow_1 rfl rfl inX6 (by decide) fl_X6_54 rfl rfl ?_
  refine Z.if_ne hX 27 dX6_freeRow_4 (by decide) ⟨by omega, by omega⟩ ?_ ?_
  · intro c1
    exfalso; omega
  · intro c1
    refine Z.aload_n hX dX6_freeRow_7 rfl rfl ?_
    refine Z.getf hX 6 0 2 dX6_freeRow_8 rfl rfl inX6 (by decide) fl_X6_22 rfl rfl ?_
    refine Z.aload_n hX dX6_freeRow_11 rfl rfl ?_
    refine Z.getf hX 6 0 0 dX6_freeRow_12 rfl rfl inX6 (by decide) fl_X6_10 rfl rfl ?_
    refine Z.aload_n hX dX6_freeRow_15 rfl rfl ?_
    refine Z.getf hX 6 0 1 dX6_freeRow_16 rfl rfl inX6 (by decide) fl_X6_16 rfl rfl ?_
    refine Z.callVfv (As := [.ref (h 1), .ref (h 2)]) (rest := []) hX 1 3 rfl rfl (ct_X1_free_0 l D ce h pl ar G L B J hz) mc_X1_free ml_X6_147 im_X1_free se_X1_free ini_X1 nd_X1_free ⟨Nat.le_of_ble_eq_true rfl, Nat.le_of_ble_eq_true rfl⟩ ⟨rfl, rfl⟩ ⟨Nat.le_refl _, Nat.le_refl _⟩ rfl (Nat.le_of_ble_eq_true rfl) dX6_freeRow_19 ?_
    rintro w1 ⟨L23, hw_, hfr, hzf⟩
    subst hw_
    refine Z.aload_n hX dX6_freeRow_22 rfl rfl ?_
    refine Z.iconst hX dX6_freeRow_23 ?_
    refine Z.putf (ty := .boolean) hX 6 0 8 tyX6 dX6_freeRow_24 rfl rfl inX6 tyX6_ok nmX6 (by decide) fl_X6_54 rfl rfl (by decide +kernel) rfl rfl (Nat.le_of_ble_eq_true rfl) ?_
    obtain ⟨G4, eG4⟩ : ∃ F' : Nat → Int, F' = va_up G 0 (1) := ⟨_, rfl⟩
    refine Z.toW (w' := cW ce h pl ar G4 L23 B J) (by rw [eG4]; rfl) ?_
    have gG4 : G4 0 = 1 := by rw [eG4]; exact up_eq
    have fG4 : ∀ j_, j_ ≠ 0 → G4 j_ = G j_ := fun j_ hj_ => by rw [eG4]; exact up_ne hj_
    refine Z.aload_n hX dX6_freeRow_27 rfl rfl ?_
    refine Z.getf hX 6 0 1 dX6_freeRow_28 rfl rfl inX6 (by decide) fl_X6_16 rfl rfl ?_
    exact hR _ _ _ _ dX6_freeRow_31 ⟨G4, L23, rfl, rfl, (fun j_ h_0 => ((fG4 j_ h_0).trans rfl)), hzf, (fun k h => hfr k (by omega) (by omega) (by omega) (by omega) (by omega) (by omega))⟩

set_option maxHeartbeats 4000000 in
set_option maxRecDepth 100000 in
theorem ct_X2_takeMover_0 (l : Launch) (D : va_G) (ce : Nat → ClassId) (h pl ar : Nat → Nat) (G : Nat → Int) (L : Nat → Nat → Int64) (B : Nat → Int) (J : Nat → Nat → Int64) (hB : BOK B) (hz : zf L) : Ct l yX2_takeMover cX2_takeMover 4 (some .int) { frames := 3, cells := 0, slots := 0, locals := 70 } 0 0 D (TY ce) [.ref (h 4), .ref (h 2)] (cW ce h pl ar G L B J) (QI D (TY ce) (fun r w1 => ∃ z : Int, ∃ B2 : Nat → Int, ∃ J2 : Nat → Nat → Int64, r = zI z ∧ w1 = cW ce h pl ar G L B2 J2 ∧ (BOK B2) ∧ (z = 0))) := by
  refine Ct.ofI (by decide) (Nat.le_of_ble_eq_true rfl) ?_
  intro p e s m args below meth c A Q hX hnm hR
  refine Z.pick (lv' := [(0, .ref (h 4)), (1, .ref (h 2))]) [0, 1] rfl ?_
  have key_16 : ∀ (tp : Int), (ht : tp = 0) → Z p l e { frames := 3, cells := 0, slots := 0, locals := 70 } s m args below meth c D A 4 0 0 Q 16 [(1, .ref (h 2)), (0, .ref (h 4))] [.int (zI tp)] (cW ce h pl ar G L B J) := by
    intro tp ht
    refine Z.istore_n (lv' := [(2, .int (zI tp)), (1, .ref (h 2)), (0, .ref (h 4))]) hX dX2_takeMover_16 rfl (by decide) rfl ?_
    refine Z.iconst hX dX2_takeMover_17 ?_
    refine Z.istore_n (lv' := [(3, .int (zI 0)), (2, .int (zI tp)), (1, .ref (h 2)), (0, .ref (h 4))]) hX dX2_takeMover_18 rfl (by decide) rfl ?_
    have key_19 : ∀ (N : Nat), ∀ (i : Int) (BB : Nat → Int) (MM : Nat → Nat → Int64), (tp + 1 - i).toNat < N → (hi : 0 ≤ i ∧ i ≤ tp + 1) → (hM : BOK BB) → Z p l e { frames := 3, cells := 0, slots := 0, locals := 70 } s m args below meth c D A 4 0 0 Q 19 [(3, .int (zI i)), (2, .int (zI tp)), (1, .ref (h 2)), (0, .ref (h 4))] [] (cW ce h pl ar G L BB MM) := by
      intro N
      induction N with
      | zero => intro i BB MM hm; exact absurd hm (Nat.not_lt_zero _)
      | succ N ih_19 =>
        intro i BB MM hm hi hM
        refine Z.iload_n hX dX2_takeMover_19 rfl rfl ?_
        refine Z.iload_n hX dX2_takeMover_20 rfl rfl ?_
        refine Z.icmp_gt hX 84 dX2_takeMover_21 (by decide) ⟨by omega, by omega⟩ ⟨by omega, by omega⟩ ?_ ?_
        · intro c1
          refine Z.iload_n hX dX2_takeMover_84 rfl rfl ?_
          exact hR _ _ _ _ dX2_takeMover_85 ⟨tp, BB, MM, rfl, rfl, hM, (by omega)⟩
        · intro c1
          refine Z.aload_n hX dX2_takeMover_24 rfl rfl ?_
          refine Z.getf hX 2 4 0 dX2_takeMover_25 rfl rfl inX2 (by decide) fl_X2_11 rfl rfl ?_
          refine Z.iload_n hX dX2_takeMover_28 rfl rfl ?_
          refine Z.aaload hX 14 4 dX2_takeMover_29 rfl rfl rfl (by omega) (by omega) (by decide) rfl ?_
          refine Z.aload_n hX dX2_takeMover_30 rfl rfl ?_
          refine Z.getf hX 5 2 0 dX2_takeMover_31 rfl rfl inX5 (by decide) fl_X2_37 rfl rfl ?_
          refine Z.iconst hX dX2_takeMover_34 ?_
          refine Z.aaload hX 10 3 dX2_takeMover_35 rfl rfl rfl (by omega) (by omega) (by decide) rfl ?_
          refine Z.iload_n hX dX2_takeMover_36 rfl rfl ?_
          refine Z.laload hX (18 + (3 + 2)) 1 dX2_takeMover_37 (cW_in (by omega)) rfl (by omega) (by omega) (by decide) ?_
          refine Z.lneg hX dX2_takeMover_38 ?_
          refine Z.lconst (v := 0) hX dX2_takeMover_39 rfl ?_
          refine Z.aload_n hX dX2_takeMover_40 rfl rfl ?_
          refine Z.getf hX 5 2 0 dX2_takeMover_41 rfl rfl inX5 (by decide) fl_X2_37 rfl rfl ?_
          refine Z.iconst hX dX2_takeMover_44 ?_
          refine Z.aaload hX 10 3 dX2_takeMover_45 rfl rfl rfl (by omega) (by omega) (by decide) rfl ?_
          refine Z.iload_n hX dX2_takeMover_46 rfl rfl ?_
          refine Z.laload hX (18 + (3 + 0)) 1 dX2_takeMover_47 (cW_in (by omega)) rfl (by omega) (by omega) (by decide) ?_
          refine Z.callVfv (As := [.long (-(L ((3 + 2)) (i : Int).toNat)), .long 0, .long (L ((3 + 0)) (i : Int).toNat)]) (rest := []) hX 3 (24 + (i : Int).toNat) rfl (cW_pl (by omega)) (ct_X3_setLine l D ce h pl ar G L BB MM ((i : Int).toNat) (-(L ((3 + 2)) (i : Int).toNat)) 0 (L ((3 + 0)) (i : Int).toNat) (by omega) hM) mc_X3_setLine ml_X2_41 im_X3_setLine se_X3_setLine ini_X3 nd_X3_setLine ⟨Nat.le_of_ble_eq_true rfl, Nat.le_of_ble_eq_true rfl⟩ ⟨rfl, rfl⟩ ⟨Nat.le_refl _, Nat.le_refl _⟩ rfl (Nat.le_of_ble_eq_true rfl) dX2_takeMover_48 ?_
          rintro w1 ⟨B23, J24, hw_, hs1, hs2, hs3, hs4⟩
          subst hw_
          refine Z.aload_n hX dX2_takeMover_51 rfl rfl ?_
          refine Z.getf hX 2 4 1 dX2_takeMover_52 rfl rfl inX2 (by decide) fl_X2_17 rfl rfl ?_
          refine Z.iload_n hX dX2_takeMover_55 rfl rfl ?_
          refine Z.aaload hX 15 4 dX2_takeMover_56 rfl rfl rfl (by omega) (by omega) (by decide) rfl ?_
          refine Z.lconst (v := 0) hX dX2_takeMover_57 rfl ?_
          refine Z.aload_n hX dX2_takeMover_58 rfl rfl ?_
          refine Z.getf hX 5 2 0 dX2_takeMover_59 rfl rfl inX5 (by decide) fl_X2_37 rfl rfl ?_
          refine Z.iconst hX dX2_takeMover_62 ?_
          refine Z.aaload hX 10 3 dX2_takeMover_63 rfl rfl rfl (by omega) (by omega) (by decide) rfl ?_
          refine Z.iload_n hX dX2_takeMover_64 rfl rfl ?_
          refine Z.laload hX (18 + (3 + 2)) 1 dX2_takeMover_65 (cW_in (by omega)) rfl (by omega) (by omega) (by decide) ?_
          refine Z.lneg hX dX2_takeMover_66 ?_
          refine Z.aload_n hX dX2_takeMover_67 rfl rfl ?_
          refine Z.getf hX 5 2 0 dX2_takeMover_68 rfl rfl inX5 (by decide) fl_X2_37 rfl rfl ?_
          refine Z.iconst hX dX2_takeMover_71 ?_
          refine Z.aaload hX 10 3 dX2_takeMover_72 rfl rfl rfl (by omega) (by omega) (by decide) rfl ?_
          refine Z.iload_n hX dX2_takeMover_73 rfl rfl ?_
          refine Z.laload hX (18 + (3 + 1)) 1 dX2_takeMover_74 (cW_in (by omega)) rfl (by omega) (by omega) (by decide) ?_
          refine Z.callVfv (As := [.long 0, .long (-(L ((3 + 2)) (i : Int).toNat)), .long (L ((3 + 1)) (i : Int).toNat)]) (rest := []) hX 3 (24 + (5 + (i : Int).toNat)) rfl (cW_pl (by omega)) (ct_X3_setLine l D ce h pl ar G L B23 J24 ((5 + (i : Int).toNat)) 0 (-(L ((3 + 2)) (i : Int).toNat)) (L ((3 + 1)) (i : Int).toNat) (by omega) hs3) mc_X3_setLine ml_X2_41 im_X3_setLine se_X3_setLine ini_X3 nd_X3_setLine ⟨Nat.le_of_ble_eq_true rfl, Nat.le_of_ble_eq_true rfl⟩ ⟨rfl, rfl⟩ ⟨Nat.le_refl _, Nat.le_refl _⟩ rfl (Nat.le_of_ble_eq_true rfl) dX2_takeMover_75 ?_
          rintro w1 ⟨B26, J27, hw_, ht1, ht2, ht3, ht4⟩
          subst hw_
          refine Z.iinc (lv' := [(3, .int (zI (i + 1))), (2, .int (zI tp)), (1, .ref (h 2)), (0, .ref (h 4))]) hX dX2_takeMover_78 rfl (by decide) rfl ?_
          refine Z.goto hX 19 dX2_takeMover_81 (by decide) ?_
          refine Z.pick [0, 1, 2, 3] rfl ?_
          exact ih_19 _ _ _ (by omega) (by omega) ht3
    refine Z.pick [0, 1, 2, 3] rfl ?_
    exact key_19 _ _ _ _ (Nat.lt_succ_self _) (by omega) hB
  refine Z.aload_n hX dX2_takeMover_0 rfl rfl ?_
  refine Z.iconst hX dX2_takeMover_1 ?_
  refine Z.callVfi (As := [.int (zI 2)]) (rest := []) hX 5 2 rfl rfl (ct_X5_isZero_f l D ce h pl ar G L B J 2 (by omega)) mc_X5_isZero ml_X2_27 im_X5_isZero se_X5_isZero ini_X5 nd_X5_isZero ⟨Nat.le_of_ble_eq_true rfl, Nat.le_of_ble_eq_true rfl⟩ ⟨rfl, rfl⟩ ⟨Nat.le_refl _, Nat.le_refl _⟩ rfl (Nat.le_of_ble_eq_true rfl) dX2_takeMover_2 ?_
  rintro r_8 w1 ⟨z9, hr_, hw_, hq10⟩
  subst hr_
  subst hw_
  refine Z.if_eq hX 12 dX2_takeMover_5 (by decide) ⟨by omega, by omega⟩ ?_ ?_
  · intro c11
    refine Z.aload_n hX dX2_takeMover_12 rfl rfl ?_
    refine Z.callVfi (As := []) (rest := []) hX 5 2 rfl rfl (ct_X5_highestPower_f l D ce h pl ar G L B J ) mc_X5_highestPower ml_X2_33 im_X5_highestPower se_X5_highestPower ini_X5 nd_X5_highestPower ⟨Nat.le_of_ble_eq_true rfl, Nat.le_of_ble_eq_true rfl⟩ ⟨rfl, rfl⟩ ⟨Nat.le_refl _, Nat.le_refl _⟩ rfl (Nat.le_of_ble_eq_true rfl) dX2_takeMover_13 ?_
    rintro r_12 w1 ⟨tq, hr_, hw_, n1, n2, n3⟩
    subst hr_
    subst hw_
    have htq : tq = 0 := hp_zf hz n1 n3
    refine Z.pick [1, 0] rfl ?_
    exact key_16 _ (by omega)
  · intro c11
    refine Z.iconst hX dX2_takeMover_8 ?_
    refine Z.goto hX 16 dX2_takeMover_9 (by decide) ?_
    refine Z.pick [1, 0] rfl ?_
    exact key_16 _ (by omega)

set_option maxHeartbeats 4000000 in
set_option maxRecDepth 100000 in
theorem ct_X2_takeLines_0 (l : Launch) (D : va_G) (ce : Nat → ClassId) (h pl ar : Nat → Nat) (G : Nat → Int) (L : Nat → Nat → Int64) (B : Nat → Int) (J : Nat → Nat → Int64) (hB : BOK B) (hz : zc L) : Ct l yX2_takeLines cX2_takeLines 4 (some .int) { frames := 1, cells := 0, slots := 0, locals := 21 } 0 0 D (TY ce) [.ref (h 4), .ref (h 1)] (cW ce h pl ar G L B J) (QI D (TY ce) (fun r w1 => ∃ z : Int, ∃ B2 : Nat → Int, ∃ J2 : Nat → Nat → Int64, r = zI z ∧ w1 = cW ce h pl ar G L B2 J2 ∧ (BOK B2) ∧ (z = 0))) := by
  refine Ct.ofI (by decide) (Nat.le_of_ble_eq_true rfl) ?_
  intro p e s m args below meth c A Q hX hnm hR
  refine Z.pick (lv' := [(0, .ref (h 4)), (1, .ref (h 1))]) [0, 1] rfl ?_
  refine Z.aload_n hX dX2_takeLines_0 rfl rfl ?_
  refine Z.callVfi (As := []) (rest := []) hX 5 1 rfl rfl (ct_X5_highestPower_r l D ce h pl ar G L B J ) mc_X5_highestPower ml_X2_33 im_X5_highestPower se_X5_highestPower ini_X5 nd_X5_highestPower ⟨Nat.le_of_ble_eq_true rfl, Nat.le_of_ble_eq_true rfl⟩ ⟨rfl, rfl⟩ ⟨Nat.le_refl _, Nat.le_refl _⟩ rfl (Nat.le_of_ble_eq_true rfl) dX2_takeLines_1 ?_
  rintro r_1 w1 ⟨tp, hr_, hw_, t1, t2, t3⟩
  subst hr_
  subst hw_
  have htp : tp = 0 := hp_zr hz t1 t3
  refine Z.istore_n (lv' := [(2, .int (zI tp)), (0, .ref (h 4)), (1, .ref (h 1))]) hX dX2_takeLines_4 rfl (by decide) rfl ?_
  refine Z.iconst hX dX2_takeLines_5 ?_
  refine Z.istore_n (lv' := [(3, .int (zI 0)), (2, .int (zI tp)), (0, .ref (h 4)), (1, .ref (h 1))]) hX dX2_takeLines_6 rfl (by decide) rfl ?_
  refine Z.iload_n hX dX2_takeLines_7 rfl rfl ?_
  refine Z.iload_n hX dX2_takeLines_8 rfl rfl ?_
  refine Z.icmp_ge hX 50 dX2_takeLines_9 (by decide) ⟨by omega, by omega⟩ ⟨by omega, by omega⟩ ?_ ?_
  · intro c2
    refine Z.iload_n hX dX2_takeLines_50 rfl rfl ?_
    refine Z.iconst hX dX2_takeLines_51 ?_
    refine Z.icmp_ge hX 59 dX2_takeLines_52 (by decide) ⟨by omega, by omega⟩ ⟨by omega, by omega⟩ ?_ ?_
    · intro c3
      exfalso; omega
    · intro c3
      refine Z.iconst hX dX2_takeLines_55 ?_
      refine Z.goto hX 62 dX2_takeLines_56 (by decide) ?_
      exact hR _ _ _ _ dX2_takeLines_62 ⟨0, B, J, rfl, rfl, hB, (by omega)⟩
  · intro c2
    exfalso; omega

set_option maxHeartbeats 4000000 in
set_option maxRecDepth 100000 in
theorem ct_X6_curveOf_l0 (l : Launch) (D : va_G) (ce : Nat → ClassId) (h pl ar : Nat → Nat) (G : Nat → Int) (L : Nat → Nat → Int64) (B : Nat → Int) (J : Nat → Nat → Int64) (hB : BOK B) (hg : G 0 = 0 ∧ G 2 = 0 ∧ G 5 = 0) (hz : zc L) : Ct l yX6_curveOf cX6_curveOf 4 (some (.object "EliminateLoci$Curve")) { frames := 4, cells := 0, slots := 0, locals := 93 } 0 0 D (TY ce) [.ref (h 0), .int (zI 0)] (cW ce h pl ar G L B J) (QR D (TY ce) (fun r w1 => ∃ G2 : Nat → Int, ∃ L2 : Nat → Nat → Int64, ∃ B2 : Nat → Int, ∃ J2 : Nat → Nat → Int64, r = (h 6) ∧ w1 = cW ce h pl ar G2 L2 B2 J2 ∧ (G2 3 = 0))) := by
  refine Ct.ofR (by decide) (Nat.le_of_ble_eq_true rfl) (Or.inl ⟨_, rfl⟩) ?_
  intro p e s m args below meth c A Q hX hnm hR
  refine Z.pick (lv' := [(0, .ref (h 0)), (1, .int (zI 0))]) [0, 1] rfl ?_
  refine Z.iload_n hX dX6_curveOf_0 rfl rfl ?_
  refine Z.if_ne hX 11 dX6_curveOf_1 (by decide) ⟨by omega, by omega⟩ ?_ ?_
  · intro c1; exfalso; revert c1; decide
  · intro c1
    refine Z.aload_n hX dX6_curveOf_4 rfl rfl ?_
    refine Z.getf hX 6 0 5 dX6_curveOf_5 rfl rfl inX6 (by decide) fl_X6_43 rfl rfl ?_
    refine Z.goto hX 15 dX6_curveOf_8 (by decide) ?_
    refine Z.astore_n (lv' := [(2, .ref (h 6)), (0, .ref (h 0)), (1, .int (zI 0))]) hX dX6_curveOf_15 rfl (by decide) rfl ?_
    refine Z.aload_n hX dX6_curveOf_16 rfl rfl ?_
    refine Z.getf hX 0 6 2 dX6_curveOf_17 rfl rfl inX0 (by decide) fl_X6_144 rfl rfl ?_
    refine Z.if_ne hX 90 dX6_curveOf_20 (by decide) ⟨by omega, by omega⟩ ?_ ?_
    · intro c2
      exfalso; omega
    · intro c2
      refine Z.iload_n hX dX6_curveOf_23 rfl rfl ?_
      refine Z.if_ne hX 41 dX6_curveOf_24 (by decide) ⟨by omega, by omega⟩ ?_ ?_
      · intro c3; exfalso; revert c3; decide
      · intro c3
        refine Z.aload_n hX dX6_curveOf_27 rfl rfl ?_
        refine Z.getf hX 6 0 3 dX6_curveOf_28 rfl rfl inX6 (by decide) fl_X6_29 rfl rfl ?_
        refine Z.aload_n hX dX6_curveOf_31 rfl rfl ?_
        refine Z.callVfr (As := []) (rest := [.ref (h 4)]) hX 6 0 rfl rfl (ct_X6_freeRow_0 l D ce h pl ar G L B J hg.1 hz) mc_X6_freeRow ml_X6_83 im_X6_freeRow se_X6_freeRow ini_X6 nd_X6_freeRow ⟨Nat.le_of_ble_eq_true rfl, Nat.le_of_ble_eq_true rfl⟩ ⟨rfl, rfl⟩ ⟨Nat.le_refl _, Nat.le_refl _⟩ rfl (Nat.le_of_ble_eq_true rfl) dX6_curveOf_32 ?_
        rintro r_4 w1 ⟨G25, L26, hr_, hw_, fr1, fr2, fr3⟩
        subst hr_
        subst hw_
        refine Z.callVfi (As := [.ref (h 2)]) (rest := []) hX 2 4 rfl rfl (ct_X2_takeMover_0 l D ce h pl ar G25 L26 B J hB fr2) mc_X2_takeMover ml_X6_151 im_X2_takeMover se_X2_takeMover ini_X2 nd_X2_takeMover ⟨Nat.le_of_ble_eq_true rfl, Nat.le_of_ble_eq_true rfl⟩ ⟨rfl, rfl⟩ ⟨Nat.le_refl _, Nat.le_refl _⟩ rfl (Nat.le_of_ble_eq_true rfl) dX6_curveOf_35 ?_
        rintro r_7 w1 ⟨sz, B28, J29, hr_, hw_, tk1, tk2⟩
        subst hr_
        subst hw_
        refine Z.goto hX 52 dX6_curveOf_38 (by decide) ?_
        refine Z.istore_n (lv' := [(3, .int (zI sz)), (2, .ref (h 6)), (0, .ref (h 0)), (1, .int (zI 0))]) hX dX6_curveOf_52 rfl (by decide) rfl ?_
        refine Z.aload_n hX dX6_curveOf_53 rfl rfl ?_
        refine Z.iload_n hX dX6_curveOf_54 rfl rfl ?_
        refine Z.if_le hX 81 dX6_curveOf_55 (by decide) ⟨by omega, by omega⟩ ?_ ?_
        · intro c10
          refine Z.iconst hX dX6_curveOf_81 ?_
          refine Z.putf (ty := .boolean) hX 0 6 3 tyX0 dX6_curveOf_82 rfl rfl inX0 tyX0_ok nmX0 (by decide) fl_X6_106 rfl rfl (by decide +kernel) rfl rfl (Nat.le_of_ble_eq_true rfl) ?_
          obtain ⟨G11, eG11⟩ : ∃ F' : Nat → Int, F' = va_up G25 3 (0) := ⟨_, rfl⟩
          refine Z.toW (w' := cW ce h pl ar G11 L26 B28 J29) (by rw [eG11]; rfl) ?_
          have gG11 : G11 3 = 0 := by rw [eG11]; exact up_eq
          have fG11 : ∀ j_, j_ ≠ 3 → G11 j_ = G25 j_ := fun j_ hj_ => by rw [eG11]; exact up_ne hj_
          refine Z.aload_n hX dX6_curveOf_85 rfl rfl ?_
          refine Z.iconst hX dX6_curveOf_86 ?_
          refine Z.putf (ty := .boolean) hX 0 6 2 tyX0 dX6_curveOf_87 rfl rfl inX0 tyX0_ok nmX0 (by decide) fl_X6_144 rfl rfl (by decide +kernel) rfl rfl (Nat.le_of_ble_eq_true rfl) ?_
          obtain ⟨G12, eG12⟩ : ∃ F' : Nat → Int, F' = va_up G11 2 (1) := ⟨_, rfl⟩
          refine Z.toW (w' := cW ce h pl ar G12 L26 B28 J29) (by rw [eG12]; rfl) ?_
          have gG12 : G12 2 = 1 := by rw [eG12]; exact up_eq
          have fG12 : ∀ j_, j_ ≠ 2 → G12 j_ = G11 j_ := fun j_ hj_ => by rw [eG12]; exact up_ne hj_
          refine Z.aload_n hX dX6_curveOf_90 rfl rfl ?_
          exact hR _ _ _ _ dX6_curveOf_91 ⟨G12, L26, B28, J29, rfl, rfl, ((fG12 3 (by decide)).trans gG11)⟩
        · intro c10
          exfalso; omega

set_option maxHeartbeats 4000000 in
set_option maxRecDepth 100000 in
theorem ct_X6_curveOf_e0 (l : Launch) (D : va_G) (ce : Nat → ClassId) (h pl ar : Nat → Nat) (G : Nat → Int) (L : Nat → Nat → Int64) (B : Nat → Int) (J : Nat → Nat → Int64) (hB : BOK B) (hg : G 0 = 0 ∧ G 2 = 0 ∧ G 5 = 0) (hz : zc L) : Ct l yX6_curveOf cX6_curveOf 4 (some (.object "EliminateLoci$Curve")) { frames := 4, cells := 0, slots := 0, locals := 93 } 0 0 D (TY ce) [.ref (h 0), .int (zI 1)] (cW ce h pl ar G L B J) (QR D (TY ce) (fun r w1 => ∃ G2 : Nat → Int, ∃ L2 : Nat → Nat → Int64, ∃ B2 : Nat → Int, ∃ J2 : Nat → Nat → Int64, r = (h 7) ∧ w1 = cW ce h pl ar G2 L2 B2 J2 ∧ (G2 6 = 0))) := by
  refine Ct.ofR (by decide) (Nat.le_of_ble_eq_true rfl) (Or.inl ⟨_, rfl⟩) ?_
  intro p e s m args below meth c A Q hX hnm hR
  refine Z.pick (lv' := [(0, .ref (h 0)), (1, .int (zI 1))]) [0, 1] rfl ?_
  refine Z.iload_n hX dX6_curveOf_0 rfl rfl ?_
  refine Z.if_ne hX 11 dX6_curveOf_1 (by decide) ⟨by omega, by omega⟩ ?_ ?_
  · intro c1
    refine Z.aload_n hX dX6_curveOf_11 rfl rfl ?_
    refine Z.getf hX 6 0 6 dX6_curveOf_12 rfl rfl inX6 (by decide) fl_X6_47 rfl rfl ?_
    refine Z.astore_n (lv' := [(2, .ref (h 7)), (0, .ref (h 0)), (1, .int (zI 1))]) hX dX6_curveOf_15 rfl (by decide) rfl ?_
    refine Z.aload_n hX dX6_curveOf_16 rfl rfl ?_
    refine Z.getf hX 0 7 2 dX6_curveOf_17 rfl rfl inX0 (by decide) fl_X6_144 rfl rfl ?_
    refine Z.if_ne hX 90 dX6_curveOf_20 (by decide) ⟨by omega, by omega⟩ ?_ ?_
    · intro c2
      exfalso; omega
    · intro c2
      refine Z.iload_n hX dX6_curveOf_23 rfl rfl ?_
      refine Z.if_ne hX 41 dX6_curveOf_24 (by decide) ⟨by omega, by omega⟩ ?_ ?_
      · intro c3
        refine Z.aload_n hX dX6_curveOf_41 rfl rfl ?_
        refine Z.getf hX 6 0 3 dX6_curveOf_42 rfl rfl inX6 (by decide) fl_X6_29 rfl rfl ?_
        refine Z.aload_n hX dX6_curveOf_45 rfl rfl ?_
        refine Z.getf hX 6 0 0 dX6_curveOf_46 rfl rfl inX6 (by decide) fl_X6_10 rfl rfl ?_
        refine Z.callVfi (As := [.ref (h 1)]) (rest := []) hX 2 4 rfl rfl (ct_X2_takeLines_0 l D ce h pl ar G L B J hB hz) mc_X2_takeLines ml_X6_155 im_X2_takeLines se_X2_takeLines ini_X2 nd_X2_takeLines ⟨Nat.le_of_ble_eq_true rfl, Nat.le_of_ble_eq_true rfl⟩ ⟨rfl, rfl⟩ ⟨Nat.le_refl _, Nat.le_refl _⟩ rfl (Nat.le_of_ble_eq_true rfl) dX6_curveOf_49 ?_
        rintro r_4 w1 ⟨sz, B25, J26, hr_, hw_, tk1, tk2⟩
        subst hr_
        subst hw_
        refine Z.istore_n (lv' := [(3, .int (zI sz)), (2, .ref (h 7)), (0, .ref (h 0)), (1, .int (zI 1))]) hX dX6_curveOf_52 rfl (by decide) rfl ?_
        refine Z.aload_n hX dX6_curveOf_53 rfl rfl ?_
        refine Z.iload_n hX dX6_curveOf_54 rfl rfl ?_
        refine Z.if_le hX 81 dX6_curveOf_55 (by decide) ⟨by omega, by omega⟩ ?_ ?_
        · intro c7
          refine Z.iconst hX dX6_curveOf_81 ?_
          refine Z.putf (ty := .boolean) hX 0 7 3 tyX0 dX6_curveOf_82 rfl rfl inX0 tyX0_ok nmX0 (by decide) fl_X6_106 rfl rfl (by decide +kernel) rfl rfl (Nat.le_of_ble_eq_true rfl) ?_
          obtain ⟨G8, eG8⟩ : ∃ F' : Nat → Int, F' = va_up G 6 (0) := ⟨_, rfl⟩
          refine Z.toW (w' := cW ce h pl ar G8 L B25 J26) (by rw [eG8]; rfl) ?_
          have gG8 : G8 6 = 0 := by rw [eG8]; exact up_eq
          have fG8 : ∀ j_, j_ ≠ 6 → G8 j_ = G j_ := fun j_ hj_ => by rw [eG8]; exact up_ne hj_
          refine Z.aload_n hX dX6_curveOf_85 rfl rfl ?_
          refine Z.iconst hX dX6_curveOf_86 ?_
          refine Z.putf (ty := .boolean) hX 0 7 2 tyX0 dX6_curveOf_87 rfl rfl inX0 tyX0_ok nmX0 (by decide) fl_X6_144 rfl rfl (by decide +kernel) rfl rfl (Nat.le_of_ble_eq_true rfl) ?_
          obtain ⟨G9, eG9⟩ : ∃ F' : Nat → Int, F' = va_up G8 5 (1) := ⟨_, rfl⟩
          refine Z.toW (w' := cW ce h pl ar G9 L B25 J26) (by rw [eG9]; rfl) ?_
          have gG9 : G9 5 = 1 := by rw [eG9]; exact up_eq
          have fG9 : ∀ j_, j_ ≠ 5 → G9 j_ = G8 j_ := fun j_ hj_ => by rw [eG9]; exact up_ne hj_
          refine Z.aload_n hX dX6_curveOf_90 rfl rfl ?_
          exact hR _ _ _ _ dX6_curveOf_91 ⟨G9, L, B25, J26, rfl, rfl, ((fG9 6 (by decide)).trans gG8)⟩
        · intro c7
          exfalso; omega
      · intro c3; exfalso; revert c3; decide
  · intro c1; exfalso; revert c1; decide

set_option maxHeartbeats 4000000 in
set_option maxRecDepth 100000 in
theorem ct_X6_degree_0 (l : Launch) (D : va_G) (ce : Nat → ClassId) (h pl ar : Nat → Nat) (G : Nat → Int) (L : Nat → Nat → Int64) (B : Nat → Int) (J : Nat → Nat → Int64) (what : Int) (hok : cOK G B) (hw : -2147483648 ≤ what ∧ what < 2147483648) (hg : G 0 = 0 ∧ G 2 = 0 ∧ G 5 = 0) (hz : zc L) : Ct l yX6_degree cX6_degree 4 (some .int) { frames := 4, cells := 0, slots := 0, locals := 89 } 0 0 D (TY ce) [.ref (h 0), .int (zI what)] (cW ce h pl ar G L B J) (QI D (TY ce) (fun r w1 => ∃ z : Int, ∃ G2 : Nat → Int, ∃ L2 : Nat → Nat → Int64, ∃ B2 : Nat → Int, ∃ J2 : Nat → Nat → Int64, r = zI z ∧ w1 = cW ce h pl ar G2 L2 B2 J2 ∧ (True) ∧ (¬ (0 ≤ what ∧ what ≤ 2) → z = -1) ∧ ((0 ≤ what ∧ what ≤ 2) → z = 0))) := by
  refine Ct.ofI (by decide) (Nat.le_of_ble_eq_true rfl) ?_
  intro p e s m args below meth c A Q hX hnm hR
  refine Z.pick (lv' := [(0, .ref (h 0)), (1, .int (zI what))]) [0, 1] rfl ?_
  obtain ⟨hB, hg0, hg2, hg3, hg5, hg6, hg1, hg4⟩ := id hok
  unfold bl at hg0 hg2 hg3 hg5 hg6
  refine Z.iload_n hX dX6_degree_0 rfl rfl ?_
  refine Z.if_lt hX 9 dX6_degree_1 (by decide) ⟨by omega, by omega⟩ ?_ ?_
  · intro c1
    refine Z.iconst hX dX6_degree_9 ?_
    exact hR _ _ _ _ dX6_degree_10 ⟨(-1), G, L, B, J, rfl, rfl, trivial, (fun _ => rfl), (fun q => by omega)⟩
  · intro c1
    refine Z.iload_n hX dX6_degree_4 rfl rfl ?_
    refine Z.iconst hX dX6_degree_5 ?_
    refine Z.icmp_le hX 11 dX6_degree_6 (by decide) ⟨by omega, by omega⟩ ⟨by omega, by omega⟩ ?_ ?_
    · intro c2
      refine Z.aload_n hX dX6_degree_11 rfl rfl ?_
      refine Z.getf hX 6 0 0 dX6_degree_12 rfl rfl inX6 (by decide) fl_X6_10 rfl rfl ?_
      refine Z.callVfi (As := []) (rest := []) hX 5 1 rfl rfl (ct_X5_highestPower_r l D ce h pl ar G L B J ) mc_X5_highestPower ml_X6_80 im_X5_highestPower se_X5_highestPower ini_X5 nd_X5_highestPower ⟨Nat.le_of_ble_eq_true rfl, Nat.le_of_ble_eq_true rfl⟩ ⟨rfl, rfl⟩ ⟨Nat.le_refl _, Nat.le_refl _⟩ rfl (Nat.le_of_ble_eq_true rfl) dX6_degree_15 ?_
      rintro r_3 w1 ⟨nn, hr_, hw_, nn1, nn2, nn3⟩
      subst hr_
      subst hw_
      have qnn : nn = 0 := hp_zr hz nn1 nn3
      refine Z.istore_n (lv' := [(2, .int (zI nn)), (0, .ref (h 0)), (1, .int (zI what))]) hX dX6_degree_18 rfl (by decide) rfl ?_
      refine Z.iload_n hX dX6_degree_19 rfl rfl ?_
      refine Z.if_ne hX 25 dX6_degree_20 (by decide) ⟨by omega, by omega⟩ ?_ ?_
      · intro c4
        refine Z.aload_n hX dX6_degree_25 rfl rfl ?_
        refine Z.callVfr (As := []) (rest := []) hX 6 0 rfl rfl (ct_X6_freeRow_0 l D ce h pl ar G L B J hg.1 hz) mc_X6_freeRow ml_X6_83 im_X6_freeRow se_X6_freeRow ini_X6 nd_X6_freeRow ⟨Nat.le_of_ble_eq_true rfl, Nat.le_of_ble_eq_true rfl⟩ ⟨rfl, rfl⟩ ⟨Nat.le_refl _, Nat.le_refl _⟩ rfl (Nat.le_of_ble_eq_true rfl) dX6_degree_26 ?_
        rintro r_5 w1 ⟨G26, L27, hr_, hw_, fr1, fr2, fr3⟩
        subst hr_
        subst hw_
        refine Z.callVfi (As := []) (rest := []) hX 5 2 rfl rfl (ct_X5_highestPower_f l D ce h pl ar G26 L27 B J ) mc_X5_highestPower ml_X6_80 im_X5_highestPower se_X5_highestPower ini_X5 nd_X5_highestPower ⟨Nat.le_of_ble_eq_true rfl, Nat.le_of_ble_eq_true rfl⟩ ⟨rfl, rfl⟩ ⟨Nat.le_refl _, Nat.le_refl _⟩ rfl (Nat.le_of_ble_eq_true rfl) dX6_degree_29 ?_
        rintro r_8 w1 ⟨nf, hr_, hw_, nf1, nf2, nf3⟩
        subst hr_
        subst hw_
        have qnf : nf = 0 := hp_zf fr2 nf1 nf3
        refine Z.istore_n (lv' := [(3, .int (zI nf)), (2, .int (zI nn)), (0, .ref (h 0)), (1, .int (zI what))]) hX dX6_degree_32 rfl (by decide) rfl ?_
        refine Z.iload_n hX dX6_degree_33 rfl rfl ?_
        refine Z.iconst hX dX6_degree_34 ?_
        refine Z.icmp_ne hX 42 dX6_degree_35 (by decide) ⟨by omega, by omega⟩ ⟨by omega, by omega⟩ ?_ ?_
        · intro c9
          refine Z.iload_n hX dX6_degree_42 rfl rfl ?_
          refine Z.iload_n hX dX6_degree_43 rfl rfl ?_
          refine Z.isub hX dX6_degree_44 ?_
          exact hR _ _ _ _ dX6_degree_45 ⟨(nn - nf), G26, L27, B, J, rfl, rfl, trivial, (fun q => by omega), (fun q => by omega)⟩
        · intro c9
          refine Z.iload_n hX dX6_degree_38 rfl rfl ?_
          refine Z.goto hX 45 dX6_degree_39 (by decide) ?_
          exact hR _ _ _ _ dX6_degree_45 ⟨nf, G26, L27, B, J, rfl, rfl, trivial, (fun q => by omega), (fun q => by omega)⟩
      · intro c4
        refine Z.iload_n hX dX6_degree_23 rfl rfl ?_
        exact hR _ _ _ _ dX6_degree_24 ⟨nn, G, L, B, J, rfl, rfl, trivial, (fun q => by omega), (fun q => by omega)⟩
    · intro c2
      refine Z.iconst hX dX6_degree_9 ?_
      exact hR _ _ _ _ dX6_degree_10 ⟨(-1), G, L, B, J, rfl, rfl, trivial, (fun _ => rfl), (fun q => by omega)⟩

set_option maxHeartbeats 4000000 in
set_option maxRecDepth 100000 in
theorem ct_X6_freed_0 (l : Launch) (D : va_G) (ce : Nat → ClassId) (h pl ar : Nat → Nat) (G : Nat → Int) (L : Nat → Nat → Int64) (B : Nat → Int) (J : Nat → Nat → Int64) (wh i : Int) (hok : cOK G B) (hw : -2147483648 ≤ wh ∧ wh < 2147483648) (hi : -2147483648 ≤ i ∧ i < 2147483648) (hg : G 0 = 0 ∧ G 2 = 0 ∧ G 5 = 0) (hz : zc L) : Ct l yX6_freed cX6_freed 3 (some .int) { frames := 4, cells := 0, slots := 0, locals := 89 } 0 0 D (TY ce) [.ref (h 0), .int (zI wh), .int (zI i)] (cW ce h pl ar G L B J) (QI D (TY ce) (fun r w1 => ∃ z : Int, ∃ G2 : Nat → Int, ∃ L2 : Nat → Nat → Int64, ∃ B2 : Nat → Int, ∃ J2 : Nat → Nat → Int64, r = zI z ∧ w1 = cW ce h pl ar G2 L2 B2 J2 ∧ (True) ∧ (¬ (0 ≤ wh ∧ wh ≤ 2 ∧ 0 ≤ i ∧ i ≤ 4) → z = -1000000) ∧ ((0 ≤ wh ∧ wh ≤ 2 ∧ 0 ≤ i ∧ i ≤ 4) → z = 0))) := by
  refine Ct.ofI (by decide) (Nat.le_of_ble_eq_true rfl) ?_
  intro p e s m args below meth c A Q hX hnm hR
  refine Z.pick (lv' := [(0, .ref (h 0)), (1, .int (zI wh)), (2, .int (zI i))]) [0, 1, 2] rfl ?_
  obtain ⟨hB, hg0, hg2, hg3, hg5, hg6, hg1, hg4⟩ := id hok
  unfold bl at hg0 hg2 hg3 hg5 hg6
  refine Z.iload_n hX dX6_freed_0 rfl rfl ?_
  refine Z.callS0i (As := [.int (zI wh)]) (rest := []) hX (ct_X6_isPart l D ce wh (by omega)) mc_X6_isPart ml_X6_58 st_X6_isPart ini_X6 nd_X6_isPart ⟨Nat.le_of_ble_eq_true rfl, Nat.le_of_ble_eq_true rfl⟩ ⟨rfl, rfl⟩ ⟨Nat.le_refl _, Nat.le_refl _⟩ rfl (Nat.le_of_ble_eq_true rfl) dX6_freed_1 ?_
  rintro r_1 w1 ⟨z1, hr_, hw_, p1⟩
  subst hr_
  refine ⟨hw_, ?_⟩
  refine Z.if_eq hX 14 dX6_freed_4 (by decide) ⟨by omega, by omega⟩ ?_ ?_
  · intro c2
    refine Z.ldc hX (-1000000) dX6_freed_14 co_X6_87 rfl ?_
    exact hR _ _ _ _ dX6_freed_16 ⟨((-1000000)), G, L, B, J, rfl, rfl, trivial, (fun _ => rfl), (fun q => by omega)⟩
  · intro c2
    refine Z.iload_n hX dX6_freed_7 rfl rfl ?_
    refine Z.callS0i (As := [.int (zI i)]) (rest := []) hX (ct_X6_isPower l D ce i (by omega)) mc_X6_isPower ml_X6_62 st_X6_isPower ini_X6 nd_X6_isPower ⟨Nat.le_of_ble_eq_true rfl, Nat.le_of_ble_eq_true rfl⟩ ⟨rfl, rfl⟩ ⟨Nat.le_refl _, Nat.le_refl _⟩ rfl (Nat.le_of_ble_eq_true rfl) dX6_freed_8 ?_
    rintro r_3 w1 ⟨z2, hr_, hw_, p2⟩
    subst hr_
    refine ⟨hw_, ?_⟩
    refine Z.if_ne hX 17 dX6_freed_11 (by decide) ⟨by omega, by omega⟩ ?_ ?_
    · intro c4
      refine Z.aload_n hX dX6_freed_17 rfl rfl ?_
      refine Z.callVfr (As := []) (rest := []) hX 6 0 rfl rfl (ct_X6_freeRow_0 l D ce h pl ar G L B J hg.1 hz) mc_X6_freeRow ml_X6_83 im_X6_freeRow se_X6_freeRow ini_X6 nd_X6_freeRow ⟨Nat.le_of_ble_eq_true rfl, Nat.le_of_ble_eq_true rfl⟩ ⟨rfl, rfl⟩ ⟨Nat.le_refl _, Nat.le_refl _⟩ rfl (Nat.le_of_ble_eq_true rfl) dX6_freed_18 ?_
      rintro r_5 w1 ⟨G26, L27, hr_, hw_, fr1, fr2, fr3⟩
      subst hr_
      subst hw_
      refine Z.getf hX 5 2 0 dX6_freed_21 rfl rfl inX5 (by decide) fl_X6_69 rfl rfl ?_
      refine Z.iload_n hX dX6_freed_24 rfl rfl ?_
      refine Z.aaload hX 10 3 dX6_freed_25 rfl rfl rfl (by omega) (by omega) (by decide) rfl ?_
      refine Z.iload_n hX dX6_freed_26 rfl rfl ?_
      refine Z.laload hX (18 + (3 + (wh : Int).toNat)) 1 dX6_freed_27 (cW_in (by omega)) rfl (by omega) (by omega) (by decide) ?_
      refine Z.l2i hX dX6_freed_28 ?_
      refine Z.topi (fun z8 hz8 kz8 ez8 => ?_)
      exact hR _ _ _ _ dX6_freed_29 ⟨z8, G26, L27, B, J, rfl, rfl, trivial, (fun q => absurd (by omega) q), (fun _ => l2i_0 (fr2 (wh : Int).toNat (by omega) i (by omega) (by omega)) ez8 hz8 kz8)⟩
    · intro c4
      refine Z.ldc hX (-1000000) dX6_freed_14 co_X6_87 rfl ?_
      exact hR _ _ _ _ dX6_freed_16 ⟨((-1000000)), G, L, B, J, rfl, rfl, trivial, (fun _ => rfl), (fun q => by omega)⟩

set_option maxHeartbeats 4000000 in
set_option maxRecDepth 100000 in
theorem ct_X6_trace_0 (l : Launch) (D : va_G) (ce : Nat → ClassId) (h pl ar : Nat → Nat) (G : Nat → Int) (L : Nat → Nat → Int64) (B : Nat → Int) (J : Nat → Nat → Int64) (sort : Int) (hok : cOK G B) (hs : -2147483648 ≤ sort ∧ sort < 2147483648) (hg : G 0 = 0 ∧ G 2 = 0 ∧ G 5 = 0) (hz : zc L) : Ct l yX6_trace cX6_trace 3 (some .int) { frames := 5, cells := 0, slots := 0, locals := 116 } 0 0 D (TY ce) [.ref (h 0), .int (zI sort)] (cW ce h pl ar G L B J) (QI D (TY ce) (fun r w1 => ∃ z : Int, ∃ G2 : Nat → Int, ∃ L2 : Nat → Nat → Int64, ∃ B2 : Nat → Int, ∃ J2 : Nat → Nat → Int64, r = zI z ∧ w1 = cW ce h pl ar G2 L2 B2 J2 ∧ (True) ∧ (¬ (sort = 0 ∨ sort = 1) → z = -1) ∧ ((sort = 0 ∨ sort = 1) → z = -2))) := by
  refine Ct.ofI (by decide) (Nat.le_of_ble_eq_true rfl) ?_
  intro p e s m args below meth c A Q hX hnm hR
  refine Z.pick (lv' := [(0, .ref (h 0)), (1, .int (zI sort))]) [0, 1] rfl ?_
  obtain ⟨hB, hg0, hg2, hg3, hg5, hg6, hg1, hg4⟩ := id hok
  unfold bl at hg0 hg2 hg3 hg5 hg6
  refine Z.iload_n hX dX6_trace_0 rfl rfl ?_
  refine Z.callS0i (As := [.int (zI sort)]) (rest := []) hX (ct_X6_isSort l D ce sort (by omega)) mc_X6_isSort ml_X6_99 st_X6_isSort ini_X6 nd_X6_isSort ⟨Nat.le_of_ble_eq_true rfl, Nat.le_of_ble_eq_true rfl⟩ ⟨rfl, rfl⟩ ⟨Nat.le_refl _, Nat.le_refl _⟩ rfl (Nat.le_of_ble_eq_true rfl) dX6_trace_1 ?_
  rintro r_1 w1 ⟨z1, hr_, hw_, p1⟩
  subst hr_
  refine ⟨hw_, ?_⟩
  refine Z.if_ne hX 9 dX6_trace_4 (by decide) ⟨by omega, by omega⟩ ?_ ?_
  · intro c2
    rcases (show sort = 0 ∨ sort = 1 by omega) with rfl | rfl
    · skip
      refine Z.aload_n hX dX6_trace_9 rfl rfl ?_
      refine Z.iload_n hX dX6_trace_10 rfl rfl ?_
      refine Z.callVfr (As := [.int (zI 0)]) (rest := []) hX 6 0 rfl rfl (ct_X6_curveOf_l0 l D ce h pl ar G L B J hB hg hz) mc_X6_curveOf ml_X6_102 im_X6_curveOf se_X6_curveOf ini_X6 nd_X6_curveOf ⟨Nat.le_of_ble_eq_true rfl, Nat.le_of_ble_eq_true rfl⟩ ⟨rfl, rfl⟩ ⟨Nat.le_refl _, Nat.le_refl _⟩ rfl (Nat.le_of_ble_eq_true rfl) dX6_trace_11 ?_
      rintro r_3 w1 ⟨Gc, Lc, Bc, Jc, hr_, hw_, cv1⟩
      subst hr_
      subst hw_
      refine Z.astore_n (lv' := [(2, .ref (h 6)), (0, .ref (h 0)), (1, .int (zI 0))]) hX dX6_trace_14 rfl (by decide) rfl ?_
      refine Z.aload_n hX dX6_trace_15 rfl rfl ?_
      refine Z.getf hX 0 6 3 dX6_trace_16 rfl rfl inX0 (by decide) fl_X6_106 rfl rfl ?_
      refine Z.if_eq hX 32 dX6_trace_19 (by decide) ⟨by omega, by omega⟩ ?_ ?_
      · intro c4
        refine Z.bipush hX dX6_trace_32 (by decide) ?_
        exact hR _ _ _ _ dX6_trace_34 ⟨(-2), Gc, Lc, Bc, Jc, rfl, rfl, trivial, (fun q => absurd (by decide) q), (fun _ => rfl)⟩
      · intro c4
        exfalso; omega
    · skip
      refine Z.aload_n hX dX6_trace_9 rfl rfl ?_
      refine Z.iload_n hX dX6_trace_10 rfl rfl ?_
      refine Z.callVfr (As := [.int (zI 1)]) (rest := []) hX 6 0 rfl rfl (ct_X6_curveOf_e0 l D ce h pl ar G L B J hB hg hz) mc_X6_curveOf ml_X6_102 im_X6_curveOf se_X6_curveOf ini_X6 nd_X6_curveOf ⟨Nat.le_of_ble_eq_true rfl, Nat.le_of_ble_eq_true rfl⟩ ⟨rfl, rfl⟩ ⟨Nat.le_refl _, Nat.le_refl _⟩ rfl (Nat.le_of_ble_eq_true rfl) dX6_trace_11 ?_
      rintro r_5 w1 ⟨Gc, Lc, Bc, Jc, hr_, hw_, cv1⟩
      subst hr_
      subst hw_
      refine Z.astore_n (lv' := [(2, .ref (h 7)), (0, .ref (h 0)), (1, .int (zI 1))]) hX dX6_trace_14 rfl (by decide) rfl ?_
      refine Z.aload_n hX dX6_trace_15 rfl rfl ?_
      refine Z.getf hX 0 7 3 dX6_trace_16 rfl rfl inX0 (by decide) fl_X6_106 rfl rfl ?_
      refine Z.if_eq hX 32 dX6_trace_19 (by decide) ⟨by omega, by omega⟩ ?_ ?_
      · intro c6
        refine Z.bipush hX dX6_trace_32 (by decide) ?_
        exact hR _ _ _ _ dX6_trace_34 ⟨(-2), Gc, Lc, Bc, Jc, rfl, rfl, trivial, (fun q => absurd (by decide) q), (fun _ => rfl)⟩
      · intro c6
        exfalso; omega
  · intro c2
    refine Z.iconst hX dX6_trace_7 ?_
    exact hR _ _ _ _ dX6_trace_8 ⟨(-1), G, L, B, J, rfl, rfl, trivial, (fun _ => rfl), (fun q => by omega)⟩

set_option maxHeartbeats 4000000 in
set_option maxRecDepth 100000 in
theorem ct_X6_times_0 (l : Launch) (D : va_G) (ce : Nat → ClassId) (h pl ar : Nat → Nat) (G : Nat → Int) (L : Nat → Nat → Int64) (B : Nat → Int) (J : Nat → Nat → Int64) (sort : Int) (hok : cOK G B) (hs : -2147483648 ≤ sort ∧ sort < 2147483648) (hg : G 0 = 0 ∧ G 2 = 0 ∧ G 5 = 0) (hz : zc L) : Ct l yX6_times cX6_times 3 (some .int) { frames := 5, cells := 0, slots := 0, locals := 116 } 0 0 D (TY ce) [.ref (h 0), .int (zI sort)] (cW ce h pl ar G L B J) (QI D (TY ce) (fun r w1 => ∃ z : Int, ∃ G2 : Nat → Int, ∃ L2 : Nat → Nat → Int64, ∃ B2 : Nat → Int, ∃ J2 : Nat → Nat → Int64, r = zI z ∧ w1 = cW ce h pl ar G2 L2 B2 J2 ∧ (True) ∧ (¬ (sort = 0 ∨ sort = 1) → z = -1) ∧ ((sort = 0 ∨ sort = 1) → z = -2))) := by
  refine Ct.ofI (by decide) (Nat.le_of_ble_eq_true rfl) ?_
  intro p e s m args below meth c A Q hX hnm hR
  refine Z.pick (lv' := [(0, .ref (h 0)), (1, .int (zI sort))]) [0, 1] rfl ?_
  obtain ⟨hB, hg0, hg2, hg3, hg5, hg6, hg1, hg4⟩ := id hok
  unfold bl at hg0 hg2 hg3 hg5 hg6
  refine Z.iload_n hX dX6_times_0 rfl rfl ?_
  refine Z.callS0i (As := [.int (zI sort)]) (rest := []) hX (ct_X6_isSort l D ce sort (by omega)) mc_X6_isSort ml_X6_99 st_X6_isSort ini_X6 nd_X6_isSort ⟨Nat.le_of_ble_eq_true rfl, Nat.le_of_ble_eq_true rfl⟩ ⟨rfl, rfl⟩ ⟨Nat.le_refl _, Nat.le_refl _⟩ rfl (Nat.le_of_ble_eq_true rfl) dX6_times_1 ?_
  rintro r_1 w1 ⟨z1, hr_, hw_, p1⟩
  subst hr_
  refine ⟨hw_, ?_⟩
  refine Z.if_ne hX 9 dX6_times_4 (by decide) ⟨by omega, by omega⟩ ?_ ?_
  · intro c2
    rcases (show sort = 0 ∨ sort = 1 by omega) with rfl | rfl
    · skip
      refine Z.aload_n hX dX6_times_9 rfl rfl ?_
      refine Z.iload_n hX dX6_times_10 rfl rfl ?_
      refine Z.callVfr (As := [.int (zI 0)]) (rest := []) hX 6 0 rfl rfl (ct_X6_curveOf_l0 l D ce h pl ar G L B J hB hg hz) mc_X6_curveOf ml_X6_102 im_X6_curveOf se_X6_curveOf ini_X6 nd_X6_curveOf ⟨Nat.le_of_ble_eq_true rfl, Nat.le_of_ble_eq_true rfl⟩ ⟨rfl, rfl⟩ ⟨Nat.le_refl _, Nat.le_refl _⟩ rfl (Nat.le_of_ble_eq_true rfl) dX6_times_11 ?_
      rintro r_3 w1 ⟨Gc, Lc, Bc, Jc, hr_, hw_, cv1⟩
      subst hr_
      subst hw_
      refine Z.astore_n (lv' := [(2, .ref (h 6)), (0, .ref (h 0)), (1, .int (zI 0))]) hX dX6_times_14 rfl (by decide) rfl ?_
      refine Z.aload_n hX dX6_times_15 rfl rfl ?_
      refine Z.getf hX 0 6 3 dX6_times_16 rfl rfl inX0 (by decide) fl_X6_106 rfl rfl ?_
      refine Z.if_eq hX 29 dX6_times_19 (by decide) ⟨by omega, by omega⟩ ?_ ?_
      · intro c4
        refine Z.bipush hX dX6_times_29 (by decide) ?_
        exact hR _ _ _ _ dX6_times_31 ⟨(-2), Gc, Lc, Bc, Jc, rfl, rfl, trivial, (fun q => absurd (by decide) q), (fun _ => rfl)⟩
      · intro c4
        exfalso; omega
    · skip
      refine Z.aload_n hX dX6_times_9 rfl rfl ?_
      refine Z.iload_n hX dX6_times_10 rfl rfl ?_
      refine Z.callVfr (As := [.int (zI 1)]) (rest := []) hX 6 0 rfl rfl (ct_X6_curveOf_e0 l D ce h pl ar G L B J hB hg hz) mc_X6_curveOf ml_X6_102 im_X6_curveOf se_X6_curveOf ini_X6 nd_X6_curveOf ⟨Nat.le_of_ble_eq_true rfl, Nat.le_of_ble_eq_true rfl⟩ ⟨rfl, rfl⟩ ⟨Nat.le_refl _, Nat.le_refl _⟩ rfl (Nat.le_of_ble_eq_true rfl) dX6_times_11 ?_
      rintro r_5 w1 ⟨Gc, Lc, Bc, Jc, hr_, hw_, cv1⟩
      subst hr_
      subst hw_
      refine Z.astore_n (lv' := [(2, .ref (h 7)), (0, .ref (h 0)), (1, .int (zI 1))]) hX dX6_times_14 rfl (by decide) rfl ?_
      refine Z.aload_n hX dX6_times_15 rfl rfl ?_
      refine Z.getf hX 0 7 3 dX6_times_16 rfl rfl inX0 (by decide) fl_X6_106 rfl rfl ?_
      refine Z.if_eq hX 29 dX6_times_19 (by decide) ⟨by omega, by omega⟩ ?_ ?_
      · intro c6
        refine Z.bipush hX dX6_times_29 (by decide) ?_
        exact hR _ _ _ _ dX6_times_31 ⟨(-2), Gc, Lc, Bc, Jc, rfl, rfl, trivial, (fun q => absurd (by decide) q), (fun _ => rfl)⟩
      · intro c6
        exfalso; omega
  · intro c2
    refine Z.iconst hX dX6_times_7 ?_
    exact hR _ _ _ _ dX6_times_8 ⟨(-1), G, L, B, J, rfl, rfl, trivial, (fun _ => rfl), (fun q => by omega)⟩

set_option maxHeartbeats 4000000 in
set_option maxRecDepth 100000 in
theorem ct_X6_coefficient_0 (l : Launch) (D : va_G) (ce : Nat → ClassId) (h pl ar : Nat → Nat) (G : Nat → Int) (L : Nat → Nat → Int64) (B : Nat → Int) (J : Nat → Nat → Int64) (sort i j : Int) (hok : cOK G B) (hs : -2147483648 ≤ sort ∧ sort < 2147483648) (hi : -2147483648 ≤ i ∧ i < 2147483648) (hj : -2147483648 ≤ j ∧ j < 2147483648) (hg : G 0 = 0 ∧ G 2 = 0 ∧ G 5 = 0) (hz : zc L) : Ct l yX6_coefficient cX6_coefficient 5 (some .long) { frames := 5, cells := 0, slots := 0, locals := 116 } 0 0 D (TY ce) [.ref (h 0), .int (zI sort), .int (zI i), .int (zI j)] (cW ce h pl ar G L B J) (QL D (TY ce) (fun r w1 => ∃ r0 : Int64, ∃ G2 : Nat → Int, ∃ L2 : Nat → Nat → Int64, ∃ B2 : Nat → Int, ∃ J2 : Nat → Nat → Int64, r = r0 ∧ w1 = cW ce h pl ar G2 L2 B2 J2 ∧ (True) ∧ (r0 = 0))) := by
  refine Ct.ofL (by decide) (Nat.le_of_ble_eq_true rfl) ?_
  intro p e s m args below meth c A Q hX hnm hR
  refine Z.pick (lv' := [(0, .ref (h 0)), (1, .int (zI sort)), (2, .int (zI i)), (3, .int (zI j))]) [0, 1, 2, 3] rfl ?_
  obtain ⟨hB, hg0, hg2, hg3, hg5, hg6, hg1, hg4⟩ := id hok
  unfold bl at hg0 hg2 hg3 hg5 hg6
  refine Z.iload_n hX dX6_coefficient_0 rfl rfl ?_
  refine Z.callS0i (As := [.int (zI sort)]) (rest := []) hX (ct_X6_isSort l D ce sort (by omega)) mc_X6_isSort ml_X6_99 st_X6_isSort ini_X6 nd_X6_isSort ⟨Nat.le_of_ble_eq_true rfl, Nat.le_of_ble_eq_true rfl⟩ ⟨rfl, rfl⟩ ⟨Nat.le_refl _, Nat.le_refl _⟩ rfl (Nat.le_of_ble_eq_true rfl) dX6_coefficient_1 ?_
  rintro r_1 w1 ⟨z1, hr_, hw_, p1⟩
  subst hr_
  refine ⟨hw_, ?_⟩
  refine Z.if_eq hX 27 dX6_coefficient_4 (by decide) ⟨by omega, by omega⟩ ?_ ?_
  · intro c2
    refine Z.lconst (v := 0) hX dX6_coefficient_27 rfl ?_
    exact hR _ _ _ _ dX6_coefficient_28 ⟨0, G, L, B, J, rfl, rfl, trivial, rfl⟩
  · intro c2
    refine Z.iload_n hX dX6_coefficient_7 rfl rfl ?_
    refine Z.if_lt hX 27 dX6_coefficient_8 (by decide) ⟨by omega, by omega⟩ ?_ ?_
    · intro c3
      refine Z.lconst (v := 0) hX dX6_coefficient_27 rfl ?_
      exact hR _ _ _ _ dX6_coefficient_28 ⟨0, G, L, B, J, rfl, rfl, trivial, rfl⟩
    · intro c3
      refine Z.iload_n hX dX6_coefficient_11 rfl rfl ?_
      refine Z.bipush hX dX6_coefficient_12 (by decide) ?_
      refine Z.icmp_gt hX 27 dX6_coefficient_14 (by decide) ⟨by omega, by omega⟩ ⟨by omega, by omega⟩ ?_ ?_
      · intro c4
        refine Z.lconst (v := 0) hX dX6_coefficient_27 rfl ?_
        exact hR _ _ _ _ dX6_coefficient_28 ⟨0, G, L, B, J, rfl, rfl, trivial, rfl⟩
      · intro c4
        refine Z.iload_n hX dX6_coefficient_17 rfl rfl ?_
        refine Z.if_lt hX 27 dX6_coefficient_18 (by decide) ⟨by omega, by omega⟩ ?_ ?_
        · intro c5
          refine Z.lconst (v := 0) hX dX6_coefficient_27 rfl ?_
          exact hR _ _ _ _ dX6_coefficient_28 ⟨0, G, L, B, J, rfl, rfl, trivial, rfl⟩
        · intro c5
          refine Z.iload_n hX dX6_coefficient_21 rfl rfl ?_
          refine Z.bipush hX dX6_coefficient_22 (by decide) ?_
          refine Z.icmp_le hX 29 dX6_coefficient_24 (by decide) ⟨by omega, by omega⟩ ⟨by omega, by omega⟩ ?_ ?_
          · intro c6
            rcases (show sort = 0 ∨ sort = 1 by omega) with rfl | rfl
            · skip
              refine Z.aload_n hX dX6_coefficient_29 rfl rfl ?_
              refine Z.iload_n hX dX6_coefficient_30 rfl rfl ?_
              refine Z.callVfr (As := [.int (zI 0)]) (rest := []) hX 6 0 rfl rfl (ct_X6_curveOf_l0 l D ce h pl ar G L B J hB hg hz) mc_X6_curveOf ml_X6_102 im_X6_curveOf se_X6_curveOf ini_X6 nd_X6_curveOf ⟨Nat.le_of_ble_eq_true rfl, Nat.le_of_ble_eq_true rfl⟩ ⟨rfl, rfl⟩ ⟨Nat.le_refl _, Nat.le_refl _⟩ rfl (Nat.le_of_ble_eq_true rfl) dX6_coefficient_31 ?_
              rintro r_7 w1 ⟨Gc, Lc, Bc, Jc, hr_, hw_, cv1⟩
              subst hr_
              subst hw_
              refine Z.astore (lv' := [(4, .ref (h 6)), (0, .ref (h 0)), (1, .int (zI 0)), (2, .int (zI i)), (3, .int (zI j))]) hX dX6_coefficient_34 (by decide) rfl ?_
              refine Z.aload hX dX6_coefficient_36 rfl ?_
              refine Z.getf hX 0 6 3 dX6_coefficient_38 rfl rfl inX0 (by decide) fl_X6_106 rfl rfl ?_
              refine Z.if_eq hX 71 dX6_coefficient_41 (by decide) ⟨by omega, by omega⟩ ?_ ?_
              · intro c8
                refine Z.lconst (v := 0) hX dX6_coefficient_71 rfl ?_
                exact hR _ _ _ _ dX6_coefficient_72 ⟨0, Gc, Lc, Bc, Jc, rfl, rfl, trivial, rfl⟩
              · intro c8
                exfalso; omega
            · skip
              refine Z.aload_n hX dX6_coefficient_29 rfl rfl ?_
              refine Z.iload_n hX dX6_coefficient_30 rfl rfl ?_
              refine Z.callVfr (As := [.int (zI 1)]) (rest := []) hX 6 0 rfl rfl (ct_X6_curveOf_e0 l D ce h pl ar G L B J hB hg hz) mc_X6_curveOf ml_X6_102 im_X6_curveOf se_X6_curveOf ini_X6 nd_X6_curveOf ⟨Nat.le_of_ble_eq_true rfl, Nat.le_of_ble_eq_true rfl⟩ ⟨rfl, rfl⟩ ⟨Nat.le_refl _, Nat.le_refl _⟩ rfl (Nat.le_of_ble_eq_true rfl) dX6_coefficient_31 ?_
              rintro r_9 w1 ⟨Gc, Lc, Bc, Jc, hr_, hw_, cv1⟩
              subst hr_
              subst hw_
              refine Z.astore (lv' := [(4, .ref (h 7)), (0, .ref (h 0)), (1, .int (zI 1)), (2, .int (zI i)), (3, .int (zI j))]) hX dX6_coefficient_34 (by decide) rfl ?_
              refine Z.aload hX dX6_coefficient_36 rfl ?_
              refine Z.getf hX 0 7 3 dX6_coefficient_38 rfl rfl inX0 (by decide) fl_X6_106 rfl rfl ?_
              refine Z.if_eq hX 71 dX6_coefficient_41 (by decide) ⟨by omega, by omega⟩ ?_ ?_
              · intro c10
                refine Z.lconst (v := 0) hX dX6_coefficient_71 rfl ?_
                exact hR _ _ _ _ dX6_coefficient_72 ⟨0, Gc, Lc, Bc, Jc, rfl, rfl, trivial, rfl⟩
              · intro c10
                exfalso; omega
          · intro c6
            refine Z.lconst (v := 0) hX dX6_coefficient_27 rfl ?_
            exact hR _ _ _ _ dX6_coefficient_28 ⟨0, G, L, B, J, rfl, rfl, trivial, rfl⟩

set_option maxHeartbeats 4000000 in
set_option maxRecDepth 100000 in
theorem ct_X6_side_0 (l : Launch) (D : va_G) (ce : Nat → ClassId) (h pl ar : Nat → Nat) (G : Nat → Int) (L : Nat → Nat → Int64) (B : Nat → Int) (J : Nat → Nat → Int64) (sort pp qq ss : Int) (hok : cOK G B) (hs : -2147483648 ≤ sort ∧ sort < 2147483648) (hp : -2147483648 ≤ pp ∧ pp < 2147483648) (hq : -2147483648 ≤ qq ∧ qq < 2147483648) (hss : -2147483648 ≤ ss ∧ ss < 2147483648) (hg : G 0 = 0 ∧ G 2 = 0 ∧ G 5 = 0) (hz : zc L) : Ct l yX6_side cX6_side 8 (some .int) { frames := 5, cells := 0, slots := 0, locals := 116 } 0 0 D (TY ce) [.ref (h 0), .int (zI sort), .int (zI pp), .int (zI qq), .int (zI ss)] (cW ce h pl ar G L B J) (QI D (TY ce) (fun r w1 => ∃ z : Int, ∃ G2 : Nat → Int, ∃ L2 : Nat → Nat → Int64, ∃ B2 : Nat → Int, ∃ J2 : Nat → Nat → Int64, r = zI z ∧ w1 = cW ce h pl ar G2 L2 B2 J2 ∧ (True) ∧ (¬ ((sort = 0 ∨ sort = 1) ∧ (-20 ≤ pp ∧ pp ≤ 20 ∧ -20 ≤ qq ∧ qq ≤ 20 ∧ 1 ≤ ss ∧ ss ≤ 9)) → z = -9) ∧ (((sort = 0 ∨ sort = 1) ∧ (-20 ≤ pp ∧ pp ≤ 20 ∧ -20 ≤ qq ∧ qq ≤ 20 ∧ 1 ≤ ss ∧ ss ≤ 9)) → z = -8))) := by
  refine Ct.ofI (by decide) (Nat.le_of_ble_eq_true rfl) ?_
  intro p e s m args below meth c A Q hX hnm hR
  refine Z.pick (lv' := [(0, .ref (h 0)), (1, .int (zI sort)), (2, .int (zI pp)), (3, .int (zI qq)), (4, .int (zI ss))]) [0, 1, 2, 3, 4] rfl ?_
  obtain ⟨hB, hg0, hg2, hg3, hg5, hg6, hg1, hg4⟩ := id hok
  unfold bl at hg0 hg2 hg3 hg5 hg6
  refine Z.iload_n hX dX6_side_0 rfl rfl ?_
  refine Z.callS0i (As := [.int (zI sort)]) (rest := []) hX (ct_X6_isSort l D ce sort (by omega)) mc_X6_isSort ml_X6_99 st_X6_isSort ini_X6 nd_X6_isSort ⟨Nat.le_of_ble_eq_true rfl, Nat.le_of_ble_eq_true rfl⟩ ⟨rfl, rfl⟩ ⟨Nat.le_refl _, Nat.le_refl _⟩ rfl (Nat.le_of_ble_eq_true rfl) dX6_side_1 ?_
  rintro r_1 w1 ⟨z1, hr_, hw_, p1⟩
  subst hr_
  refine ⟨hw_, ?_⟩
  refine Z.if_eq hX 17 dX6_side_4 (by decide) ⟨by omega, by omega⟩ ?_ ?_
  · intro c2
    refine Z.bipush hX dX6_side_17 (by decide) ?_
    exact hR _ _ _ _ dX6_side_19 ⟨(-9), G, L, B, J, rfl, rfl, trivial, (fun _ => rfl), (fun q => by omega)⟩
  · intro c2
    refine Z.iload_n hX dX6_side_7 rfl rfl ?_
    refine Z.iload_n hX dX6_side_8 rfl rfl ?_
    refine Z.iload hX dX6_side_9 rfl ?_
    refine Z.callS0i (As := [.int (zI pp), .int (zI qq), .int (zI ss)]) (rest := []) hX (ct_X6_isPlace l D ce pp qq ss (by omega) (by omega) (by omega)) mc_X6_isPlace ml_X6_129 st_X6_isPlace ini_X6 nd_X6_isPlace ⟨Nat.le_of_ble_eq_true rfl, Nat.le_of_ble_eq_true rfl⟩ ⟨rfl, rfl⟩ ⟨Nat.le_refl _, Nat.le_refl _⟩ rfl (Nat.le_of_ble_eq_true rfl) dX6_side_11 ?_
    rintro r_3 w1 ⟨z2, hr_, hw_, p2⟩
    subst hr_
    refine ⟨hw_, ?_⟩
    refine Z.if_ne hX 20 dX6_side_14 (by decide) ⟨by omega, by omega⟩ ?_ ?_
    · intro c4
      rcases (show sort = 0 ∨ sort = 1 by omega) with rfl | rfl
      · skip
        refine Z.aload_n hX dX6_side_20 rfl rfl ?_
        refine Z.iload_n hX dX6_side_21 rfl rfl ?_
        refine Z.callVfr (As := [.int (zI 0)]) (rest := []) hX 6 0 rfl rfl (ct_X6_curveOf_l0 l D ce h pl ar G L B J hB hg hz) mc_X6_curveOf ml_X6_102 im_X6_curveOf se_X6_curveOf ini_X6 nd_X6_curveOf ⟨Nat.le_of_ble_eq_true rfl, Nat.le_of_ble_eq_true rfl⟩ ⟨rfl, rfl⟩ ⟨Nat.le_refl _, Nat.le_refl _⟩ rfl (Nat.le_of_ble_eq_true rfl) dX6_side_22 ?_
        rintro r_5 w1 ⟨Gc, Lc, Bc, Jc, hr_, hw_, cv1⟩
        subst hr_
        subst hw_
        refine Z.astore (lv' := [(5, .ref (h 6)), (0, .ref (h 0)), (1, .int (zI 0)), (2, .int (zI pp)), (3, .int (zI qq)), (4, .int (zI ss))]) hX dX6_side_25 (by decide) rfl ?_
        refine Z.aload hX dX6_side_27 rfl ?_
        refine Z.getf hX 0 6 3 dX6_side_29 rfl rfl inX0 (by decide) fl_X6_106 rfl rfl ?_
        refine Z.if_ne hX 38 dX6_side_32 (by decide) ⟨by omega, by omega⟩ ?_ ?_
        · intro c6
          exfalso; omega
        · intro c6
          refine Z.bipush hX dX6_side_35 (by decide) ?_
          exact hR _ _ _ _ dX6_side_37 ⟨(-8), Gc, Lc, Bc, Jc, rfl, rfl, trivial, (fun q => absurd (by omega) q), (fun _ => rfl)⟩
      · skip
        refine Z.aload_n hX dX6_side_20 rfl rfl ?_
        refine Z.iload_n hX dX6_side_21 rfl rfl ?_
        refine Z.callVfr (As := [.int (zI 1)]) (rest := []) hX 6 0 rfl rfl (ct_X6_curveOf_e0 l D ce h pl ar G L B J hB hg hz) mc_X6_curveOf ml_X6_102 im_X6_curveOf se_X6_curveOf ini_X6 nd_X6_curveOf ⟨Nat.le_of_ble_eq_true rfl, Nat.le_of_ble_eq_true rfl⟩ ⟨rfl, rfl⟩ ⟨Nat.le_refl _, Nat.le_refl _⟩ rfl (Nat.le_of_ble_eq_true rfl) dX6_side_22 ?_
        rintro r_7 w1 ⟨Gc, Lc, Bc, Jc, hr_, hw_, cv1⟩
        subst hr_
        subst hw_
        refine Z.astore (lv' := [(5, .ref (h 7)), (0, .ref (h 0)), (1, .int (zI 1)), (2, .int (zI pp)), (3, .int (zI qq)), (4, .int (zI ss))]) hX dX6_side_25 (by decide) rfl ?_
        refine Z.aload hX dX6_side_27 rfl ?_
        refine Z.getf hX 0 7 3 dX6_side_29 rfl rfl inX0 (by decide) fl_X6_106 rfl rfl ?_
        refine Z.if_ne hX 38 dX6_side_32 (by decide) ⟨by omega, by omega⟩ ?_ ?_
        · intro c8
          exfalso; omega
        · intro c8
          refine Z.bipush hX dX6_side_35 (by decide) ?_
          exact hR _ _ _ _ dX6_side_37 ⟨(-8), Gc, Lc, Bc, Jc, rfl, rfl, trivial, (fun q => absurd (by omega) q), (fun _ => rfl)⟩
    · intro c4
      refine Z.bipush hX dX6_side_17 (by decide) ?_
      exact hR _ _ _ _ dX6_side_19 ⟨(-9), G, L, B, J, rfl, rfl, trivial, (fun _ => rfl), (fun q => by omega)⟩

set_option maxHeartbeats 4000000 in
set_option maxRecDepth 100000 in
theorem ct_X6_follows_0 (l : Launch) (D : va_G) (ce : Nat → ClassId) (h pl ar : Nat → Nat) (G : Nat → Int) (L : Nat → Nat → Int64) (B : Nat → Int) (J : Nat → Nat → Int64) (u v : Int) (hok : cOK G B) (hu : -2147483648 ≤ u ∧ u < 2147483648) (hv : -2147483648 ≤ v ∧ v < 2147483648) (hg : G 0 = 0 ∧ G 2 = 0 ∧ G 5 = 0) (hz : zc L) : Ct l yX6_follows cX6_follows 3 (some .int) { frames := 5, cells := 0, slots := 0, locals := 116 } 0 0 D (TY ce) [.ref (h 0), .int (zI u), .int (zI v)] (cW ce h pl ar G L B J) (QI D (TY ce) (fun r w1 => ∃ z : Int, ∃ G2 : Nat → Int, ∃ L2 : Nat → Nat → Int64, ∃ B2 : Nat → Int, ∃ J2 : Nat → Nat → Int64, r = zI z ∧ w1 = cW ce h pl ar G2 L2 B2 J2 ∧ (True) ∧ (¬ (-9 ≤ u ∧ u ≤ 9 ∧ -9 ≤ v ∧ v ≤ 9 ∧ ¬ (u = 0 ∧ v = 0)) → z = -1) ∧ ((-9 ≤ u ∧ u ≤ 9 ∧ -9 ≤ v ∧ v ≤ 9 ∧ ¬ (u = 0 ∧ v = 0)) → z = -2))) := by
  refine Ct.ofI (by decide) (Nat.le_of_ble_eq_true rfl) ?_
  intro p e s m args below meth c A Q hX hnm hR
  refine Z.pick (lv' := [(0, .ref (h 0)), (1, .int (zI u)), (2, .int (zI v))]) [0, 1, 2] rfl ?_
  obtain ⟨hB, hg0, hg2, hg3, hg5, hg6, hg1, hg4⟩ := id hok
  unfold bl at hg0 hg2 hg3 hg5 hg6
  refine Z.iload_n hX dX6_follows_0 rfl rfl ?_
  refine Z.iload_n hX dX6_follows_1 rfl rfl ?_
  refine Z.callS0i (As := [.int (zI u), .int (zI v)]) (rest := []) hX (ct_X6_isParameter l D ce u v (by omega) (by omega)) mc_X6_isParameter ml_X6_88 st_X6_isParameter ini_X6 nd_X6_isParameter ⟨Nat.le_of_ble_eq_true rfl, Nat.le_of_ble_eq_true rfl⟩ ⟨rfl, rfl⟩ ⟨Nat.le_refl _, Nat.le_refl _⟩ rfl (Nat.le_of_ble_eq_true rfl) dX6_follows_2 ?_
  rintro r_1 w1 ⟨z1, hr_, hw_, p1⟩
  subst hr_
  refine ⟨hw_, ?_⟩
  refine Z.if_ne hX 10 dX6_follows_5 (by decide) ⟨by omega, by omega⟩ ?_ ?_
  · intro c2
    refine Z.aload_n hX dX6_follows_10 rfl rfl ?_
    refine Z.iload_n hX dX6_follows_11 rfl rfl ?_
    refine Z.iload_n hX dX6_follows_12 rfl rfl ?_
    refine Z.callVfv (As := [.int (zI u), .int (zI v)]) (rest := []) hX 6 0 rfl rfl (ct_X6_moveTo l D ce h pl ar G L B J u v (by omega) (by omega)) mc_X6_moveTo ml_X6_91 im_X6_moveTo se_X6_moveTo ini_X6 nd_X6_moveTo ⟨Nat.le_of_ble_eq_true rfl, Nat.le_of_ble_eq_true rfl⟩ ⟨rfl, rfl⟩ ⟨Nat.le_refl _, Nat.le_refl _⟩ rfl (Nat.le_of_ble_eq_true rfl) dX6_follows_13 ?_
    rintro w1 ⟨n, Lm, hw_, mv1, mv2, mv3⟩
    subst hw_
    refine Z.aload_n hX dX6_follows_16 rfl rfl ?_
    refine Z.getf hX 6 0 7 dX6_follows_17 rfl rfl inX6 (by decide) fl_X6_50 rfl rfl ?_
    refine Z.iconst hX dX6_follows_20 ?_
    refine Z.laload hX 8 1 dX6_follows_21 rfl rfl (by omega) (by omega) (by decide) ?_
    refine Z.lconst (v := 0) hX dX6_follows_22 rfl ?_
    refine Z.lcmp_eq hX 42 dX6_follows_23 dX6_follows_24 (by decide) ?_ ?_
    · intro c4
      refine Z.bipush hX dX6_follows_42 (by decide) ?_
      exact hR _ _ _ _ dX6_follows_44 ⟨(-2), G, Lm, B, J, rfl, rfl, trivial, (fun q => absurd (by omega) q), (fun _ => rfl)⟩
    · intro c4
      refine Z.aload_n hX dX6_follows_27 rfl rfl ?_
      refine Z.iconst hX dX6_follows_28 ?_
      refine Z.callVfr (As := [.int (zI 0)]) (rest := []) hX 6 0 rfl rfl (ct_X6_curveOf_l0 l D ce h pl ar G Lm B J hB hg (zc_same hz (fun k h => mv3 k (by omega)))) mc_X6_curveOf ml_X6_102 im_X6_curveOf se_X6_curveOf ini_X6 nd_X6_curveOf ⟨Nat.le_of_ble_eq_true rfl, Nat.le_of_ble_eq_true rfl⟩ ⟨rfl, rfl⟩ ⟨Nat.le_refl _, Nat.le_refl _⟩ rfl (Nat.le_of_ble_eq_true rfl) dX6_follows_29 ?_
      rintro r_5 w1 ⟨Gc, Lc, Bc, Jc, hr_, hw_, cv1⟩
      subst hr_
      subst hw_
      refine Z.getf hX 0 6 3 dX6_follows_32 rfl rfl inX0 (by decide) fl_X6_106 rfl rfl ?_
      refine Z.if_eq hX 42 dX6_follows_35 (by decide) ⟨by omega, by omega⟩ ?_ ?_
      · intro c6
        refine Z.bipush hX dX6_follows_42 (by decide) ?_
        exact hR _ _ _ _ dX6_follows_44 ⟨(-2), Gc, Lc, Bc, Jc, rfl, rfl, trivial, (fun q => absurd (by omega) q), (fun _ => rfl)⟩
      · intro c6
        exfalso; omega
  · intro c2
    refine Z.iconst hX dX6_follows_8 ?_
    exact hR _ _ _ _ dX6_follows_9 ⟨(-1), G, L, B, J, rfl, rfl, trivial, (fun _ => rfl), (fun q => by omega)⟩

set_option maxHeartbeats 4000000 in
set_option maxRecDepth 100000 in
theorem ct_X6_touches_0 (l : Launch) (D : va_G) (ce : Nat → ClassId) (h pl ar : Nat → Nat) (G : Nat → Int) (L : Nat → Nat → Int64) (B : Nat → Int) (J : Nat → Nat → Int64) (u v : Int) (hok : cOK G B) (hu : -2147483648 ≤ u ∧ u < 2147483648) (hv : -2147483648 ≤ v ∧ v < 2147483648) (hg : G 0 = 0 ∧ G 2 = 0 ∧ G 5 = 0) (hz : zc L) : Ct l yX6_touches cX6_touches 6 (some .int) { frames := 5, cells := 0, slots := 0, locals := 116 } 0 0 D (TY ce) [.ref (h 0), .int (zI u), .int (zI v)] (cW ce h pl ar G L B J) (QI D (TY ce) (fun r w1 => ∃ z : Int, ∃ G2 : Nat → Int, ∃ L2 : Nat → Nat → Int64, ∃ B2 : Nat → Int, ∃ J2 : Nat → Nat → Int64, r = zI z ∧ w1 = cW ce h pl ar G2 L2 B2 J2 ∧ (True) ∧ (¬ (-9 ≤ u ∧ u ≤ 9 ∧ -9 ≤ v ∧ v ≤ 9 ∧ ¬ (u = 0 ∧ v = 0)) → z = -1) ∧ ((-9 ≤ u ∧ u ≤ 9 ∧ -9 ≤ v ∧ v ≤ 9 ∧ ¬ (u = 0 ∧ v = 0)) → z = -2))) := by
  refine Ct.ofI (by decide) (Nat.le_of_ble_eq_true rfl) ?_
  intro p e s m args below meth c A Q hX hnm hR
  refine Z.pick (lv' := [(0, .ref (h 0)), (1, .int (zI u)), (2, .int (zI v))]) [0, 1, 2] rfl ?_
  obtain ⟨hB, hg0, hg2, hg3, hg5, hg6, hg1, hg4⟩ := id hok
  unfold bl at hg0 hg2 hg3 hg5 hg6
  refine Z.iload_n hX dX6_touches_0 rfl rfl ?_
  refine Z.iload_n hX dX6_touches_1 rfl rfl ?_
  refine Z.callS0i (As := [.int (zI u), .int (zI v)]) (rest := []) hX (ct_X6_isParameter l D ce u v (by omega) (by omega)) mc_X6_isParameter ml_X6_88 st_X6_isParameter ini_X6 nd_X6_isParameter ⟨Nat.le_of_ble_eq_true rfl, Nat.le_of_ble_eq_true rfl⟩ ⟨rfl, rfl⟩ ⟨Nat.le_refl _, Nat.le_refl _⟩ rfl (Nat.le_of_ble_eq_true rfl) dX6_touches_2 ?_
  rintro r_1 w1 ⟨z1, hr_, hw_, p1⟩
  subst hr_
  refine ⟨hw_, ?_⟩
  refine Z.if_ne hX 10 dX6_touches_5 (by decide) ⟨by omega, by omega⟩ ?_ ?_
  · intro c2
    refine Z.aload_n hX dX6_touches_10 rfl rfl ?_
    refine Z.iconst hX dX6_touches_11 ?_
    refine Z.callVfr (As := [.int (zI 1)]) (rest := []) hX 6 0 rfl rfl (ct_X6_curveOf_e0 l D ce h pl ar G L B J hB hg hz) mc_X6_curveOf ml_X6_102 im_X6_curveOf se_X6_curveOf ini_X6 nd_X6_curveOf ⟨Nat.le_of_ble_eq_true rfl, Nat.le_of_ble_eq_true rfl⟩ ⟨rfl, rfl⟩ ⟨Nat.le_refl _, Nat.le_refl _⟩ rfl (Nat.le_of_ble_eq_true rfl) dX6_touches_12 ?_
    rintro r_3 w1 ⟨Gc, Lc, Bc, Jc, hr_, hw_, cv1⟩
    subst hr_
    subst hw_
    refine Z.getf hX 0 7 3 dX6_touches_15 rfl rfl inX0 (by decide) fl_X6_106 rfl rfl ?_
    refine Z.if_ne hX 24 dX6_touches_18 (by decide) ⟨by omega, by omega⟩ ?_ ?_
    · intro c4
      exfalso; omega
    · intro c4
      refine Z.bipush hX dX6_touches_21 (by decide) ?_
      exact hR _ _ _ _ dX6_touches_23 ⟨(-2), Gc, Lc, Bc, Jc, rfl, rfl, trivial, (fun q => absurd (by omega) q), (fun _ => rfl)⟩
  · intro c2
    refine Z.iconst hX dX6_touches_8 ?_
    exact hR _ _ _ _ dX6_touches_9 ⟨(-1), G, L, B, J, rfl, rfl, trivial, (fun _ => rfl), (fun q => by omega)⟩

