/-! the pencil through a sum of the first two -/
theorem qG_V (X Y W : Nat → Int) (s : Int) :
    qG (fun k => X k + s * Y k) W 0 = tT600 X Y W + s * tT510 X Y W + s * s * tT420 X Y W + s * s * s * tT330 X Y W + s * s * s * s * tT240 X Y W + s * s * s * s * s * tT150 X Y W + s * s * s * s * s * s * tT060 X Y W ∧
    qG (fun k => X k + s * Y k) W 1 = tT501 X Y W + s * tT411 X Y W + s * s * tT321 X Y W + s * s * s * tT231 X Y W + s * s * s * s * tT141 X Y W + s * s * s * s * s * tT051 X Y W ∧
    qG (fun k => X k + s * Y k) W 2 = tT402 X Y W + s * tT312 X Y W + s * s * tT222 X Y W + s * s * s * tT132 X Y W + s * s * s * s * tT042 X Y W ∧
    qG (fun k => X k + s * Y k) W 3 = tT303 X Y W + s * tT213 X Y W + s * s * tT123 X Y W + s * s * s * tT033 X Y W ∧
    qG (fun k => X k + s * Y k) W 4 = tT204 X Y W + s * tT114 X Y W + s * s * tT024 X Y W ∧
    qG (fun k => X k + s * Y k) W 5 = tT105 X Y W + s * tT015 X Y W ∧
    qG (fun k => X k + s * Y k) W 6 = tT006 X Y W := by
  have E : ∀ w : Int, _ := fun w => (qD_pencil (fun k => X k + s * Y k) W 1 w).symm.trans ((congrArg qD (show (fun k => 1 * (X k + s * Y k) + w * W k) = (fun k => 1 * X k + s * Y k + w * W k) by funext k; simp only [Int.one_mul])).trans (qD_net X Y W 1 s w))
  generalize qG (fun k => X k + s * Y k) W 0 = g0 at *
  generalize qG (fun k => X k + s * Y k) W 1 = g1 at *
  generalize qG (fun k => X k + s * Y k) W 2 = g2 at *
  generalize qG (fun k => X k + s * Y k) W 3 = g3 at *
  generalize qG (fun k => X k + s * Y k) W 4 = g4 at *
  generalize qG (fun k => X k + s * Y k) W 5 = g5 at *
  generalize qG (fun k => X k + s * Y k) W 6 = g6 at *
  generalize tT600 X Y W = t600 at *
  generalize tT510 X Y W = t510 at *
  generalize tT501 X Y W = t501 at *
  generalize tT420 X Y W = t420 at *
  generalize tT411 X Y W = t411 at *
  generalize tT402 X Y W = t402 at *
  generalize tT330 X Y W = t330 at *
  generalize tT321 X Y W = t321 at *
  generalize tT312 X Y W = t312 at *
  generalize tT303 X Y W = t303 at *
  generalize tT240 X Y W = t240 at *
  generalize tT231 X Y W = t231 at *
  generalize tT222 X Y W = t222 at *
  generalize tT213 X Y W = t213 at *
  generalize tT204 X Y W = t204 at *
  generalize tT150 X Y W = t150 at *
  generalize tT141 X Y W = t141 at *
  generalize tT132 X Y W = t132 at *
  generalize tT123 X Y W = t123 at *
  generalize tT114 X Y W = t114 at *
  generalize tT105 X Y W = t105 at *
  generalize tT060 X Y W = t060 at *
  generalize tT051 X Y W = t051 at *
  generalize tT042 X Y W = t042 at *
  generalize tT033 X Y W = t033 at *
  generalize tT024 X Y W = t024 at *
  generalize tT015 X Y W = t015 at *
  generalize tT006 X Y W = t006 at *
  have U := u7 (g0 - (t600 + s * t510 + s * s * t420 + s * s * s * t330 + s * s * s * s * t240 + s * s * s * s * s * t150 + s * s * s * s * s * s * t060)) (g1 - (t501 + s * t411 + s * s * t321 + s * s * s * t231 + s * s * s * s * t141 + s * s * s * s * s * t051)) (g2 - (t402 + s * t312 + s * s * t222 + s * s * s * t132 + s * s * s * s * t042)) (g3 - (t303 + s * t213 + s * s * t123 + s * s * s * t033)) (g4 - (t204 + s * t114 + s * s * t024)) (g5 - (t105 + s * t015)) (g6 - t006) (by
    intro w
    have e := E w
    clear E
    simp only [Int.one_mul, Int.mul_one] at e
    grind)
  obtain ⟨a0, a1, a2, a3, a4, a5, a6⟩ := U
  exact ⟨Int.eq_of_sub_eq_zero a0, Int.eq_of_sub_eq_zero a1, Int.eq_of_sub_eq_zero a2, Int.eq_of_sub_eq_zero a3, Int.eq_of_sub_eq_zero a4, Int.eq_of_sub_eq_zero a5, Int.eq_of_sub_eq_zero a6⟩
theorem vK_true (V W : Nat → Int) (hW : bx7 W) (hv : vK V = true) (c e0 e1 e2 e3 h3 h4 h5 h6 : Int) (q0 : qG V W 0 = 27 * c * (e0 * e0)) (q1 : qG V W 1 = 27 * c * (2 * e0 * e1)) (q2 : qG V W 2 = 27 * c * (2 * e0 * e2 + e1 * e1)) (q3 : qG V W 3 = 27 * c * (2 * e0 * e3 + 2 * e1 * e2 + 18446744073709551616 * h3)) (q4 : qG V W 4 = 27 * c * (2 * e1 * e3 + e2 * e2 + 18446744073709551616 * h4)) (q5 : qG V W 5 = 27 * c * (2 * e2 * e3 + 18446744073709551616 * h5)) (q6 : qG V W 6 = 27 * c * (e3 * e3 + 18446744073709551616 * h6)) (hd : (2 * e0 * e3).natAbs ≤ 2 ^ 63) : h3 = 0 ∧ h4 = 0 ∧ h5 = 0 ∧ h6 = 0 := by
  have h0 : qG V W 0 = qD V := by
    unfold qG qD
    rfl
  unfold vK vt at hv
  simp only [Bool.and_eq_true] at hv
  obtain ⟨v0, v1, v2, v3⟩ := hv
  have A0 : 0 < (qD V).natAbs := Nat.le_of_ble_eq_true v0
  have v2' : crB3 (qI V).natAbs (qJ V).natAbs (is1 V) (js1 V) (js2 V) < 115964116992 := Nat.le_of_ble_eq_true v2
  have v3' : 12 * (784 * (784 * is1 V)) + 2 * (46991 * js2 V) < 28991029248 := Nat.le_of_ble_eq_true v3
  have hA : (qD V).natAbs = 27 * (c.natAbs * (e0.natAbs * e0.natAbs)) := by
    rw [← h0, q0, Int.natAbs_mul, Int.natAbs_mul, Int.natAbs_mul]
    exact Nat.mul_assoc _ _ _
  have he : e0 ≠ 0 := by
    intro q
    rw [q] at hA
    simp only [Int.natAbs_zero, Nat.mul_zero] at hA
    omega
  have hcn : c ≠ 0 := by
    intro q
    rw [q] at hA
    simp only [Int.natAbs_zero, Nat.zero_mul, Nat.mul_zero] at hA
    omega
  have hc1 : 1 ≤ c.natAbs := Int.natAbs_pos.mpr hcn
  have hS : e0.natAbs * e0.natAbs ≤ (qD V).natAbs / 27 := by
    rw [hA, Nat.mul_div_cancel_left _ (by decide)]
    exact Nat.le_mul_of_pos_left _ hc1
  have hc27 : 27 ≤ (27 * c).natAbs := by
    rw [Int.natAbs_mul]
    exact Nat.le_mul_of_pos_right 27 hc1
  have bi1 := bI1x V W hW
  have bj1 := bJ1x V W hW
  have bj2 := bJ2x V W hW
  have B2 : (qG V W 2).natAbs ≤ crB2 (qI V).natAbs (qJ V).natAbs (is1 V) (js1 V) (js2 V) := bG2 V W hW _ _ _ _ _ (Nat.le_refl _) bi1 (Nat.le_refl _) bj1 bj2
  have B3 : (qG V W 3).natAbs ≤ crB3 (qI V).natAbs (qJ V).natAbs (is1 V) (js1 V) (js2 V) := bG3 V W hW _ _ _ _ _ (Nat.le_refl _) bi1 (Nat.le_refl _) bj1 bj2
  have B4 : (qG V W 4).natAbs ≤ crB4 (qI V).natAbs (is1 V) (js1 V) (js2 V) := bG4 V W hW _ _ _ _ (Nat.le_refl _) bi1 bj1 bj2
  have B5 : (qG V W 5).natAbs < 27 * 1073741824 := by
    refine Nat.lt_of_le_of_lt ?_ v3'
    exact ns_le (nmul_le k12 (nmul_le (bI W hW) (nmul_le (bI W hW) bi1))) (nmul_le k2 (nmul_le (bJ W hW) bj2))
  exact full2_true (27 * c) e0 e1 e2 e3 h3 h4 h5 h6 (qG V W 0) (qG V W 1) (qG V W 2) (qG V W 3) (qG V W 4) (qG V W 5) (qG V W 6) (qD V).natAbs (gs V) _ _ _ _ q0 q1 q2 q3 q4 q5 q6 (by rw [h0]) (bG1x V W hW) B2 B3 B4 B5 (bG6 V W hW) hS he hc27 hd v2' v1
