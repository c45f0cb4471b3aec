/-! the sizes as a test -/
def cu2 (A u w b3 S : Nat) : Bool :=
  Nat.blt (Nat.mul (Nat.mul (Nat.mul S S) (Nat.mul w w)) (Nat.add (Nat.mul 64 (Nat.mul (Nat.mul (Nat.mul (Nat.mul A A) A) A) (Nat.mul b3 b3))) (Nat.mul u (Nat.mul w w)))) (Nat.mul 174224571863520493293247799005065324265472 (Nat.mul (Nat.mul (Nat.mul (Nat.mul (Nat.mul A A) A) A) A) (Nat.mul (Nat.mul (Nat.mul (Nat.mul A A) A) A) A))) && Nat.blt (Nat.mul (Nat.mul S S) (Nat.mul u (Nat.mul w w))) (Nat.mul 1361129467683753853853498429727072845824 (Nat.mul (Nat.mul (Nat.mul A A) A) (Nat.mul (Nat.mul A A) A)))
def cn2 (A g b2 b3 b4 : Nat) : Nat := Nat.add (Nat.mul (Nat.add (Nat.mul (Nat.mul 4 A) b2) (Nat.mul g g)) (Nat.add (Nat.mul 5 (Nat.mul g g)) (Nat.mul (Nat.mul 4 A) b2))) (Nat.mul (Nat.mul 32 (Nat.mul A A)) (Nat.add (Nat.mul g b3) (Nat.mul 2 (Nat.mul A b4))))
def ck2 (A S N : Nat) : Bool := Nat.blt (Nat.mul (Nat.mul (Nat.mul S S) S) (Nat.mul N N)) (Nat.mul 1393796574908163946345982392040522594123776 (Nat.mul (Nat.mul (Nat.mul (Nat.mul A A) A) A) (Nat.mul (Nat.mul (Nat.mul A A) A) A)))
def ct2 (R : Nat) : Nat := Nat.pow 2 (Nat.add (Nat.div (Nat.log2 R) 2) 1)
def cz2 (A b2 b3 S t : Nat) : Bool := cu2 A (Nat.add (Nat.mul 4 (Nat.mul A b2)) t) t b3 S && cu2 A (Nat.div (Nat.add (Nat.mul 4 (Nat.mul A b2)) t) 5) (Nat.add (Nat.mul 4 (Nat.div (Nat.add (Nat.mul 4 (Nat.mul A b2)) t) 5)) t) b3 S
def full2 (A g b2 b3 b4 S : Nat) : Bool := ck2 A S (cn2 A g b2 b3 b4) && (cu2 A (Nat.mul g g) (Nat.add (Nat.mul 4 (Nat.mul A b2)) (Nat.mul g g)) b3 S || cz2 A b2 b3 S (ct2 (Nat.mul (Nat.mul 32 (Nat.mul A A)) (Nat.add (Nat.mul g b3) (Nat.mul 2 (Nat.mul A b4))))))
theorem ct2_ge (R : Nat) : R ≤ ct2 R * ct2 R := by
  unfold ct2
  show R ≤ 2 ^ (Nat.log2 R / 2 + 1) * 2 ^ (Nat.log2 R / 2 + 1)
  rw [← Nat.pow_add]
  by_cases h : R = 0
  · rw [h]
    exact Nat.zero_le _
  · have := (Nat.log2_lt h).mp (Nat.lt_succ_self (Nat.log2 R))
    refine Nat.le_of_lt (Nat.lt_of_lt_of_le this (Nat.pow_le_pow_right (by decide) ?_))
    omega
theorem full2_true (C e0 e1 e2 e3 h3 h4 h5 h6 G0 G1 G2 G3 G4 G5 G6 : Int) (A g b2 b3 b4 S : Nat) (q0 : G0 = C * (e0 * e0)) (q1 : G1 = C * (2 * e0 * e1)) (q2 : G2 = C * (2 * e0 * e2 + e1 * e1)) (q3 : G3 = C * (2 * e0 * e3 + 2 * e1 * e2 + 18446744073709551616 * h3)) (q4 : G4 = C * (2 * e1 * e3 + e2 * e2 + 18446744073709551616 * h4)) (q5 : G5 = C * (2 * e2 * e3 + 18446744073709551616 * h5)) (q6 : G6 = C * (e3 * e3 + 18446744073709551616 * h6))
    (hA : G0.natAbs = A) (hg : G1.natAbs ≤ g) (h2 : G2.natAbs ≤ b2) (hb3 : G3.natAbs ≤ b3) (hb4 : G4.natAbs ≤ b4) (hb5 : G5.natAbs < 27 * 1073741824) (hb6 : G6.natAbs < 2 ^ 62) (hS : e0.natAbs * e0.natAbs ≤ S)
    (he0 : e0 ≠ 0) (hC : 27 ≤ C.natAbs) (hd : (2 * e0 * e3).natAbs ≤ 2 ^ 63) (hb : b3 < 27 * 4294967296) (hf : full2 A g b2 b3 b4 S = true) : h3 = 0 ∧ h4 = 0 ∧ h5 = 0 ∧ h6 = 0 := by
  have e137 : (2 : Nat) ^ 137 = 174224571863520493293247799005065324265472 := by decide +kernel
  have e130 : (2 : Nat) ^ 130 = 1361129467683753853853498429727072845824 := by decide +kernel
  have e140 : (2 : Nat) ^ 140 = 1393796574908163946345982392040522594123776 := by decide +kernel
  have hcu : ∀ u w : Nat, cu2 A u w b3 S = true → S * S * (w * w) * (64 * (A * A * A * A * (b3 * b3)) + u * (w * w)) < 2 ^ 137 * (A * A * A * A * A * (A * A * A * A * A)) ∧ S * S * (u * (w * w)) < 2 ^ 130 * (A * A * A * (A * A * A)) := by
    intro u w h
    rw [e137, e130]
    unfold cu2 at h
    rw [Bool.and_eq_true] at h
    exact ⟨Nat.le_of_ble_eq_true h.1, Nat.le_of_ble_eq_true h.2⟩
  unfold full2 at hf
  rw [Bool.and_eq_true, Bool.or_eq_true] at hf
  have hk := kp_zero C e0 e1 e2 e3 h3 h4 G0 G1 G2 G3 G4 A g b2 b3 b4 S q0 q1 q2 q3 q4 hA hg h2 hb3 hb4 hS (by
    rw [e140]
    have := hf.1
    unfold ck2 cn2 at this
    exact Nat.le_of_ble_eq_true this)
  have K := kp_eq C e0 e1 e2 e3 h3 h4 18446744073709551616 G0 G1 G2 G3 G4 q0 q1 q2 q3 q4
  rw [hk, Int.mul_zero, Int.mul_zero] at K
  rcases hf.2 with h | h
  · have hc := hcu _ _ h
    refine bin2u C e0 e1 e2 e3 h3 h4 h5 h6 G0 G1 G2 G3 G4 G5 G6 A _ _ b3 S q0 q1 q2 q3 q5 q6 hk hA hb3 hb5 hb6 hS he0 hC hd hb (Nat.mul_le_mul hg hg) ?_ hc.1 hc.2
    refine Nat.le_trans (nsub_le _ _) ?_
    rw [Int.natAbs_mul, Int.natAbs_mul, Int.natAbs_mul G1, hA]
    have m5 : (4 : Int).natAbs = 4 := rfl
    rw [m5, Nat.mul_assoc]
    exact Nat.add_le_add (Nat.mul_le_mul (Nat.le_refl _) (Nat.mul_le_mul (Nat.le_refl _) h2)) (Nat.mul_le_mul hg hg)
  · unfold cz2 at h
    rw [Bool.and_eq_true] at h
    have c1 := hcu _ _ h.1
    have c2 := hcu _ _ h.2
    rcases zone2 G0 G1 G2 G3 G4 A g b2 b3 b4 _ hA hg h2 hb3 hb4 (by omega) (ct2_ge _) with z | z
    · exact bin2u C e0 e1 e2 e3 h3 h4 h5 h6 G0 G1 G2 G3 G4 G5 G6 A _ _ b3 S q0 q1 q2 q3 q5 q6 hk hA hb3 hb5 hb6 hS he0 hC hd hb z.1 z.2 c1.1 c1.2
    · exact bin2u C e0 e1 e2 e3 h3 h4 h5 h6 G0 G1 G2 G3 G4 G5 G6 A _ _ b3 S q0 q1 q2 q3 q5 q6 hk hA hb3 hb5 hb6 hS he0 hC hd hb z.1 z.2 c2.1 c2.2
