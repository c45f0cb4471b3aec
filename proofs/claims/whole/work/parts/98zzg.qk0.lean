/-! the last digit, where the second quartic has no double root -/
theorem q_N2 (E G p n mm hh a2 : Nat) (bG : G ≤ 47933) (bn : n ≤ 459523923) (bm : mm ≤ 19886933) (bh : hh ≤ 29889426) (ba : a2 ≤ 59026) (hN : 2 * E * p ≤ 13785717690 + (2 * G * n + (mm * mm + 2 * a2 * hh))) : 2 * E * p ≤ 443200000000000 := by
  have a1 : G * n ≤ 47933 * 459523923 := Nat.mul_le_mul bG bn
  have a2' : mm * mm ≤ 19886933 * 19886933 := Nat.mul_le_mul bm bm
  have a3 : a2 * hh ≤ 59026 * 29889426 := Nat.mul_le_mul ba bh
  rw [Nat.mul_assoc 2 G n, Nat.mul_assoc 2 a2 hh] at hN
  omega
theorem q_sum (a b d f1 f2 f3 f4 z : Nat) (b1 : a ≤ b + d) (b3 : d ≤ f1 + (f2 + (f3 + f4))) (c1 : f1 ≤ 10794699451389150 * z) (c2 : f2 ≤ 58827333574614 * z) (c3 : f3 ≤ 1224041933883441090 * z) (c4 : f4 ≤ 1816527125009960 * z) (c5 : b ≤ 3679420230484968720 * z) : a ≤ z * 9223372036854775808 := by omega
theorem q_k0 (E G e n p q mm hh a2 : Nat) (hE : 1 ≤ E) (he : e ≤ 3095 * E) (hG : G ≤ 253 * E) (bG : G ≤ 47933) (hne : n * e ≤ 459523923) (bn : n ≤ 459523923) (bm : mm ≤ 19886933) (bh : hh ≤ 29889426) (ba : a2 ≤ 59026) (hN : 2 * E * p ≤ 13785717690 + (2 * G * n + (mm * mm + 2 * a2 * hh))) (hK : 2 * E * q ≤ 9190478460 + (2 * G * p + 2 * mm * hh)) (hR : G ≤ E ∨ (3 * (G * mm) ≤ 4 * 14915200 * E ∧ 3 * (G * hh) ≤ 14915200 * E)) : 2 * e * q ≤ 9223372036854775808 := by
  have N2 := q_N2 E G p n mm hh a2 bG bn bm bh ba hN
  have mh : 2 * mm * hh ≤ 1188818024540916 := Nat.le_trans (Nat.mul_le_mul (Nat.mul_le_mul (Nat.le_refl 2) bm) bh) (by decide)
  have k1 : E * (2 * e * q) ≤ e * (9190478460 + (2 * G * p + 2 * mm * hh)) := by
    have : E * (2 * e * q) = e * (2 * E * q) := by grind
    rw [this]
    exact Nat.mul_le_mul (Nat.le_refl e) hK
  rcases hR with r | ⟨r1, r2⟩
  · have a1 : 2 * G * p ≤ 443200000000000 := Nat.le_trans (Nat.mul_le_mul (Nat.mul_le_mul (Nat.le_refl 2) r) (Nat.le_refl p)) N2
    have a2' : e * (9190478460 + (2 * G * p + 2 * mm * hh)) ≤ 3095 * E * (9190478460 + (443200000000000 + 1188818024540916)) := Nat.mul_le_mul he (by omega)
    have a3 : E * (2 * e * q) ≤ E * 9223372036854775808 := by
      refine Nat.le_trans k1 (Nat.le_trans a2' ?_)
      omega
    exact Nat.le_of_mul_le_mul_left a3 hE
  · have b1 : E * (E * (2 * e * q)) ≤ E * e * 1188827215019376 + e * (G * (2 * E * p)) := by
      refine Nat.le_trans (Nat.mul_le_mul (Nat.le_refl E) k1) ?_
      have b2 : E * (e * (9190478460 + (2 * G * p + 2 * mm * hh))) = E * e * (9190478460 + 2 * mm * hh) + e * (G * (2 * E * p)) := by
        clear hN hK N2 mh k1 r1 r2 hne hE he hG bG bn bm bh ba
        grind
      rw [b2]
      exact Nat.add_le_add (Nat.mul_le_mul (Nat.le_refl _) (show 9190478460 + 2 * mm * hh ≤ 1188827215019376 by omega)) (Nat.le_refl _)
    have b3 : e * (G * (2 * E * p)) ≤ e * (G * (13785717690 + (2 * G * n + (mm * mm + 2 * a2 * hh)))) := Nat.mul_le_mul (Nat.le_refl e) (Nat.mul_le_mul (Nat.le_refl G) hN)
    have b4 : e * (G * (13785717690 + (2 * G * n + (mm * mm + 2 * a2 * hh)))) = e * G * 13785717690 + (2 * (G * G) * (n * e) + (e * (G * mm * mm) + e * (2 * a2 * (G * hh)))) := by
      clear hN hK N2 mh k1 r1 r2 hne hE he hG bG bn bm bh ba b1 b3
      grind
    have c1 : e * G * 13785717690 ≤ 3095 * E * (253 * E) * 13785717690 := Nat.mul_le_mul (Nat.mul_le_mul he hG) (Nat.le_refl _)
    have c2 : 2 * (G * G) * (n * e) ≤ 2 * (253 * E * (253 * E)) * 459523923 := Nat.mul_le_mul (Nat.mul_le_mul (Nat.le_refl 2) (Nat.mul_le_mul hG hG)) hne
    have c3 : e * (G * mm * mm) ≤ 3095 * E * (19886934 * E * 19886933) := Nat.mul_le_mul he (Nat.mul_le_mul (by omega) bm)
    have c4 : e * (2 * a2 * (G * hh)) ≤ 3095 * E * (2 * 59026 * (4971734 * E)) := Nat.mul_le_mul he (Nat.mul_le_mul (Nat.mul_le_mul (Nat.le_refl 2) ba) (by omega))
    have c5 : E * e * 1188827215019376 ≤ E * (3095 * E) * 1188827215019376 := Nat.mul_le_mul (Nat.mul_le_mul (Nat.le_refl E) he) (Nat.le_refl _)
    have d1 : 3095 * E * (253 * E) * 13785717690 = 10794699451389150 * (E * E) := by grind
    have d2 : 2 * (253 * E * (253 * E)) * 459523923 = 58827333574614 * (E * E) := by grind
    have d3 : 3095 * E * (19886934 * E * 19886933) = 1224041933883441090 * (E * E) := by grind
    have d4 : 3095 * E * (2 * 59026 * (4971734 * E)) = 1816527125009960 * (E * E) := by grind
    have d5 : E * (3095 * E) * 1188827215019376 = 3679420230484968720 * (E * E) := by grind
    rw [d1] at c1
    rw [d2] at c2
    rw [d3] at c3
    rw [d4] at c4
    rw [d5] at c5
    rw [b4] at b3
    have f : E * E * (2 * e * q) ≤ E * E * 9223372036854775808 := by
      have : E * E * (2 * e * q) = E * (E * (2 * e * q)) := Nat.mul_assoc _ _ _
      rw [this]
      exact q_sum _ _ _ _ _ _ _ _ b1 b3 c1 c2 c3 c4 c5
    exact Nat.le_of_mul_le_mul_left f (Nat.mul_pos hE hE)
