/-! THE SQUARE where the first quartic has one double root -/
theorem kd_lin (X : Nat → Int) (w0 w1 w2 w3 w4 d1 d2 d3 d4 : Int) (hk : kd X w0 w1 w2 w3 w4 d1 d2 d3 d4) (hz : ¬ qz X) (Z : Nat → Int) (h : qG X Z 1 = 0) : w0 * Z 0 + w1 * Z 1 + w2 * Z 2 + w3 * Z 3 + w4 * Z 4 = 0 := by
  obtain ⟨⟨k, e0, e1, e2, e3, e4⟩, _⟩ := hk
  have k0 : k ≠ 0 := by
    intro r
    rw [r, Int.zero_mul] at e0 e1 e2 e3 e4
    exact hz ⟨e0, e1, e2, e3, e4⟩
  have g : qG X Z 1 = qgr X 0 * Z 0 + qgr X 1 * Z 1 + qgr X 2 * Z 2 + qgr X 3 * Z 3 + qgr X 4 * Z 4 := qG1_lin X Z
  rw [e0, e1, e2, e3, e4, h] at g
  apply cnl k0
  rw [Int.mul_zero, g]
  clear g e0 e1 e2 e3 e4 h hz k0
  grind
theorem sqA (X Y W : Nat → Int) (hX : bx7 X) (hY : bx7 Y) (hW : bx7 W) (hw : wX X = true) (hz : ¬ qz X) (hD : qD X = 0) (z510 : tT510 X Y W = 0) (z501 : tT501 X Y W = 0) (c e1 g1 e2 m h1 e3 n1 n2 k0 H411 H402 H330 H321 H312 H303 H240 H231 H222 H213 H204 H150 H141 H132 H123 H114 H105 H060 H051 H042 H033 H024 H015 H006 : Int) (he : e1 ≠ 0) (hc : c ≠ 0) (hp : ∀ n : Int, 27 * n ∣ tT420 X Y W → 27 * n ∣ tT411 X Y W → 27 * n ∣ tT402 X Y W → 27 * n ∣ tT330 X Y W → 27 * n ∣ tT321 X Y W → 27 * n ∣ tT312 X Y W → 27 * n ∣ tT303 X Y W → 27 * n ∣ tT240 X Y W → 27 * n ∣ tT231 X Y W → 27 * n ∣ tT222 X Y W → 27 * n ∣ tT213 X Y W → 27 * n ∣ tT204 X Y W → 27 * n ∣ tT150 X Y W → 27 * n ∣ tT141 X Y W → 27 * n ∣ tT132 X Y W → 27 * n ∣ tT123 X Y W → 27 * n ∣ tT114 X Y W → 27 * n ∣ tT105 X Y W → 27 * n ∣ tT060 X Y W → 27 * n ∣ tT051 X Y W → 27 * n ∣ tT042 X Y W → 27 * n ∣ tT033 X Y W → 27 * n ∣ tT024 X Y W → 27 * n ∣ tT015 X Y W → 27 * n ∣ tT006 X Y W → n ∣ c) (t420 : tT420 X Y W = 27 * c * (e1 * e1)) (t411 : tT411 X Y W = 27 * c * (2 * e1 * g1 + 18446744073709551616 * H411)) (t402 : tT402 X Y W = 27 * c * (g1 * g1 + 18446744073709551616 * H402)) (t330 : tT330 X Y W = 27 * c * (2 * e1 * e2 + 18446744073709551616 * H330)) (t321 : tT321 X Y W = 27 * c * (2 * e1 * m + 2 * g1 * e2 + 18446744073709551616 * H321)) (t312 : tT312 X Y W = 27 * c * (2 * e1 * h1 + 2 * g1 * m + 18446744073709551616 * H312)) (t303 : tT303 X Y W = 27 * c * (2 * g1 * h1 + 18446744073709551616 * H303)) (t240 : tT240 X Y W = 27 * c * (2 * e1 * e3 + e2 * e2 + 18446744073709551616 * H240)) (t231 : tT231 X Y W = 27 * c * (2 * e1 * n1 + (2 * g1 * e3 + 2 * e2 * m) + 18446744073709551616 * H231)) (t222 : tT222 X Y W = 27 * c * (2 * e1 * n2 + (2 * g1 * n1 + (m * m + 2 * e2 * h1)) + 18446744073709551616 * H222)) (t213 : tT213 X Y W = 27 * c * (2 * e1 * k0 + (2 * g1 * n2 + 2 * m * h1) + 18446744073709551616 * H213)) (t204 : tT204 X Y W = 27 * c * (2 * g1 * k0 + h1 * h1 + 18446744073709551616 * H204)) (t150 : tT150 X Y W = 27 * c * (2 * e2 * e3 + 18446744073709551616 * H150)) (t141 : tT141 X Y W = 27 * c * (2 * e2 * n1 + 2 * m * e3 + 18446744073709551616 * H141)) (t132 : tT132 X Y W = 27 * c * (2 * e2 * n2 + (2 * m * n1 + 2 * h1 * e3) + 18446744073709551616 * H132)) (t123 : tT123 X Y W = 27 * c * (2 * h1 * n1 + (2 * m * n2 + 2 * e2 * k0) + 18446744073709551616 * H123)) (t114 : tT114 X Y W = 27 * c * (2 * h1 * n2 + 2 * m * k0 + 18446744073709551616 * H114)) (t105 : tT105 X Y W = 27 * c * (2 * h1 * k0 + 18446744073709551616 * H105)) (t060 : tT060 X Y W = 27 * c * (e3 * e3 + 18446744073709551616 * H060)) (t051 : tT051 X Y W = 27 * c * (2 * e3 * n1 + 18446744073709551616 * H051)) (t042 : tT042 X Y W = 27 * c * (n1 * n1 + 2 * e3 * n2 + 18446744073709551616 * H042)) (t033 : tT033 X Y W = 27 * c * (2 * e3 * k0 + 2 * n1 * n2 + 18446744073709551616 * H033)) (t024 : tT024 X Y W = 27 * c * (n2 * n2 + 2 * k0 * n1 + 18446744073709551616 * H024)) (t015 : tT015 X Y W = 27 * c * (2 * k0 * n2 + 18446744073709551616 * H015)) (t006 : tT006 X Y W = 27 * c * (k0 * k0 + 18446744073709551616 * H006)) (d411 : (2 * e1 * g1).natAbs ≤ 2 ^ 63) (d330 : (2 * e1 * e2).natAbs ≤ 2 ^ 63) (d321 : (2 * e1 * m).natAbs ≤ 2 ^ 63) (d312 : (2 * e1 * h1).natAbs ≤ 2 ^ 63) (d240 : (2 * e1 * e3).natAbs ≤ 2 ^ 63) (d231 : (2 * e1 * n1).natAbs ≤ 2 ^ 63) (d222 : (2 * e1 * n2).natAbs ≤ 2 ^ 63) (d213 : (2 * e1 * k0).natAbs ≤ 2 ^ 63) :
    (H411 = 0 ∧ H402 = 0 ∧ H330 = 0 ∧ H321 = 0 ∧ H312 = 0 ∧ H303 = 0 ∧ H240 = 0 ∧ H231 = 0 ∧ H222 = 0 ∧ H213 = 0 ∧ H204 = 0) ∧ (H150 = 0 ∧ H141 = 0 ∧ H132 = 0 ∧ H123 = 0 ∧ H114 = 0 ∧ H105 = 0) ∧ H060 = 0 ∧ H051 = 0 ∧ H042 = 0 ∧ H033 = 0 ∧ H024 = 0 ∧ H015 = 0 ∧ H006 = 0 := by
  have gX : qG X X 1 = 0 := by rw [qG_self, hD, Int.mul_zero]
  have gY : qG X Y 1 = 0 := by rw [← (tT_xy X Y W).2.1]; exact z510
  have gW : qG X W 1 = 0 := by rw [← (tT_xw X Y W).2.1]; exact z501
  rcases wX_mean X hX hw with q | q | q | q | q | q | q | q | q
  · exact absurd q hz
  · obtain ⟨a, ba, fa⟩ := fac1 X hX (kd_lin X _ _ _ _ _ _ _ _ _ q hz X gX)
    obtain ⟨b, bb, fb⟩ := fac1 Y hY (kd_lin X _ _ _ _ _ _ _ _ _ q hz Y gY)
    obtain ⟨d, bd, fd⟩ := fac1 W hW (kd_lin X _ _ _ _ _ _ _ _ _ q hz W gW)
    exact joinA 1 0 X Y W a b d 7 (by decide) fa fb fd ba bb bd (dbl1 X a fa q.2) (Nat.le_trans (rc70 1 0 b 7 1 bb (by decide) (by decide)) (by decide)) (Nat.le_trans (rc70 1 0 d 7 1 bd (by decide) (by decide)) (by decide)) c e1 g1 e2 m h1 e3 n1 n2 k0 H411 H402 H330 H321 H312 H303 H240 H231 H222 H213 H204 H150 H141 H132 H123 H114 H105 H060 H051 H042 H033 H024 H015 H006 he hc hp t420 t411 t402 t330 t321 t312 t303 t240 t231 t222 t213 t204 t150 t141 t132 t123 t114 t105 t060 t051 t042 t033 t024 t015 t006 d411 d330 d321 d312 d240 d231 d222 d213
  · obtain ⟨a, ba, fa⟩ := fac2 X hX (kd_lin X _ _ _ _ _ _ _ _ _ q hz X gX)
    obtain ⟨b, bb, fb⟩ := fac2 Y hY (kd_lin X _ _ _ _ _ _ _ _ _ q hz Y gY)
    obtain ⟨d, bd, fd⟩ := fac2 W hW (kd_lin X _ _ _ _ _ _ _ _ _ q hz W gW)
    exact joinA 0 1 X Y W a b d 7 (by decide) fa fb fd ba bb bd (dbl2 X a fa q.2) (Nat.le_trans (rc70 0 1 b 7 1 bb (by decide) (by decide)) (by decide)) (Nat.le_trans (rc70 0 1 d 7 1 bd (by decide) (by decide)) (by decide)) c e1 g1 e2 m h1 e3 n1 n2 k0 H411 H402 H330 H321 H312 H303 H240 H231 H222 H213 H204 H150 H141 H132 H123 H114 H105 H060 H051 H042 H033 H024 H015 H006 he hc hp t420 t411 t402 t330 t321 t312 t303 t240 t231 t222 t213 t204 t150 t141 t132 t123 t114 t105 t060 t051 t042 t033 t024 t015 t006 d411 d330 d321 d312 d240 d231 d222 d213
  · obtain ⟨a, ba, fa⟩ := fac3 X hX (kd_lin X _ _ _ _ _ _ _ _ _ q hz X gX)
    obtain ⟨b, bb, fb⟩ := fac3 Y hY (kd_lin X _ _ _ _ _ _ _ _ _ q hz Y gY)
    obtain ⟨d, bd, fd⟩ := fac3 W hW (kd_lin X _ _ _ _ _ _ _ _ _ q hz W gW)
    exact joinA 1 1 X Y W a b d 14 (by decide) fa fb fd ba bb bd (dbl3 X a fa q.2) (Nat.le_trans (rc70 1 1 b 14 1 bb (by decide) (by decide)) (by decide)) (Nat.le_trans (rc70 1 1 d 14 1 bd (by decide) (by decide)) (by decide)) c e1 g1 e2 m h1 e3 n1 n2 k0 H411 H402 H330 H321 H312 H303 H240 H231 H222 H213 H204 H150 H141 H132 H123 H114 H105 H060 H051 H042 H033 H024 H015 H006 he hc hp t420 t411 t402 t330 t321 t312 t303 t240 t231 t222 t213 t204 t150 t141 t132 t123 t114 t105 t060 t051 t042 t033 t024 t015 t006 d411 d330 d321 d312 d240 d231 d222 d213
  · obtain ⟨a, ba, fa⟩ := fac4 X hX (kd_lin X _ _ _ _ _ _ _ _ _ q hz X gX)
    obtain ⟨b, bb, fb⟩ := fac4 Y hY (kd_lin X _ _ _ _ _ _ _ _ _ q hz Y gY)
    obtain ⟨d, bd, fd⟩ := fac4 W hW (kd_lin X _ _ _ _ _ _ _ _ _ q hz W gW)
    exact joinA 1 (-1) X Y W a b d 14 (by decide) fa fb fd ba bb bd (dbl4 X a fa q.2) (Nat.le_trans (rc70 1 (-1) b 14 1 bb (by decide) (by decide)) (by decide)) (Nat.le_trans (rc70 1 (-1) d 14 1 bd (by decide) (by decide)) (by decide)) c e1 g1 e2 m h1 e3 n1 n2 k0 H411 H402 H330 H321 H312 H303 H240 H231 H222 H213 H204 H150 H141 H132 H123 H114 H105 H060 H051 H042 H033 H024 H015 H006 he hc hp t420 t411 t402 t330 t321 t312 t303 t240 t231 t222 t213 t204 t150 t141 t132 t123 t114 t105 t060 t051 t042 t033 t024 t015 t006 d411 d330 d321 d312 d240 d231 d222 d213
  · obtain ⟨a, ba, fa⟩ := fac5 X hX (kd_lin X _ _ _ _ _ _ _ _ _ q hz X gX)
    obtain ⟨b, bb, fb⟩ := fac5 Y hY (kd_lin X _ _ _ _ _ _ _ _ _ q hz Y gY)
    obtain ⟨d, bd, fd⟩ := fac5 W hW (kd_lin X _ _ _ _ _ _ _ _ _ q hz W gW)
    exact joinAb 1 2 X Y W a b d fa fb fd ba bb bd (dbl5 X a fa q.2) (rcb5 Y b hY fb) (rcb5 W d hW fd) c e1 g1 e2 m h1 e3 n1 n2 k0 H411 H402 H330 H321 H312 H303 H240 H231 H222 H213 H204 H150 H141 H132 H123 H114 H105 H060 H051 H042 H033 H024 H015 H006 he hc hp t420 t411 t402 t330 t321 t312 t303 t240 t231 t222 t213 t204 t150 t141 t132 t123 t114 t105 t060 t051 t042 t033 t024 t015 t006 d411 d330 d321 d312 d240 d231 d222 d213
  · obtain ⟨a, ba, fa⟩ := fac6 X hX (kd_lin X _ _ _ _ _ _ _ _ _ q hz X gX)
    obtain ⟨b, bb, fb⟩ := fac6 Y hY (kd_lin X _ _ _ _ _ _ _ _ _ q hz Y gY)
    obtain ⟨d, bd, fd⟩ := fac6 W hW (kd_lin X _ _ _ _ _ _ _ _ _ q hz W gW)
    exact joinAb 1 (-2) X Y W a b d fa fb fd ba bb bd (dbl6 X a fa q.2) (rcb6 Y b hY fb) (rcb6 W d hW fd) c e1 g1 e2 m h1 e3 n1 n2 k0 H411 H402 H330 H321 H312 H303 H240 H231 H222 H213 H204 H150 H141 H132 H123 H114 H105 H060 H051 H042 H033 H024 H015 H006 he hc hp t420 t411 t402 t330 t321 t312 t303 t240 t231 t222 t213 t204 t150 t141 t132 t123 t114 t105 t060 t051 t042 t033 t024 t015 t006 d411 d330 d321 d312 d240 d231 d222 d213
  · obtain ⟨a, ba, fa⟩ := fac7 X hX (kd_lin X _ _ _ _ _ _ _ _ _ q hz X gX)
    obtain ⟨b, bb, fb⟩ := fac7 Y hY (kd_lin X _ _ _ _ _ _ _ _ _ q hz Y gY)
    obtain ⟨d, bd, fd⟩ := fac7 W hW (kd_lin X _ _ _ _ _ _ _ _ _ q hz W gW)
    exact joinAb 2 1 X Y W a b d fa fb fd ba bb bd (dbl7 X a fa q.2) (rcb7 Y b hY fb) (rcb7 W d hW fd) c e1 g1 e2 m h1 e3 n1 n2 k0 H411 H402 H330 H321 H312 H303 H240 H231 H222 H213 H204 H150 H141 H132 H123 H114 H105 H060 H051 H042 H033 H024 H015 H006 he hc hp t420 t411 t402 t330 t321 t312 t303 t240 t231 t222 t213 t204 t150 t141 t132 t123 t114 t105 t060 t051 t042 t033 t024 t015 t006 d411 d330 d321 d312 d240 d231 d222 d213
  · obtain ⟨a, ba, fa⟩ := fac8 X hX (kd_lin X _ _ _ _ _ _ _ _ _ q hz X gX)
    obtain ⟨b, bb, fb⟩ := fac8 Y hY (kd_lin X _ _ _ _ _ _ _ _ _ q hz Y gY)
    obtain ⟨d, bd, fd⟩ := fac8 W hW (kd_lin X _ _ _ _ _ _ _ _ _ q hz W gW)
    exact joinAb 2 (-1) X Y W a b d fa fb fd ba bb bd (dbl8 X a fa q.2) (rcb8 Y b hY fb) (rcb8 W d hW fd) c e1 g1 e2 m h1 e3 n1 n2 k0 H411 H402 H330 H321 H312 H303 H240 H231 H222 H213 H204 H150 H141 H132 H123 H114 H105 H060 H051 H042 H033 H024 H015 H006 he hc hp t420 t411 t402 t330 t321 t312 t303 t240 t231 t222 t213 t204 t150 t141 t132 t123 t114 t105 t060 t051 t042 t033 t024 t015 t006 d411 d330 d321 d312 d240 d231 d222 d213
