/-! lead x^2 y^4: the chain where both invariants of the first are 0 -/
theorem d_step (c e a x U T s S H : Int) (n B : Nat) (hc : c ≠ 0) (ha : a ≠ 0) (hC : 27 * c * (e * e) = -(a * a)) (hT : T = 27 * c * (2 * e * x + s + 18446744073709551616 * H)) (bT : T.natAbs ≤ n * 4135715297) (bs : s.natAbs ≤ B) (hs : 27 * c * s = -S) (hU : T = -(2 * (a * U)) - S) (d : (2 * e * x).natAbs ≤ 2 ^ 63) (hn : n * 153174641 + B < 2 ^ 63) : H = 0 ∧ a * x = U * e := by
  obtain ⟨z, -⟩ := dig_true e x _ s H _ B rfl (fb1 c _ _ n hc hT bT) bs d hn
  refine ⟨z, ?_⟩
  rw [z, Int.mul_zero, Int.add_zero] at hT
  exact d_dig (27 * c) e a x U T s S ha hC hT hs hU
theorem tz402 (X Y W : Nat → Int) (hI : qI X = 0) (hJ : qJ X = 0) (h1 : qI1 X Y = 0) (h2 : qJ1 X Y = 0) : tT402 X Y W = -(qJ1 X W * qJ1 X W) := by
  unfold tT402 qT402
  try rw [hI]
  try rw [hJ]
  try rw [h1]
  try rw [h2]
  grind
theorem tz321 (X Y W : Nat → Int) (hI : qI X = 0) (hJ : qJ X = 0) (h1 : qI1 X Y = 0) (h2 : qJ1 X Y = 0) : tT321 X Y W = -(2 * (qJ1 Y X * qJ1 X W)) - 0 := by
  unfold tT321 qT321
  try rw [hI]
  try rw [hJ]
  try rw [h1]
  try rw [h2]
  grind
theorem tz312 (X Y W : Nat → Int) (hI : qI X = 0) (hJ : qJ X = 0) (h1 : qI1 X Y = 0) (h2 : qJ1 X Y = 0) : tT312 X Y W = 0 - 2 * (qJ1 X W * qJ3 X Y W) := by
  unfold tT312 qT312
  try rw [hI]
  try rw [hJ]
  try rw [h1]
  try rw [h2]
  grind
theorem tz303 (X Y W : Nat → Int) (hI : qI X = 0) (hJ : qJ X = 0) (h1 : qI1 X Y = 0) (h2 : qJ1 X Y = 0) : tT303 X Y W = 4 * (qI1 X W * (qI1 X W * qI1 X W)) - 2 * (qJ1 X W * qJ1 W X) := by
  unfold tT303 qT303
  try rw [hI]
  try rw [hJ]
  try rw [h1]
  try rw [h2]
  grind
theorem tz240 (X Y W : Nat → Int) (hI : qI X = 0) (hJ : qJ X = 0) (h1 : qI1 X Y = 0) (h2 : qJ1 X Y = 0) : tT240 X Y W = -(qJ1 Y X * qJ1 Y X) := by
  unfold tT240 qT240
  try rw [hI]
  try rw [hJ]
  try rw [h1]
  try rw [h2]
  grind
theorem tz231 (X Y W : Nat → Int) (hI : qI X = 0) (hJ : qJ X = 0) (h1 : qI1 X Y = 0) (h2 : qJ1 X Y = 0) : tT231 X Y W = -(2 * (qJ1 Y X * qJ3 X Y W)) - 2 * (qJ1 X W * qJ Y) := by
  unfold tT231 qT231
  try rw [hI]
  try rw [hJ]
  try rw [h1]
  try rw [h2]
  grind
theorem tz222 (X Y W : Nat → Int) (hI : qI X = 0) (hJ : qJ X = 0) (h1 : qI1 X Y = 0) (h2 : qJ1 X Y = 0) : tT222 X Y W = 12 * (qI1 X W * (qI1 X W * qI Y)) - (2 * (qJ1 Y X * qJ1 W X) + (qJ3 X Y W * qJ3 X Y W + 2 * (qJ1 X W * qJ1 Y W))) := by
  unfold tT222 qT222
  try rw [hI]
  try rw [hJ]
  try rw [h1]
  try rw [h2]
  grind
theorem tz213 (X Y W : Nat → Int) (hI : qI X = 0) (hJ : qJ X = 0) (h1 : qI1 X Y = 0) (h2 : qJ1 X Y = 0) : tT213 X Y W = 12 * (qI1 X W * (qI1 X W * qI1 Y W)) - (2 * (qJ1 X W * qJ1 W Y) + 2 * (qJ3 X Y W * qJ1 W X)) := by
  unfold tT213 qT213
  try rw [hI]
  try rw [hJ]
  try rw [h1]
  try rw [h2]
  grind
theorem tz204 (X Y W : Nat → Int) (hI : qI X = 0) (hJ : qJ X = 0) (h1 : qI1 X Y = 0) (h2 : qJ1 X Y = 0) : tT204 X Y W = 12 * (qI1 X W * (qI1 X W * qI W)) - (2 * (qJ1 X W * qJ W) + qJ1 W X * qJ1 W X) := by
  unfold tT204 qT204
  try rw [hI]
  try rw [hJ]
  try rw [h1]
  try rw [h2]
  grind
theorem tz150 (X Y W : Nat → Int) (hI : qI X = 0) (hJ : qJ X = 0) (h1 : qI1 X Y = 0) (h2 : qJ1 X Y = 0) : tT150 X Y W = -(2 * (qJ1 Y X * qJ Y)) - 0 := by
  unfold tT150 qT150
  try rw [hI]
  try rw [hJ]
  try rw [h1]
  try rw [h2]
  grind
theorem tz141 (X Y W : Nat → Int) (hI : qI X = 0) (hJ : qJ X = 0) (h1 : qI1 X Y = 0) (h2 : qJ1 X Y = 0) : tT141 X Y W = 12 * (qI1 X W * (qI Y * qI Y)) - (2 * (qJ1 Y X * qJ1 Y W) + 2 * (qJ3 X Y W * qJ Y)) := by
  unfold tT141 qT141
  try rw [hI]
  try rw [hJ]
  try rw [h1]
  try rw [h2]
  grind
theorem tz132 (X Y W : Nat → Int) (hI : qI X = 0) (hJ : qJ X = 0) (h1 : qI1 X Y = 0) (h2 : qJ1 X Y = 0) : tT132 X Y W = 24 * (qI1 X W * (qI Y * qI1 Y W)) - (2 * (qJ1 Y X * qJ1 W Y) + (2 * (qJ3 X Y W * qJ1 Y W) + 2 * (qJ1 W X * qJ Y))) := by
  unfold tT132 qT132
  try rw [hI]
  try rw [hJ]
  try rw [h1]
  try rw [h2]
  grind
theorem tz123 (X Y W : Nat → Int) (hI : qI X = 0) (hJ : qJ X = 0) (h1 : qI1 X Y = 0) (h2 : qJ1 X Y = 0) : tT123 X Y W = 24 * (qI1 X W * (qI Y * qI W)) + 12 * (qI1 X W * (qI1 Y W * qI1 Y W)) - (2 * (qJ1 Y X * qJ W) + (2 * (qJ1 W X * qJ1 Y W) + 2 * (qJ3 X Y W * qJ1 W Y))) := by
  unfold tT123 qT123
  try rw [hI]
  try rw [hJ]
  try rw [h1]
  try rw [h2]
  grind
theorem tz114 (X Y W : Nat → Int) (hI : qI X = 0) (hJ : qJ X = 0) (h1 : qI1 X Y = 0) (h2 : qJ1 X Y = 0) : tT114 X Y W = 24 * (qI1 X W * (qI1 Y W * qI W)) - (2 * (qJ1 W X * qJ1 W Y) + 2 * (qJ3 X Y W * qJ W)) := by
  unfold tT114 qT114
  try rw [hI]
  try rw [hJ]
  try rw [h1]
  try rw [h2]
  grind
theorem tz105 (X Y W : Nat → Int) (hI : qI X = 0) (hJ : qJ X = 0) (h1 : qI1 X Y = 0) (h2 : qJ1 X Y = 0) : tT105 X Y W = 12 * (qI1 X W * (qI W * qI W)) - 2 * (qJ1 W X * qJ W) := by
  unfold tT105 qT105
  try rw [hI]
  try rw [hJ]
  try rw [h1]
  try rw [h2]
  grind
theorem tz060 (X Y W : Nat → Int) (hI : qI X = 0) (hJ : qJ X = 0) (h1 : qI1 X Y = 0) (h2 : qJ1 X Y = 0) : tT060 X Y W = 4 * (qI Y * (qI Y * qI Y)) - qJ Y * qJ Y := by
  unfold tT060 qT060
  try rw [hI]
  try rw [hJ]
  try rw [h1]
  try rw [h2]
  grind
theorem tz051 (X Y W : Nat → Int) (hI : qI X = 0) (hJ : qJ X = 0) (h1 : qI1 X Y = 0) (h2 : qJ1 X Y = 0) : tT051 X Y W = 12 * (qI Y * (qI Y * qI1 Y W)) - 2 * (qJ Y * qJ1 Y W) := by
  unfold tT051 qT051
  try rw [hI]
  try rw [hJ]
  try rw [h1]
  try rw [h2]
  grind
theorem tz042 (X Y W : Nat → Int) (hI : qI X = 0) (hJ : qJ X = 0) (h1 : qI1 X Y = 0) (h2 : qJ1 X Y = 0) : tT042 X Y W = 12 * (qI Y * (qI Y * qI W)) + 12 * (qI Y * (qI1 Y W * qI1 Y W)) - (qJ1 Y W * qJ1 Y W + 2 * (qJ Y * qJ1 W Y)) := by
  unfold tT042 qT042
  try rw [hI]
  try rw [hJ]
  try rw [h1]
  try rw [h2]
  grind
theorem tz033 (X Y W : Nat → Int) (hI : qI X = 0) (hJ : qJ X = 0) (h1 : qI1 X Y = 0) (h2 : qJ1 X Y = 0) : tT033 X Y W = 24 * (qI Y * (qI1 Y W * qI W)) + 4 * (qI1 Y W * (qI1 Y W * qI1 Y W)) - (2 * (qJ Y * qJ W) + 2 * (qJ1 Y W * qJ1 W Y)) := by
  unfold tT033 qT033
  try rw [hI]
  try rw [hJ]
  try rw [h1]
  try rw [h2]
  grind
theorem tz024 (X Y W : Nat → Int) (hI : qI X = 0) (hJ : qJ X = 0) (h1 : qI1 X Y = 0) (h2 : qJ1 X Y = 0) : tT024 X Y W = 12 * (qI Y * (qI W * qI W)) + 12 * (qI1 Y W * (qI1 Y W * qI W)) - (qJ1 W Y * qJ1 W Y + 2 * (qJ W * qJ1 Y W)) := by
  unfold tT024 qT024
  try rw [hI]
  try rw [hJ]
  try rw [h1]
  try rw [h2]
  grind
theorem tz015 (X Y W : Nat → Int) (hI : qI X = 0) (hJ : qJ X = 0) (h1 : qI1 X Y = 0) (h2 : qJ1 X Y = 0) : tT015 X Y W = 12 * (qI1 Y W * (qI W * qI W)) - 2 * (qJ W * qJ1 W Y) := by
  unfold tT015 qT015
  try rw [hI]
  try rw [hJ]
  try rw [h1]
  try rw [h2]
  grind
theorem tz006 (X Y W : Nat → Int) (hI : qI X = 0) (hJ : qJ X = 0) (h1 : qI1 X Y = 0) (h2 : qJ1 X Y = 0) : tT006 X Y W = 4 * (qI W * (qI W * qI W)) - qJ W * qJ W := by
  unfold tT006 qT006
  try rw [hI]
  try rw [hJ]
  try rw [h1]
  try rw [h2]
  grind
theorem sqD0 (X Y W : Nat → Int) (hX : bx7 X) (hY : bx7 Y) (hW : bx7 W) (hI : qI X = 0) (hJ : qJ X = 0) (h1i : qI1 X Y = 0) (h2j : qJ1 X Y = 0) (c g1 e2 m h1 e3 n1 n2 k0 H402 H321 H312 H303 H231 H222 H213 H204 H150 H141 H132 H123 H114 H105 H060 H051 H042 H033 H024 H015 H006 : Int) (he : e2 ≠ 0) (hc : c ≠ 0) (t402 : tT402 X Y W = 27 * c * (g1 * g1 + 18446744073709551616 * H402)) (t321 : tT321 X Y W = 27 * c * (2 * e2 * g1 + 18446744073709551616 * H321)) (t312 : tT312 X Y W = 27 * c * (2 * g1 * m + 18446744073709551616 * H312)) (t303 : tT303 X Y W = 27 * c * (2 * g1 * h1 + 18446744073709551616 * H303)) (t240 : tT240 X Y W = 27 * c * (e2 * e2)) (t231 : tT231 X Y W = 27 * c * (2 * e2 * m + 2 * g1 * e3 + 18446744073709551616 * H231)) (t222 : tT222 X Y W = 27 * c * (2 * e2 * h1 + (m * m + 2 * g1 * n1) + 18446744073709551616 * H222)) (t213 : tT213 X Y W = 27 * c * (2 * g1 * n2 + 2 * m * h1 + 18446744073709551616 * H213)) (t204 : tT204 X Y W = 27 * c * (2 * g1 * k0 + h1 * h1 + 18446744073709551616 * H204)) (t150 : tT150 X Y W = 27 * c * (2 * e2 * e3 + 18446744073709551616 * H150)) (t141 : tT141 X Y W = 27 * c * (2 * e2 * n1 + 2 * m * e3 + 18446744073709551616 * H141)) (t132 : tT132 X Y W = 27 * c * (2 * e2 * n2 + (2 * m * n1 + 2 * h1 * e3) + 18446744073709551616 * H132)) (t123 : tT123 X Y W = 27 * c * (2 * e2 * k0 + (2 * h1 * n1 + 2 * m * n2) + 18446744073709551616 * H123)) (t114 : tT114 X Y W = 27 * c * (2 * h1 * n2 + 2 * m * k0 + 18446744073709551616 * H114)) (t105 : tT105 X Y W = 27 * c * (2 * h1 * k0 + 18446744073709551616 * H105)) (t060 : tT060 X Y W = 27 * c * (e3 * e3 + 18446744073709551616 * H060)) (t051 : tT051 X Y W = 27 * c * (2 * e3 * n1 + 18446744073709551616 * H051)) (t042 : tT042 X Y W = 27 * c * (n1 * n1 + 2 * e3 * n2 + 18446744073709551616 * H042)) (t033 : tT033 X Y W = 27 * c * (2 * e3 * k0 + 2 * n1 * n2 + 18446744073709551616 * H033)) (t024 : tT024 X Y W = 27 * c * (n2 * n2 + 2 * k0 * n1 + 18446744073709551616 * H024)) (t015 : tT015 X Y W = 27 * c * (2 * k0 * n2 + 18446744073709551616 * H015)) (t006 : tT006 X Y W = 27 * c * (k0 * k0 + 18446744073709551616 * H006)) (d150 : (2 * e2 * e3).natAbs ≤ 2 ^ 63) (d321 : (2 * e2 * g1).natAbs ≤ 2 ^ 63) (d231 : (2 * e2 * m).natAbs ≤ 2 ^ 63) (d141 : (2 * e2 * n1).natAbs ≤ 2 ^ 63) (d222 : (2 * e2 * h1).natAbs ≤ 2 ^ 63) (d132 : (2 * e2 * n2).natAbs ≤ 2 ^ 63) (d123 : (2 * e2 * k0).natAbs ≤ 2 ^ 63) :
    H402 = 0 ∧ H321 = 0 ∧ H312 = 0 ∧ H303 = 0 ∧ H231 = 0 ∧ H222 = 0 ∧ H213 = 0 ∧ H204 = 0 ∧ H150 = 0 ∧ H141 = 0 ∧ H132 = 0 ∧ H123 = 0 ∧ H114 = 0 ∧ H105 = 0 ∧ H060 = 0 ∧ H051 = 0 ∧ H042 = 0 ∧ H033 = 0 ∧ H024 = 0 ∧ H015 = 0 ∧ H006 = 0 := by
  have u402 := tz402 X Y W hI hJ h1i h2j
  have u321 := tz321 X Y W hI hJ h1i h2j
  have u312 := tz312 X Y W hI hJ h1i h2j
  have u303 := tz303 X Y W hI hJ h1i h2j
  have u240 := tz240 X Y W hI hJ h1i h2j
  have u231 := tz231 X Y W hI hJ h1i h2j
  have u222 := tz222 X Y W hI hJ h1i h2j
  have u213 := tz213 X Y W hI hJ h1i h2j
  have u204 := tz204 X Y W hI hJ h1i h2j
  have u150 := tz150 X Y W hI hJ h1i h2j
  have u141 := tz141 X Y W hI hJ h1i h2j
  have u132 := tz132 X Y W hI hJ h1i h2j
  have u123 := tz123 X Y W hI hJ h1i h2j
  have u114 := tz114 X Y W hI hJ h1i h2j
  have u105 := tz105 X Y W hI hJ h1i h2j
  have u060 := tz060 X Y W hI hJ h1i h2j
  have u051 := tz051 X Y W hI hJ h1i h2j
  have u042 := tz042 X Y W hI hJ h1i h2j
  have u033 := tz033 X Y W hI hJ h1i h2j
  have u024 := tz024 X Y W hI hJ h1i h2j
  have u015 := tz015 X Y W hI hJ h1i h2j
  have u006 := tz006 X Y W hI hJ h1i h2j
  have Ba0 := bJ1 Y X hY hX
  have Ba1 := bJ3 X Y W hX hY hW
  have Ba2 := bJ1 W X hW hX
  have Bg := bJ1 X W hX hW
  have Bal := bI1 X W hX hW
  have Bi2 := bI Y hY
  have Bia := bI1 Y W hY hW
  have Bib := bI W hW
  have Bb3 := bJ Y hY
  have Bb2 := bJ1 Y W hY hW
  have Bb1 := bJ1 W Y hW hY
  have Bb0 := bJ W hW
  have L402 := tT402_le X Y W hX hY hW
  have L321 := tT321_le X Y W hX hY hW
  have L312 := tT312_le X Y W hX hY hW
  have L303 := tT303_le X Y W hX hY hW
  have L240 := tT240_le X Y W hX hY hW
  have L231 := tT231_le X Y W hX hY hW
  have L222 := tT222_le X Y W hX hY hW
  have L213 := tT213_le X Y W hX hY hW
  have L204 := tT204_le X Y W hX hY hW
  have L150 := tT150_le X Y W hX hY hW
  have L141 := tT141_le X Y W hX hY hW
  have L132 := tT132_le X Y W hX hY hW
  have L123 := tT123_le X Y W hX hY hW
  have L114 := tT114_le X Y W hX hY hW
  have L105 := tT105_le X Y W hX hY hW
  have L060 := tT060_le X Y W hX hY hW
  have L051 := tT051_le X Y W hX hY hW
  have L042 := tT042_le X Y W hX hY hW
  have L033 := tT033_le X Y W hX hY hW
  have L024 := tT024_le X Y W hX hY hW
  have L015 := tT015_le X Y W hX hY hW
  have L006 := tT006_le X Y W hX hY hW
  generalize qJ1 Y X = a0 at *
  generalize qJ3 X Y W = a1 at *
  generalize qJ1 W X = a2 at *
  generalize qJ1 X W = g at *
  generalize qI1 X W = al at *
  generalize qI Y = i2 at *
  generalize qI1 Y W = ia at *
  generalize qI W = ib at *
  generalize qJ Y = b3 at *
  generalize qJ1 Y W = b2 at *
  generalize qJ1 W Y = b1 at *
  generalize qJ W = b0 at *
  generalize tT402 X Y W = T402 at *
  generalize tT321 X Y W = T321 at *
  generalize tT312 X Y W = T312 at *
  generalize tT303 X Y W = T303 at *
  generalize tT240 X Y W = T240 at *
  generalize tT231 X Y W = T231 at *
  generalize tT222 X Y W = T222 at *
  generalize tT213 X Y W = T213 at *
  generalize tT204 X Y W = T204 at *
  generalize tT150 X Y W = T150 at *
  generalize tT141 X Y W = T141 at *
  generalize tT132 X Y W = T132 at *
  generalize tT123 X Y W = T123 at *
  generalize tT114 X Y W = T114 at *
  generalize tT105 X Y W = T105 at *
  generalize tT060 X Y W = T060 at *
  generalize tT051 X Y W = T051 at *
  generalize tT042 X Y W = T042 at *
  generalize tT033 X Y W = T033 at *
  generalize tT024 X Y W = T024 at *
  generalize tT015 X Y W = T015 at *
  generalize tT006 X Y W = T006 at *
  have hC27 : 27 ≤ (27 * c).natAbs := by
    rw [Int.natAbs_mul]
    exact Nat.le_mul_of_pos_right 27 (Int.natAbs_pos.mpr hc)
  have hC : 27 * c * (e2 * e2) = -(a0 * a0) := t240.symm.trans u240
  have ha : a0 ≠ 0 := by
    intro r
    rw [r, Int.zero_mul, Int.neg_zero] at hC
    exact absurd hC (Int.mul_ne_zero (Int.mul_ne_zero (by decide) hc) (Int.mul_ne_zero he he))
  have hea : e2.natAbs ≤ a0.natAbs := by
    apply sq_le'
    have := congrArg Int.natAbs hC
    rw [Int.natAbs_neg, Int.natAbs_mul, Int.natAbs_mul e2, Int.natAbs_mul a0] at this
    rw [← this]
    exact Nat.le_mul_of_pos_left _ (by omega)
  have z0 : 27 * c * 0 = -(0 : Int) := by rw [Int.mul_zero]; rfl
  have cc := d_cc (27 * c) e2 a0
  have ccn : ∀ (u v U V : Int), a0 * u = U * e2 → a0 * v = V * e2 → 27 * c * (2 * u * v) = -(2 * (U * V)) := by
    intro u v U V hu hv
    have e1 : 27 * c * (2 * u * v) = 2 * (27 * c * (u * v)) := by
      clear hu hv
      grind
    rw [e1, cc u v U V ha hC hu hv]
    omega
  have add : ∀ (p q P Q : Int), 27 * c * p = -P → 27 * c * q = -Q → 27 * c * (p + q) = -(P + Q) := by
    intro p q P Q hp hq
    rw [Int.mul_add, hp, hq]
    omega
  -- e3
  obtain ⟨w150, p3⟩ := d_step c e2 a0 e3 b3 T150 0 0 H150 6 0 hc ha hC (by rw [Int.add_zero]; exact t150) L150 (by decide) z0 u150 d150 (by decide)
  have s3 := d_small a0 e3 b3 e2 _ ha p3 hea Bb3
  -- the second's first invariant
  obtain ⟨w060, r060⟩ := d_left (27 * c) _ H060 T060 _ _ 2000000000 hC27 t060 (cc e3 e3 b3 b3 ha hC p3 p3) u060 (Nat.le_trans (nmul_le k4 (nmul_le Bi2 (nmul_le Bi2 Bi2))) (by decide)) (by decide)
  have i20 := cube_zero i2 r060
  -- g1
  obtain ⟨w321, pg⟩ := d_step c e2 a0 g1 g T321 0 0 H321 60 0 hc ha hC (by rw [Int.add_zero]; exact t321) L321 (by decide) z0 u321 d321 (by decide)
  have sg := d_small a0 g1 g e2 _ ha pg hea Bg
  have w402 := (d_left (27 * c) _ H402 T402 _ 0 0 hC27 t402 (cc g1 g1 g g ha hC pg pg) (by rw [u402]; omega) (by decide) (by decide)).1
  -- m
  obtain ⟨w231, pm⟩ := d_step c e2 a0 m a1 T231 (2 * g1 * e3) _ H231 60 _ hc ha hC t231 L231 (nmul_le (nmul_le k2 sg) s3) (ccn g1 e3 g b3 pg p3) u231 d231 (by decide)
  have sm := d_small a0 m a1 e2 _ ha pm hea Ba1
  have w312 := (d_left (27 * c) _ H312 T312 _ 0 0 hC27 t312 (ccn g1 m g a1 pg pm) u312 (by decide) (by decide)).1
  -- n1
  obtain ⟨w141, pn1⟩ := d_step c e2 a0 n1 b2 T141 (2 * m * e3) _ H141 30 _ hc ha hC t141 L141 (nmul_le (nmul_le k2 sm) s3) (ccn m e3 a1 b3 pm p3) (by rw [u141, i20]; omega) d141 (by decide)
  have sn1 := d_small a0 n1 b2 e2 _ ha pn1 hea Bb2
  -- h1
  obtain ⟨w222, ph⟩ := d_step c e2 a0 h1 a2 T222 (m * m + 2 * g1 * n1) _ H222 90 _ hc ha hC t222 L222 (na_le (nmul_le sm sm) (nmul_le (nmul_le k2 sg) sn1)) (add _ _ _ _ (cc m m a1 a1 ha hC pm pm) (ccn g1 n1 g b2 pg pn1)) (by rw [u222, i20]; omega) d222 (by decide)
  have sh := d_small a0 h1 a2 e2 _ ha ph hea Ba2
  obtain ⟨w303, r303⟩ := d_left (27 * c) _ H303 T303 _ _ 20000000000 hC27 t303 (ccn g1 h1 g a2 pg ph) u303 (Nat.le_trans (nmul_le k4 (nmul_le Bal (nmul_le Bal Bal))) (by decide)) (by decide)
  have al0 := cube_zero al r303
  -- n2, k0
  obtain ⟨w132, pn2⟩ := d_step c e2 a0 n2 b1 T132 (2 * m * n1 + 2 * h1 * e3) _ H132 60 _ hc ha hC t132 L132 (na_le (nmul_le (nmul_le k2 sm) sn1) (nmul_le (nmul_le k2 sh) s3)) (add _ _ _ _ (ccn m n1 a1 b2 pm pn1) (ccn h1 e3 a2 b3 ph p3)) (by rw [u132, al0]; omega) d132 (by decide)
  have sn2 := d_small a0 n2 b1 e2 _ ha pn2 hea Bb1
  obtain ⟨w123, pk0⟩ := d_step c e2 a0 k0 b0 T123 (2 * h1 * n1 + 2 * m * n2) _ H123 60 _ hc ha hC t123 L123 (na_le (nmul_le (nmul_le k2 sh) sn1) (nmul_le (nmul_le k2 sm) sn2)) (add _ _ _ _ (ccn h1 n1 a2 b2 ph pn1) (ccn m n2 a1 b1 pm pn2)) (by rw [u123, al0]; omega) d123 (by decide)
  -- the rest
  have w213 := (d_left (27 * c) _ H213 T213 _ 0 0 hC27 t213 (add _ _ _ _ (ccn g1 n2 g b1 pg pn2) (ccn m h1 a1 a2 pm ph)) (by rw [u213, al0]; omega) (by decide) (by decide)).1
  have w204 := (d_left (27 * c) _ H204 T204 _ 0 0 hC27 t204 (add _ _ _ _ (ccn g1 k0 g b0 pg pk0) (cc h1 h1 a2 a2 ha hC ph ph)) (by rw [u204, al0]; omega) (by decide) (by decide)).1
  have w114 := (d_left (27 * c) _ H114 T114 _ 0 0 hC27 t114 (add _ _ _ _ (ccn h1 n2 a2 b1 ph pn2) (ccn m k0 a1 b0 pm pk0)) (by rw [u114, al0]; omega) (by decide) (by decide)).1
  have w105 := (d_left (27 * c) _ H105 T105 _ 0 0 hC27 t105 (ccn h1 k0 a2 b0 ph pk0) (by rw [u105, al0]; omega) (by decide) (by decide)).1
  have w051 := (d_left (27 * c) _ H051 T051 _ 0 0 hC27 t051 (ccn e3 n1 b3 b2 p3 pn1) (by rw [u051, i20]; omega) (by decide) (by decide)).1
  have w042 := (d_left (27 * c) _ H042 T042 _ 0 0 hC27 t042 (add _ _ _ _ (cc n1 n1 b2 b2 ha hC pn1 pn1) (ccn e3 n2 b3 b1 p3 pn2)) (by rw [u042, i20]; omega) (by decide) (by decide)).1
  obtain ⟨w033, r033⟩ := d_left (27 * c) _ H033 T033 _ (4 * (ia * (ia * ia))) 20000000000 hC27 t033 (add _ _ _ _ (ccn e3 k0 b3 b0 p3 pk0) (ccn n1 n2 b2 b1 pn1 pn2)) (by rw [u033, i20]; omega) (Nat.le_trans (nmul_le k4 (nmul_le Bia (nmul_le Bia Bia))) (by decide)) (by decide)
  have ia0 := cube_zero ia r033
  have w024 := (d_left (27 * c) _ H024 T024 _ 0 0 hC27 t024 (add _ _ _ _ (cc n2 n2 b1 b1 ha hC pn2 pn2) (ccn k0 n1 b0 b2 pk0 pn1)) (by rw [u024, i20, ia0]; omega) (by decide) (by decide)).1
  have w015 := (d_left (27 * c) _ H015 T015 _ 0 0 hC27 t015 (ccn k0 n2 b0 b1 pk0 pn2) (by rw [u015, ia0]; omega) (by decide) (by decide)).1
  have w006 := (d_left (27 * c) _ H006 T006 _ _ 2000000000 hC27 t006 (cc k0 k0 b0 b0 ha hC pk0 pk0) u006 (Nat.le_trans (nmul_le k4 (nmul_le Bib (nmul_le Bib Bib))) (by decide)) (by decide)).1
  exact ⟨w402, w321, w312, w303, w231, w222, w213, w204, w150, w141, w132, w123, w114, w105, w060, w051, w042, w033, w024, w015, w006⟩
