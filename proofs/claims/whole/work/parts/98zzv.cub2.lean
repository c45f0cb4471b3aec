/-! THE CUBE, lead x^3 y^3: the chain where both invariants of the first are 0 -/
theorem tc330 (X Y W : Nat → Int) (hI : qI X = 0) (hJ : qJ X = 0) (h1 : qJ1 X Y = 0) (h2 : qJ1 X W = 0) : tT330 X Y W = 4 * (qI1 X Y * (qI1 X Y * qI1 X Y)) := by
  unfold tT330 qT330
  try rw [hI]
  try rw [hJ]
  try rw [h1]
  try rw [h2]
  grind
theorem tc321 (X Y W : Nat → Int) (hI : qI X = 0) (hJ : qJ X = 0) (h1 : qJ1 X Y = 0) (h2 : qJ1 X W = 0) : tT321 X Y W = 12 * (qI1 X Y * (qI1 X Y * qI1 X W)) := by
  unfold tT321 qT321
  try rw [hI]
  try rw [hJ]
  try rw [h1]
  try rw [h2]
  grind
theorem tc312 (X Y W : Nat → Int) (hI : qI X = 0) (hJ : qJ X = 0) (h1 : qJ1 X Y = 0) (h2 : qJ1 X W = 0) : tT312 X Y W = 12 * (qI1 X Y * (qI1 X W * qI1 X W)) := by
  unfold tT312 qT312
  try rw [hI]
  try rw [hJ]
  try rw [h1]
  try rw [h2]
  grind
theorem tc303 (X Y W : Nat → Int) (hI : qI X = 0) (hJ : qJ X = 0) (h1 : qJ1 X Y = 0) (h2 : qJ1 X W = 0) : tT303 X Y W = 4 * (qI1 X W * (qI1 X W * qI1 X W)) := by
  unfold tT303 qT303
  try rw [hI]
  try rw [hJ]
  try rw [h1]
  try rw [h2]
  grind
theorem tc240 (X Y W : Nat → Int) (hI : qI X = 0) (hJ : qJ X = 0) (h1 : qJ1 X Y = 0) (h2 : qJ1 X W = 0) : tT240 X Y W = 12 * (qI1 X Y * (qI1 X Y * qI Y)) - qJ1 Y X * qJ1 Y X := by
  unfold tT240 qT240
  try rw [hI]
  try rw [hJ]
  try rw [h1]
  try rw [h2]
  grind
theorem tc231 (X Y W : Nat → Int) (hI : qI X = 0) (hJ : qJ X = 0) (h1 : qJ1 X Y = 0) (h2 : qJ1 X W = 0) : tT231 X Y W = 12 * (qI1 X Y * (qI1 X Y * qI1 Y W)) + 24 * (qI1 X Y * (qI1 X W * qI Y)) - 2 * (qJ1 Y X * qJ3 X Y W) := by
  unfold tT231 qT231
  try rw [hI]
  try rw [hJ]
  try rw [h1]
  try rw [h2]
  grind
theorem tc222 (X Y W : Nat → Int) (hI : qI X = 0) (hJ : qJ X = 0) (h1 : qJ1 X Y = 0) (h2 : qJ1 X W = 0) : tT222 X Y W = 12 * (qI1 X Y * (qI1 X Y * qI W)) + 24 * (qI1 X Y * (qI1 X W * qI1 Y W)) + 12 * (qI1 X W * (qI1 X W * qI Y)) - 2 * (qJ1 Y X * qJ1 W X) - qJ3 X Y W * qJ3 X Y W := by
  unfold tT222 qT222
  try rw [hI]
  try rw [hJ]
  try rw [h1]
  try rw [h2]
  grind
theorem tc213 (X Y W : Nat → Int) (hI : qI X = 0) (hJ : qJ X = 0) (h1 : qJ1 X Y = 0) (h2 : qJ1 X W = 0) : tT213 X Y W = 24 * (qI1 X Y * (qI1 X W * qI W)) + 12 * (qI1 X W * (qI1 X W * qI1 Y W)) - 2 * (qJ3 X Y W * qJ1 W X) := by
  unfold tT213 qT213
  try rw [hI]
  try rw [hJ]
  try rw [h1]
  try rw [h2]
  grind
theorem tc204 (X Y W : Nat → Int) (hI : qI X = 0) (hJ : qJ X = 0) (h1 : qJ1 X Y = 0) (h2 : qJ1 X W = 0) : tT204 X Y W = 12 * (qI1 X W * (qI1 X W * qI W)) - qJ1 W X * qJ1 W X := by
  unfold tT204 qT204
  try rw [hI]
  try rw [hJ]
  try rw [h1]
  try rw [h2]
  grind
theorem tc150 (X Y W : Nat → Int) (hI : qI X = 0) (hJ : qJ X = 0) (h1 : qJ1 X Y = 0) (h2 : qJ1 X W = 0) : tT150 X Y W = 12 * (qI1 X Y * (qI Y * qI Y)) - 2 * (qJ1 Y X * qJ Y) := by
  unfold tT150 qT150
  try rw [hI]
  try rw [hJ]
  try rw [h1]
  try rw [h2]
  grind
theorem tc141 (X Y W : Nat → Int) (hI : qI X = 0) (hJ : qJ X = 0) (h1 : qJ1 X Y = 0) (h2 : qJ1 X W = 0) : tT141 X Y W = 24 * (qI1 X Y * (qI Y * qI1 Y W)) + 12 * (qI1 X W * (qI Y * qI Y)) - 2 * (qJ1 Y X * qJ1 Y W) - 2 * (qJ3 X Y W * qJ Y) := by
  unfold tT141 qT141
  try rw [hI]
  try rw [hJ]
  try rw [h1]
  try rw [h2]
  grind
theorem tc132 (X Y W : Nat → Int) (hI : qI X = 0) (hJ : qJ X = 0) (h1 : qJ1 X Y = 0) (h2 : qJ1 X W = 0) : tT132 X Y W = 24 * (qI1 X Y * (qI Y * qI W)) + 12 * (qI1 X Y * (qI1 Y W * qI1 Y W)) + 24 * (qI1 X W * (qI Y * qI1 Y W)) - 2 * (qJ1 Y X * qJ1 W Y) - 2 * (qJ1 W X * qJ Y) - 2 * (qJ3 X Y W * qJ1 Y W) := by
  unfold tT132 qT132
  try rw [hI]
  try rw [hJ]
  try rw [h1]
  try rw [h2]
  grind
theorem tc123 (X Y W : Nat → Int) (hI : qI X = 0) (hJ : qJ X = 0) (h1 : qJ1 X Y = 0) (h2 : qJ1 X W = 0) : tT123 X Y W = 24 * (qI1 X Y * (qI1 Y W * qI W)) + 24 * (qI1 X W * (qI Y * qI W)) + 12 * (qI1 X W * (qI1 Y W * qI1 Y W)) - 2 * (qJ1 Y X * qJ W) - 2 * (qJ1 W X * qJ1 Y W) - 2 * (qJ3 X Y W * qJ1 W Y) := by
  unfold tT123 qT123
  try rw [hI]
  try rw [hJ]
  try rw [h1]
  try rw [h2]
  grind
theorem tc114 (X Y W : Nat → Int) (hI : qI X = 0) (hJ : qJ X = 0) (h1 : qJ1 X Y = 0) (h2 : qJ1 X W = 0) : tT114 X Y W = 12 * (qI1 X Y * (qI W * qI W)) + 24 * (qI1 X W * (qI1 Y W * qI W)) - 2 * (qJ1 W X * qJ1 W Y) - 2 * (qJ3 X Y W * qJ W) := by
  unfold tT114 qT114
  try rw [hI]
  try rw [hJ]
  try rw [h1]
  try rw [h2]
  grind
theorem tc105 (X Y W : Nat → Int) (hI : qI X = 0) (hJ : qJ X = 0) (h1 : qJ1 X Y = 0) (h2 : qJ1 X W = 0) : tT105 X Y W = 12 * (qI1 X W * (qI W * qI W)) - 2 * (qJ1 W X * qJ W) := by
  unfold tT105 qT105
  try rw [hI]
  try rw [hJ]
  try rw [h1]
  try rw [h2]
  grind
theorem tc060 (X Y W : Nat → Int) (hI : qI X = 0) (hJ : qJ X = 0) (h1 : qJ1 X Y = 0) (h2 : qJ1 X W = 0) : tT060 X Y W = 4 * (qI Y * (qI Y * qI Y)) - qJ Y * qJ Y := by
  unfold tT060 qT060
  try rw [hI]
  try rw [hJ]
  try rw [h1]
  try rw [h2]
  grind
theorem tc051 (X Y W : Nat → Int) (hI : qI X = 0) (hJ : qJ X = 0) (h1 : qJ1 X Y = 0) (h2 : qJ1 X W = 0) : tT051 X Y W = 12 * (qI Y * (qI Y * qI1 Y W)) - 2 * (qJ Y * qJ1 Y W) := by
  unfold tT051 qT051
  try rw [hI]
  try rw [hJ]
  try rw [h1]
  try rw [h2]
  grind
theorem tc042 (X Y W : Nat → Int) (hI : qI X = 0) (hJ : qJ X = 0) (h1 : qJ1 X Y = 0) (h2 : qJ1 X W = 0) : tT042 X Y W = 12 * (qI Y * (qI Y * qI W)) + 12 * (qI Y * (qI1 Y W * qI1 Y W)) - 2 * (qJ Y * qJ1 W Y) - qJ1 Y W * qJ1 Y W := by
  unfold tT042 qT042
  try rw [hI]
  try rw [hJ]
  try rw [h1]
  try rw [h2]
  grind
theorem tc033 (X Y W : Nat → Int) (hI : qI X = 0) (hJ : qJ X = 0) (h1 : qJ1 X Y = 0) (h2 : qJ1 X W = 0) : tT033 X Y W = 24 * (qI Y * (qI1 Y W * qI W)) + 4 * (qI1 Y W * (qI1 Y W * qI1 Y W)) - 2 * (qJ Y * qJ W) - 2 * (qJ1 Y W * qJ1 W Y) := by
  unfold tT033 qT033
  try rw [hI]
  try rw [hJ]
  try rw [h1]
  try rw [h2]
  grind
theorem tc024 (X Y W : Nat → Int) (hI : qI X = 0) (hJ : qJ X = 0) (h1 : qJ1 X Y = 0) (h2 : qJ1 X W = 0) : tT024 X Y W = 12 * (qI Y * (qI W * qI W)) + 12 * (qI1 Y W * (qI1 Y W * qI W)) - 2 * (qJ1 Y W * qJ W) - qJ1 W Y * qJ1 W Y := by
  unfold tT024 qT024
  try rw [hI]
  try rw [hJ]
  try rw [h1]
  try rw [h2]
  grind
theorem tc015 (X Y W : Nat → Int) (hI : qI X = 0) (hJ : qJ X = 0) (h1 : qJ1 X Y = 0) (h2 : qJ1 X W = 0) : tT015 X Y W = 12 * (qI1 Y W * (qI W * qI W)) - 2 * (qJ1 W Y * qJ W) := by
  unfold tT015 qT015
  try rw [hI]
  try rw [hJ]
  try rw [h1]
  try rw [h2]
  grind
theorem tc006 (X Y W : Nat → Int) (hI : qI X = 0) (hJ : qJ X = 0) (h1 : qJ1 X Y = 0) (h2 : qJ1 X W = 0) : tT006 X Y W = 4 * (qI W * (qI W * qI W)) - qJ W * qJ W := by
  unfold tT006 qT006
  try rw [hI]
  try rw [hJ]
  try rw [h1]
  try rw [h2]
  grind
theorem dig3 (p f s H : Int) (F T : Nat) (q : f = p + s + 18446744073709551616 * H) (hf : f.natAbs ≤ F) (hs : s.natAbs ≤ T) (hd : p.natAbs ≤ 9223372036854775808) (hT : F + T < 9223372036854775808) : H = 0 ∧ p.natAbs ≤ F + T := by
  have : H = 0 := by omega
  subst this
  exact ⟨rfl, by omega⟩
theorem cu_ea (e a : Nat) (K : Nat) (hK : 27 ≤ K) (h : K * (e * (e * e)) = 4 * (a * (a * a))) : e ≤ a := by
  rcases Nat.lt_or_ge a e with r | r
  · exfalso
    have a1 : a * (a * a) ≤ e * (e * e) := Nat.mul_le_mul (Nat.le_of_lt r) (Nat.mul_le_mul (Nat.le_of_lt r) (Nat.le_of_lt r))
    have a2 : 27 * (e * (e * e)) ≤ K * (e * (e * e)) := Nat.mul_le_mul hK (Nat.le_refl _)
    have a3 : 0 < e * (e * e) := Nat.mul_pos (by omega) (Nat.mul_pos (by omega) (by omega))
    omega
  · exact r
theorem three_dvd (a c y : Int) (h : 27 * c * y = 4 * (a * (a * a))) (ha : a ≠ 0) : 3 ≤ a.natAbs := by
  rw [Int.mul_assoc] at h
  have m : (a * (a * a)) % 3 = 0 := by omega
  have h3 : a % 3 = 0 := by
    have q : a % 3 = 0 ∨ a % 3 = 1 ∨ a % 3 = 2 := by omega
    rcases q with r | r | r
    · exact r
    · exfalso
      rw [Int.mul_emod, Int.mul_emod a a, r] at m
      exact absurd m (by decide)
    · exfalso
      rw [Int.mul_emod, Int.mul_emod a a, r] at m
      exact absurd m (by decide)
  omega
theorem c_h1 (c a0 e1 e2 i2 j0 : Int) (t : 12 * (a0 * (a0 * i2)) - j0 * j0 = 27 * c * (3 * (e1 * e1) * e2)) (hK : 27 * c * (e1 * (e1 * e1)) = 4 * (a0 * (a0 * a0))) : 12 * (a0 * (a0 * (i2 * e1 - a0 * e2))) = j0 * j0 * e1 := by
  have e : 27 * c * (3 * (e1 * e1) * e2) * e1 = 27 * c * (e1 * (e1 * e1)) * (3 * e2) := by clear t hK; grind
  rw [← t, hK] at e
  clear t hK
  grind
theorem c_h2 (c a0 e1 e2 i2 j0 b3 : Int) (t : 12 * (a0 * (i2 * i2)) - 2 * (j0 * b3) = 27 * c * (3 * (e1 * (e2 * e2)))) (hK : 27 * c * (e1 * (e1 * e1)) = 4 * (a0 * (a0 * a0))) : 6 * (a0 * ((i2 * e1 - a0 * e2) * (i2 * e1 + a0 * e2))) = j0 * b3 * (e1 * e1) := by
  have e : 27 * c * (3 * (e1 * (e2 * e2))) * (e1 * e1) = 27 * c * (e1 * (e1 * e1)) * (3 * (e2 * e2)) := by clear t hK; grind
  rw [← t, hK] at e
  clear t hK
  have : 2 * (6 * (a0 * ((i2 * e1 - a0 * e2) * (i2 * e1 + a0 * e2)))) = 2 * (j0 * b3 * (e1 * e1)) := by grind
  omega
theorem c_h3 (c a0 e1 e2 i2 b3 : Int) (t : 4 * (i2 * (i2 * i2)) - b3 * b3 = 27 * c * (e2 * (e2 * e2))) (hK : 27 * c * (e1 * (e1 * e1)) = 4 * (a0 * (a0 * a0))) : 4 * ((i2 * e1 - a0 * e2) * (i2 * e1 * (i2 * e1) + i2 * e1 * (a0 * e2) + a0 * e2 * (a0 * e2))) = b3 * b3 * (e1 * (e1 * e1)) := by
  have e : 27 * c * (e2 * (e2 * e2)) * (e1 * (e1 * e1)) = 27 * c * (e1 * (e1 * e1)) * (e2 * (e2 * e2)) := by clear t hK; grind
  rw [← t, hK] at e
  clear t hK
  grind
theorem c_h4 (K a0 a1 i2 ia j0 j1 e1 e2 g1 m : Int) (t : 12 * (a0 * (a0 * ia)) + 24 * (a0 * (a1 * i2)) - 2 * (j0 * j1) = K * (3 * (e1 * e1) * m + 6 * (e1 * (e2 * g1)))) (j00 : j0 = 0) (h : K * (e1 * (e2 * g1)) = 4 * (a0 * (i2 * a1))) : K * (3 * (e1 * e1) * m) = 12 * (a0 * (a0 * ia)) := by
  rw [j00, Int.mul_add] at t
  have e : K * (6 * (e1 * (e2 * g1))) = 6 * (K * (e1 * (e2 * g1))) := by clear t h; grind
  rw [e, h] at t
  clear e h j00
  grind
theorem c_h5 (K a0 a1 i2 ia b2 j1 e1 e2 g1 m : Int) (h1 : K * (e1 * (e2 * m)) = 4 * (a0 * (i2 * ia))) (h2 : K * (e2 * (e2 * g1)) = 4 * (i2 * (i2 * a1))) : 24 * (a0 * (i2 * ia)) + 12 * (a1 * (i2 * i2)) - 2 * (0 * b2) - 2 * (j1 * 0) = K * (6 * (e1 * (e2 * m)) + 3 * (e2 * (e2 * g1))) := by
  have e : K * (6 * (e1 * (e2 * m)) + 3 * (e2 * (e2 * g1))) = 6 * (K * (e1 * (e2 * m))) + 3 * (K * (e2 * (e2 * g1))) := by clear h1 h2; grind
  rw [e, h1, h2]
  clear e h1 h2
  grind
theorem c_h6 (K i2 ia b2 e2 m : Int) (h : K * (e2 * (e2 * m)) = 4 * (i2 * (i2 * ia))) : 12 * (i2 * (i2 * ia)) - 2 * (0 * b2) = K * (3 * (e2 * (e2 * m))) := by
  have e : K * (3 * (e2 * (e2 * m))) = 3 * (K * (e2 * (e2 * m))) := by clear h; grind
  rw [e, h]
  clear e h
  grind
theorem c_h7 (K a0 a1 i2 ia ib j0 j1 j2 e1 g1 e2 m h : Int) (t : 12 * (a0 * (a0 * ib)) + 24 * (a0 * (a1 * ia)) + 12 * (a1 * (a1 * i2)) - 2 * (j0 * j2) - j1 * j1 = K * (3 * (e1 * e1) * h + (6 * (e1 * (g1 * m)) + 3 * (g1 * (g1 * e2))))) (j00 : j0 = 0) (h1 : K * (e1 * (g1 * m)) = 4 * (a0 * (a1 * ia))) (h2 : K * (g1 * (g1 * e2)) = 4 * (a1 * (a1 * i2))) : K * (3 * (e1 * e1) * h) = 12 * (a0 * (a0 * ib)) - j1 * j1 := by
  rw [j00, Int.mul_add, Int.mul_add] at t
  have e : K * (6 * (e1 * (g1 * m))) = 6 * (K * (e1 * (g1 * m))) := by clear t h1 h2; grind
  have e' : K * (3 * (g1 * (g1 * e2))) = 3 * (K * (g1 * (g1 * e2))) := by clear t h1 h2 e; grind
  rw [e, e', h1, h2] at t
  clear e e' h1 h2 j00
  grind
theorem cuB1 (c e1 g1 e2 m h a0 a1 j0 j1 j2 i2 ia ib b3 b2 b1 b0 T330 T321 T312 T303 T240 T150 T060 T231 T141 T051 T222 H321 H312 H303 H240 H150 H060 H231 H141 H051 H222 : Int) (hc : c ≠ 0) (he : e1 ≠ 0) (t330 : T330 = 27 * c * (e1 * (e1 * e1))) (t321 : T321 = 27 * c * (3 * (e1 * e1) * g1 + 18446744073709551616 * H321)) (t312 : T312 = 27 * c * (3 * (g1 * (g1 * e1)) + 18446744073709551616 * H312)) (t303 : T303 = 27 * c * (g1 * (g1 * g1) + 18446744073709551616 * H303)) (t240 : T240 = 27 * c * (3 * (e1 * e1) * e2 + 18446744073709551616 * H240)) (t150 : T150 = 27 * c * (3 * (e1 * (e2 * e2)) + 18446744073709551616 * H150)) (t060 : T060 = 27 * c * (e2 * (e2 * e2) + 18446744073709551616 * H060)) (t231 : T231 = 27 * c * (3 * (e1 * e1) * m + 6 * (e1 * (e2 * g1)) + 18446744073709551616 * H231)) (t141 : T141 = 27 * c * (6 * (e1 * (e2 * m)) + 3 * (e2 * (e2 * g1)) + 18446744073709551616 * H141)) (t051 : T051 = 27 * c * (3 * (e2 * (e2 * m)) + 18446744073709551616 * H051)) (t222 : T222 = 27 * c * (3 * (e1 * e1) * h + (6 * (e1 * (g1 * m)) + 3 * (g1 * (g1 * e2))) + 18446744073709551616 * H222)) (u330 : T330 = 4 * (a0 * (a0 * a0))) (u321 : T321 = 12 * (a0 * (a0 * a1))) (u312 : T312 = 12 * (a0 * (a1 * a1))) (u303 : T303 = 4 * (a1 * (a1 * a1))) (u240 : T240 = 12 * (a0 * (a0 * i2)) - j0 * j0) (u150 : T150 = 12 * (a0 * (i2 * i2)) - 2 * (j0 * b3)) (u060 : T060 = 4 * (i2 * (i2 * i2)) - b3 * b3) (u231 : T231 = 12 * (a0 * (a0 * ia)) + 24 * (a0 * (a1 * i2)) - 2 * (j0 * j1)) (u141 : T141 = 24 * (a0 * (i2 * ia)) + 12 * (a1 * (i2 * i2)) - 2 * (j0 * b2) - 2 * (j1 * b3)) (u051 : T051 = 12 * (i2 * (i2 * ia)) - 2 * (b3 * b2)) (u222 : T222 = 12 * (a0 * (a0 * ib)) + 24 * (a0 * (a1 * ia)) + 12 * (a1 * (a1 * i2)) - 2 * (j0 * j2) - j1 * j1) (L330 : T330.natAbs ≤ 20 * 4135715297) (L321 : T321.natAbs ≤ 60 * 4135715297) (L312 : T312.natAbs ≤ 60 * 4135715297) (L303 : T303.natAbs ≤ 20 * 4135715297) (L240 : T240.natAbs ≤ 15 * 4135715297) (L150 : T150.natAbs ≤ 6 * 4135715297) (L060 : T060.natAbs ≤ 1 * 4135715297) (L231 : T231.natAbs ≤ 60 * 4135715297) (L141 : T141.natAbs ≤ 30 * 4135715297) (L051 : T051.natAbs ≤ 6 * 4135715297) (L222 : T222.natAbs ≤ 90 * 4135715297) (Ba0 : a0.natAbs ≤ 1568) (Ba1 : a1.natAbs ≤ 1568) (Bi2 : i2.natAbs ≤ 784) (Bia : ia.natAbs ≤ 1568) (Bib : ib.natAbs ≤ 784) (Bj1 : j1.natAbs ≤ 281946) (d321 : (3 * (e1 * e1) * g1).natAbs ≤ 9223372036854775808) (d240 : (3 * (e1 * e1) * e2).natAbs ≤ 9223372036854775808) (d231 : (3 * (e1 * e1) * m).natAbs ≤ 9223372036854775808) (d222 : (3 * (e1 * e1) * h).natAbs ≤ 9223372036854775808) :
    H321 = 0 ∧ H312 = 0 ∧ H303 = 0 ∧ H240 = 0 ∧ H150 = 0 ∧ H060 = 0 ∧ H231 = 0 ∧ H141 = 0 ∧ H051 = 0 ∧ H222 = 0 ∧ a0 ≠ 0 ∧ 3 ≤ a0.natAbs ∧ 27 * c * (e1 * (e1 * e1)) = 4 * (a0 * (a0 * a0)) ∧ a0 * g1 = a1 * e1 ∧ a0 * e2 = i2 * e1 ∧ a0 * m = ia * e1 ∧ j0 = 0 ∧ b3 = 0 ∧ e1.natAbs ≤ a0.natAbs ∧ 27 * c * (3 * (e1 * e1) * h) = 12 * (a0 * (a0 * ib)) - j1 * j1 := by
  have hK27 : 27 ≤ (27 * c).natAbs := by
    rw [Int.natAbs_mul]
    exact Nat.le_mul_of_pos_right 27 (Int.natAbs_pos.mpr hc)
  have he1 : 1 ≤ e1.natAbs := Int.natAbs_pos.mpr he
  have hK : 27 * c * (e1 * (e1 * e1)) = 4 * (a0 * (a0 * a0)) := t330.symm.trans u330
  have ha : a0 ≠ 0 := by
    intro r
    rw [r, Int.zero_mul, Int.mul_zero] at hK
    exact absurd hK (Int.mul_ne_zero (Int.mul_ne_zero (by decide) hc) (Int.mul_ne_zero he (Int.mul_ne_zero he he)))
  have ha3 := three_dvd a0 c _ hK ha
  have hea : e1.natAbs ≤ a0.natAbs := by
    refine cu_ea _ _ (27 * c).natAbs hK27 ?_
    have := congrArg Int.natAbs hK
    rw [Int.natAbs_mul, Int.natAbs_mul e1, Int.natAbs_mul e1, Int.natAbs_mul 4, Int.natAbs_mul a0, Int.natAbs_mul a0] at this
    exact this
  have cc := fun (u v w U V W : Int) => c_cc (27 * c) e1 a0 u v w U V W ha hK
  have p1 : a0 * e1 = a0 * e1 := rfl
  -- g1
  obtain ⟨w321, -⟩ := dig3 _ _ 0 H321 _ 0 (by rw [Int.add_zero]) (fb1 c _ _ 60 hc t321 L321) (by decide) d321 (by decide)
  subst w321
  rw [Int.mul_zero, Int.add_zero] at t321
  have pg := c_dig (27 * c) e1 a0 g1 a1 ha hK (t321.symm.trans u321)
  have sg := d_small a0 g1 a1 e1 _ ha pg hea Ba1
  have w312 := (d_mul (27 * c) _ H312 T312 1 _ 0 0 (by decide) hK27 t312 rfl (by rw [u312, Int.one_mul, Int.one_mul, Int.add_zero]; have := cc g1 g1 e1 a1 a1 a0 pg pg p1; clear t321 t312 t303 t240 t150 t060 t231 t141 t051 t222 u321 u312 u303 u240 u150 u060 u231 u141 u051 u222 hK pg; grind) (by decide) (by decide)).1
  have w303 := (d_mul (27 * c) _ H303 T303 1 _ 0 0 (by decide) hK27 t303 rfl (by rw [u303, Int.one_mul, Int.one_mul, Int.add_zero]; exact (cc g1 g1 g1 a1 a1 a1 pg pg pg).symm) (by decide) (by decide)).1
  -- e2
  obtain ⟨w240, q240⟩ := dig3 _ _ 0 H240 _ 0 (by rw [Int.add_zero]) (fb1 c _ _ 15 hc t240 L240) (by decide) d240 (by decide)
  subst w240
  rw [Int.mul_zero, Int.add_zero] at t240
  have y1 : (e1 * e1 * e2).natAbs ≤ 765873205 := by
    have : 3 * (e1 * e1) * e2 = 3 * (e1 * e1 * e2) := by rw [Int.mul_assoc]
    rw [this, Int.natAbs_mul] at q240
    have t3 : (3 : Int).natAbs = 3 := rfl
    rw [t3] at q240
    omega
  have y2 : (3 * (e1 * (e2 * e2))).natAbs ≤ 3 * (765873205 * 765873205) := by
    refine nmul_le k3 ?_
    have z1 : (e1 * (e2 * e2)).natAbs ≤ (e1 * e1 * e2).natAbs * (e1 * e1 * e2).natAbs := by
      rw [Int.natAbs_mul, Int.natAbs_mul, Int.natAbs_mul (e1 * e1), Int.natAbs_mul]
      generalize e1.natAbs = p at *
      generalize e2.natAbs = q at *
      have : p * p * q * (p * p * q) = p * (q * q) * (p * (p * p)) := by grind
      rw [this]
      exact Nat.le_mul_of_pos_right _ (Nat.mul_pos he1 (Nat.mul_pos he1 he1))
    exact Nat.le_trans z1 (Nat.mul_le_mul y1 y1)
  have w150 : H150 = 0 := num_true _ _ H150 _ _ rfl (fb1 c _ _ 6 hc t150 L150) y2 (by decide)
  subst w150
  rw [Int.mul_zero, Int.add_zero] at t150
  have y3 : e2.natAbs ≤ 17503 := by
    have f := fb1 c _ _ 6 hc t150 L150
    refine sq_P e2 306349282 17503 ?_ (by decide)
    rw [Int.natAbs_mul, Int.natAbs_mul] at f
    have t3 : (3 : Int).natAbs = 3 := rfl
    rw [t3] at f
    have := Nat.le_mul_of_pos_left (e2 * e2).natAbs he1
    omega
  have w060 : H060 = 0 := num_true _ _ H060 _ _ rfl (fb1 c _ _ 1 hc t060 L060) (nmul_le y3 (nmul_le y3 y3)) (by decide)
  subst w060
  rw [Int.mul_zero, Int.add_zero] at t060
  obtain ⟨pe, j00, b30⟩ := c_u a0 e1 e2 i2 j0 b3 ha he (c_h1 c a0 e1 e2 i2 j0 (u240.symm.trans t240) hK) (c_h2 c a0 e1 e2 i2 j0 b3 (u150.symm.trans t150) hK) (c_h3 c a0 e1 e2 i2 b3 (u060.symm.trans t060) hK)
  have se := d_small a0 e2 i2 e1 _ ha pe hea Bi2
  -- m
  have s231 : (6 * (e1 * (e2 * g1))).natAbs ≤ 6 * (1568 * (784 * 1568)) := nmul_le k6 (nmul_le (Nat.le_trans hea Ba0) (nmul_le se sg))
  obtain ⟨w231, -⟩ := dig3 _ _ _ H231 _ _ rfl (fb1 c _ _ 60 hc t231 L231) s231 d231 (by decide)
  subst w231
  rw [Int.mul_zero, Int.add_zero] at t231
  have pm := c_dig (27 * c) e1 a0 m ia ha hK (c_h4 (27 * c) a0 a1 i2 ia j0 j1 e1 e2 g1 m (u231.symm.trans t231) j00 (cc e1 e2 g1 a0 i2 a1 p1 pe pg))
  have sm := d_small a0 m ia e1 _ ha pm hea Bia
  have w141 := (d_mul (27 * c) _ H141 T141 1 _ 0 0 (by decide) hK27 t141 rfl (by rw [u141, j00, b30, Int.one_mul, Int.one_mul, Int.add_zero]; exact c_h5 (27 * c) a0 a1 i2 ia b2 j1 e1 e2 g1 m (cc e1 e2 m a0 i2 ia p1 pe pm) (cc e2 e2 g1 i2 i2 a1 pe pe pg)) (by decide) (by decide)).1
  have w051 := (d_mul (27 * c) _ H051 T051 1 _ 0 0 (by decide) hK27 t051 rfl (by rw [u051, b30, Int.one_mul, Int.one_mul, Int.add_zero]; exact c_h6 (27 * c) i2 ia b2 e2 m (cc e2 e2 m i2 i2 ia pe pe pm)) (by decide) (by decide)).1
  -- h
  have s222 : (6 * (e1 * (g1 * m)) + 3 * (g1 * (g1 * e2))).natAbs ≤ 6 * (1568 * (1568 * 1568)) + 3 * (1568 * (1568 * 784)) := na_le (nmul_le k6 (nmul_le (Nat.le_trans hea Ba0) (nmul_le sg sm))) (nmul_le k3 (nmul_le sg (nmul_le sg se)))
  obtain ⟨w222, -⟩ := dig3 _ _ _ H222 _ _ rfl (fb1 c _ _ 90 hc t222 L222) s222 d222 (by decide)
  subst w222
  rw [Int.mul_zero, Int.add_zero] at t222
  have ph := c_h7 (27 * c) a0 a1 i2 ia ib j0 j1 j2 e1 g1 e2 m h (u222.symm.trans t222) j00 (cc e1 g1 m a0 a1 ia p1 pg pm) (cc g1 g1 e2 a1 a1 i2 pg pg pe)
  exact ⟨rfl, w312, w303, rfl, rfl, rfl, rfl, w141, w051, rfl, ha, ha3, hK, pg, pe, pm, j00, b30, hea, ph⟩
