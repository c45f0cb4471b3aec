/-! the envelope of a row of degree 4: every root that the search leaves is 0 where the discriminant is -/
theorem env_hom (X Y W : Nat → Int) (x y w : Int) : qD (fun k => x * X k + y * Y k + w * W k) = hom6 (tTf X Y W) x y w := by
  rw [qD_net]
  unfold hom6
  simp only [tTf]
  generalize tT600 X Y W = u600
  generalize tT510 X Y W = u510
  generalize tT501 X Y W = u501
  generalize tT420 X Y W = u420
  generalize tT411 X Y W = u411
  generalize tT402 X Y W = u402
  generalize tT330 X Y W = u330
  generalize tT321 X Y W = u321
  generalize tT312 X Y W = u312
  generalize tT303 X Y W = u303
  generalize tT240 X Y W = u240
  generalize tT231 X Y W = u231
  generalize tT222 X Y W = u222
  generalize tT213 X Y W = u213
  generalize tT204 X Y W = u204
  generalize tT150 X Y W = u150
  generalize tT141 X Y W = u141
  generalize tT132 X Y W = u132
  generalize tT123 X Y W = u123
  generalize tT114 X Y W = u114
  generalize tT105 X Y W = u105
  generalize tT060 X Y W = u060
  generalize tT051 X Y W = u051
  generalize tT042 X Y W = u042
  generalize tT033 X Y W = u033
  generalize tT024 X Y W = u024
  generalize tT015 X Y W = u015
  generalize tT006 X Y W = u006
  grind
theorem hom6_mul {t s : Nat → Nat → Int} {k : Int} (h : ∀ a b, a + b ≤ 6 → t a b = k * s a b) (x y w : Int) : hom6 t x y w = k * hom6 s x y w := by
  unfold hom6
  rw [h 6 0 (by decide), h 5 1 (by decide), h 5 0 (by decide), h 4 2 (by decide), h 4 1 (by decide), h 4 0 (by decide), h 3 3 (by decide), h 3 2 (by decide), h 3 1 (by decide), h 3 0 (by decide), h 2 4 (by decide), h 2 3 (by decide), h 2 2 (by decide), h 2 1 (by decide), h 2 0 (by decide), h 1 5 (by decide), h 1 4 (by decide), h 1 3 (by decide), h 1 2 (by decide), h 1 1 (by decide), h 1 0 (by decide), h 0 6 (by decide), h 0 5 (by decide), h 0 4 (by decide), h 0 3 (by decide), h 0 2 (by decide), h 0 1 (by decide), h 0 0 (by decide)]
  clear h
  generalize s 6 0 = u600
  generalize s 5 1 = u510
  generalize s 5 0 = u501
  generalize s 4 2 = u420
  generalize s 4 1 = u411
  generalize s 4 0 = u402
  generalize s 3 3 = u330
  generalize s 3 2 = u321
  generalize s 3 1 = u312
  generalize s 3 0 = u303
  generalize s 2 4 = u240
  generalize s 2 3 = u231
  generalize s 2 2 = u222
  generalize s 2 1 = u213
  generalize s 2 0 = u204
  generalize s 1 5 = u150
  generalize s 1 4 = u141
  generalize s 1 3 = u132
  generalize s 1 2 = u123
  generalize s 1 1 = u114
  generalize s 1 0 = u105
  generalize s 0 6 = u060
  generalize s 0 5 = u051
  generalize s 0 4 = u042
  generalize s 0 3 = u033
  generalize s 0 2 = u024
  generalize s 0 1 = u015
  generalize s 0 0 = u006
  grind
theorem hom6_eq {t s : Nat → Nat → Int} (h : ∀ a b, a + b ≤ 6 → t a b = s a b) (x y w : Int) : hom6 t x y w = hom6 s x y w := by
  unfold hom6
  rw [h 6 0 (by decide), h 5 1 (by decide), h 5 0 (by decide), h 4 2 (by decide), h 4 1 (by decide), h 4 0 (by decide), h 3 3 (by decide), h 3 2 (by decide), h 3 1 (by decide), h 3 0 (by decide), h 2 4 (by decide), h 2 3 (by decide), h 2 2 (by decide), h 2 1 (by decide), h 2 0 (by decide), h 1 5 (by decide), h 1 4 (by decide), h 1 3 (by decide), h 1 2 (by decide), h 1 1 (by decide), h 1 0 (by decide), h 0 6 (by decide), h 0 5 (by decide), h 0 4 (by decide), h 0 3 (by decide), h 0 2 (by decide), h 0 1 (by decide), h 0 0 (by decide)]
theorem hom6_cb3 {E : Nat → Int} (h : SUi E 3) (x y w : Int) : hom6 (fun a b => E (7 * a + b)) x y w = w * w * w * cb3f (E 21) (E 15) (E 14) (E 9) (E 8) (E 7) (E 3) (E 2) (E 1) (E 0) x y w := by
  have z60 : E 42 = 0 := h 6 0 (by decide) (by decide) (by decide)
  have z51 : E 36 = 0 := h 5 1 (by decide) (by decide) (by decide)
  have z50 : E 35 = 0 := h 5 0 (by decide) (by decide) (by decide)
  have z42 : E 30 = 0 := h 4 2 (by decide) (by decide) (by decide)
  have z41 : E 29 = 0 := h 4 1 (by decide) (by decide) (by decide)
  have z40 : E 28 = 0 := h 4 0 (by decide) (by decide) (by decide)
  have z33 : E 24 = 0 := h 3 3 (by decide) (by decide) (by decide)
  have z32 : E 23 = 0 := h 3 2 (by decide) (by decide) (by decide)
  have z31 : E 22 = 0 := h 3 1 (by decide) (by decide) (by decide)
  have z24 : E 18 = 0 := h 2 4 (by decide) (by decide) (by decide)
  have z23 : E 17 = 0 := h 2 3 (by decide) (by decide) (by decide)
  have z22 : E 16 = 0 := h 2 2 (by decide) (by decide) (by decide)
  have z15 : E 12 = 0 := h 1 5 (by decide) (by decide) (by decide)
  have z14 : E 11 = 0 := h 1 4 (by decide) (by decide) (by decide)
  have z13 : E 10 = 0 := h 1 3 (by decide) (by decide) (by decide)
  have z06 : E 6 = 0 := h 0 6 (by decide) (by decide) (by decide)
  have z05 : E 5 = 0 := h 0 5 (by decide) (by decide) (by decide)
  have z04 : E 4 = 0 := h 0 4 (by decide) (by decide) (by decide)
  unfold hom6 cb3f
  simp only [Nat.reduceMul, Nat.reduceAdd]
  rw [z60, z51, z50, z42, z41, z40, z33, z32, z31, z24, z23, z22, z15, z14, z13, z06, z05, z04]
  clear z60 z51 z50 z42 z41 z40 z33 z32 z31 z24 z23 z22 z15 z14 z13 z06 z05 z04
  generalize E 21 = e0
  generalize E 15 = e1
  generalize E 14 = g1
  generalize E 9 = e2
  generalize E 8 = m
  generalize E 7 = h1
  generalize E 3 = e3
  generalize E 2 = n1
  generalize E 1 = n2
  generalize E 0 = k0
  grind
theorem hom6_qd2 {E : Nat → Int} (h : SUi E 2) (x y w : Int) : hom6 (fun a b => E (7 * a + b)) x y w = w * w * w * w * qd2f (E 14) (E 8) (E 7) (E 2) (E 1) (E 0) x y w := by
  have z60 : E 42 = 0 := h 6 0 (by decide) (by decide) (by decide)
  have z51 : E 36 = 0 := h 5 1 (by decide) (by decide) (by decide)
  have z50 : E 35 = 0 := h 5 0 (by decide) (by decide) (by decide)
  have z42 : E 30 = 0 := h 4 2 (by decide) (by decide) (by decide)
  have z41 : E 29 = 0 := h 4 1 (by decide) (by decide) (by decide)
  have z40 : E 28 = 0 := h 4 0 (by decide) (by decide) (by decide)
  have z33 : E 24 = 0 := h 3 3 (by decide) (by decide) (by decide)
  have z32 : E 23 = 0 := h 3 2 (by decide) (by decide) (by decide)
  have z31 : E 22 = 0 := h 3 1 (by decide) (by decide) (by decide)
  have z30 : E 21 = 0 := h 3 0 (by decide) (by decide) (by decide)
  have z24 : E 18 = 0 := h 2 4 (by decide) (by decide) (by decide)
  have z23 : E 17 = 0 := h 2 3 (by decide) (by decide) (by decide)
  have z22 : E 16 = 0 := h 2 2 (by decide) (by decide) (by decide)
  have z21 : E 15 = 0 := h 2 1 (by decide) (by decide) (by decide)
  have z15 : E 12 = 0 := h 1 5 (by decide) (by decide) (by decide)
  have z14 : E 11 = 0 := h 1 4 (by decide) (by decide) (by decide)
  have z13 : E 10 = 0 := h 1 3 (by decide) (by decide) (by decide)
  have z12 : E 9 = 0 := h 1 2 (by decide) (by decide) (by decide)
  have z06 : E 6 = 0 := h 0 6 (by decide) (by decide) (by decide)
  have z05 : E 5 = 0 := h 0 5 (by decide) (by decide) (by decide)
  have z04 : E 4 = 0 := h 0 4 (by decide) (by decide) (by decide)
  have z03 : E 3 = 0 := h 0 3 (by decide) (by decide) (by decide)
  unfold hom6 qd2f
  simp only [Nat.reduceMul, Nat.reduceAdd]
  rw [z60, z51, z50, z42, z41, z40, z33, z32, z31, z30, z24, z23, z22, z21, z15, z14, z13, z12, z06, z05, z04, z03]
  clear z60 z51 z50 z42 z41 z40 z33 z32 z31 z30 z24 z23 z22 z21 z15 z14 z13 z12 z06 z05 z04 z03
  generalize E 14 = e0
  generalize E 8 = e1
  generalize E 7 = g1
  generalize E 2 = e2
  generalize E 1 = m
  generalize E 0 = h
  grind
theorem hom6_ln1 {E : Nat → Int} (h : SUi E 1) (x y w : Int) : hom6 (fun a b => E (7 * a + b)) x y w = w * w * w * w * w * ln1f (E 7) (E 1) (E 0) x y w := by
  have z60 : E 42 = 0 := h 6 0 (by decide) (by decide) (by decide)
  have z51 : E 36 = 0 := h 5 1 (by decide) (by decide) (by decide)
  have z50 : E 35 = 0 := h 5 0 (by decide) (by decide) (by decide)
  have z42 : E 30 = 0 := h 4 2 (by decide) (by decide) (by decide)
  have z41 : E 29 = 0 := h 4 1 (by decide) (by decide) (by decide)
  have z40 : E 28 = 0 := h 4 0 (by decide) (by decide) (by decide)
  have z33 : E 24 = 0 := h 3 3 (by decide) (by decide) (by decide)
  have z32 : E 23 = 0 := h 3 2 (by decide) (by decide) (by decide)
  have z31 : E 22 = 0 := h 3 1 (by decide) (by decide) (by decide)
  have z30 : E 21 = 0 := h 3 0 (by decide) (by decide) (by decide)
  have z24 : E 18 = 0 := h 2 4 (by decide) (by decide) (by decide)
  have z23 : E 17 = 0 := h 2 3 (by decide) (by decide) (by decide)
  have z22 : E 16 = 0 := h 2 2 (by decide) (by decide) (by decide)
  have z21 : E 15 = 0 := h 2 1 (by decide) (by decide) (by decide)
  have z20 : E 14 = 0 := h 2 0 (by decide) (by decide) (by decide)
  have z15 : E 12 = 0 := h 1 5 (by decide) (by decide) (by decide)
  have z14 : E 11 = 0 := h 1 4 (by decide) (by decide) (by decide)
  have z13 : E 10 = 0 := h 1 3 (by decide) (by decide) (by decide)
  have z12 : E 9 = 0 := h 1 2 (by decide) (by decide) (by decide)
  have z11 : E 8 = 0 := h 1 1 (by decide) (by decide) (by decide)
  have z06 : E 6 = 0 := h 0 6 (by decide) (by decide) (by decide)
  have z05 : E 5 = 0 := h 0 5 (by decide) (by decide) (by decide)
  have z04 : E 4 = 0 := h 0 4 (by decide) (by decide) (by decide)
  have z03 : E 3 = 0 := h 0 3 (by decide) (by decide) (by decide)
  have z02 : E 2 = 0 := h 0 2 (by decide) (by decide) (by decide)
  unfold hom6 ln1f
  simp only [Nat.reduceMul, Nat.reduceAdd]
  rw [z60, z51, z50, z42, z41, z40, z33, z32, z31, z30, z24, z23, z22, z21, z20, z15, z14, z13, z12, z11, z06, z05, z04, z03, z02]
  clear z60 z51 z50 z42 z41 z40 z33 z32 z31 z30 z24 z23 z22 z21 z20 z15 z14 z13 z12 z11 z06 z05 z04 z03 z02
  generalize E 7 = e
  generalize E 1 = g
  generalize E 0 = h
  grind
/-- a true root: 0 where the whole is, and its power is the whole -/
def TP (k : Nat) (f E : Nat → Int) : Prop := (∀ x y w : Int, hom6 (fun a b => f (7 * a + b)) x y w = 0 → hom6 (fun a b => E (7 * a + b)) x y w = 0) ∧ ∀ x y : Int, hom6 (fun a b => E (7 * a + b)) x y 1 ^ k = hom6 (fun a b => f (7 * a + b)) x y 1
theorem env_f0 {X Y W f : Nat → Int} {c : Int} (hc : c ≠ 0) (hT : ∀ a b, a + b ≤ 6 → tTf X Y W a b = 27 * c * f (7 * a + b)) (x y w : Int) (hq : qD (fun k => x * X k + y * Y k + w * W k) = 0) : hom6 (fun a b => f (7 * a + b)) x y w = 0 := by
  rw [env_hom, hom6_mul (s := fun a b => f (7 * a + b)) hT] at hq
  exact (Int.mul_eq_zero.mp hq).resolve_left (Int.mul_ne_zero (by decide) hc)
theorem env_G2 {f E : Nat → Int} (su : SUi E 3) {H : Int → Int} (pH : Pf H) (hH : ∀ t, evl (lfi E 49) t ^ 2 = evl (lfi f 49) t + 18446744073709551616 * H t) : ∃ G : Nat → Nat → Int, ∀ a b, a + b ≤ 6 → f (7 * a + b) = s2c (E 21) (E 15) (E 14) (E 9) (E 8) (E 7) (E 3) (E 2) (E 1) (E 0) a b + 18446744073709551616 * G a b := by
  have p : ∀ v : Int, v ^ 2 = v * v := fun v => by rw [Int.pow_succ, Int.pow_succ, Int.pow_zero, Int.one_mul]
  exact form6 pH (fun z => by rw [s2c_e, ← cb3_e, ← cb3_E su z, ← hH z, p])
theorem env_end2 {f E : Nat → Int} (su : SUi E 3) (h : ∀ a b, a + b ≤ 6 → f (7 * a + b) = s2c (E 21) (E 15) (E 14) (E 9) (E 8) (E 7) (E 3) (E 2) (E 1) (E 0) a b) : TP 2 f E := by
  refine ⟨fun x y w hq => ?_, fun x y => ?_⟩
  · rw [hom6_eq h, s2c_e] at hq
    have q0 : cb3f (E 21) (E 15) (E 14) (E 9) (E 8) (E 7) (E 3) (E 2) (E 1) (E 0) x y w = 0 := by
      rcases Int.mul_eq_zero.mp hq with r | r
      · exact r
      · exact r
    rw [hom6_cb3 su, q0, Int.mul_zero]
  · have p : ∀ v : Int, v ^ 2 = v * v := fun v => by rw [Int.pow_succ, Int.pow_succ, Int.pow_zero, Int.one_mul]
    have e : hom6 (fun a b => E (7 * a + b)) x y 1 = cb3f (E 21) (E 15) (E 14) (E 9) (E 8) (E 7) (E 3) (E 2) (E 1) (E 0) x y 1 := by
      rw [hom6_cb3 su]
      omega
    rw [hom6_eq h, s2c_e, e, p]
theorem env_G3 {f E : Nat → Int} (su : SUi E 2) {H : Int → Int} (pH : Pf H) (hH : ∀ t, evl (lfi E 49) t ^ 3 = evl (lfi f 49) t + 18446744073709551616 * H t) : ∃ G : Nat → Nat → Int, ∀ a b, a + b ≤ 6 → f (7 * a + b) = s3c (E 14) (E 8) (E 7) (E 2) (E 1) (E 0) a b + 18446744073709551616 * G a b := by
  have p : ∀ v : Int, v ^ 3 = v * (v * v) := fun v => by rw [Int.pow_succ, Int.pow_succ, Int.pow_succ, Int.pow_zero, Int.one_mul, Int.mul_assoc]
  exact form6 pH (fun z => by rw [s3c_e, ← qd2_e, ← qd2_E su z, ← hH z, p])
theorem env_end3 {f E : Nat → Int} (su : SUi E 2) (h : ∀ a b, a + b ≤ 6 → f (7 * a + b) = s3c (E 14) (E 8) (E 7) (E 2) (E 1) (E 0) a b) : TP 3 f E := by
  refine ⟨fun x y w hq => ?_, fun x y => ?_⟩
  · rw [hom6_eq h, s3c_e] at hq
    have q0 : qd2f (E 14) (E 8) (E 7) (E 2) (E 1) (E 0) x y w = 0 := by
      rcases Int.mul_eq_zero.mp hq with r | r
      · exact r
      · rcases Int.mul_eq_zero.mp r with r | r
        · exact r
        · exact r
    rw [hom6_qd2 su, q0, Int.mul_zero]
  · have p : ∀ v : Int, v ^ 3 = v * (v * v) := fun v => by rw [Int.pow_succ, Int.pow_succ, Int.pow_succ, Int.pow_zero, Int.one_mul, Int.mul_assoc]
    have e : hom6 (fun a b => E (7 * a + b)) x y 1 = qd2f (E 14) (E 8) (E 7) (E 2) (E 1) (E 0) x y 1 := by
      rw [hom6_qd2 su]
      omega
    rw [hom6_eq h, s3c_e, e, p]
theorem ipow6 (v : Int) : v ^ 6 = v * (v * (v * (v * (v * (v))))) := by
  simp only [Int.pow_succ, Int.pow_zero, Int.one_mul, Int.mul_assoc]
theorem env_G6 {f E : Nat → Int} (su : SUi E 1) {H : Int → Int} (pH : Pf H) (hH : ∀ t, evl (lfi E 49) t ^ 6 = evl (lfi f 49) t + 18446744073709551616 * H t) : ∃ G : Nat → Nat → Int, ∀ a b, a + b ≤ 6 → f (7 * a + b) = s6l (E 7) (E 1) (E 0) a b + 18446744073709551616 * G a b :=
  form6 pH (fun z => by
    rw [s6l_e, ← ln1_e, ← ln1_E su z, ← hH z, ipow6])
theorem env_end6 {f E : Nat → Int} (su : SUi E 1) (h : ∀ a b, a + b ≤ 6 → f (7 * a + b) = s6l (E 7) (E 1) (E 0) a b) : TP 6 f E := by
  refine ⟨fun x y w q => ?_, fun x y => ?_⟩
  · rw [hom6_eq h, s6l_e] at q
    rw [hom6_ln1 su]
    have z : ∀ v : Int, v * (v * (v * (v * (v * (v))))) = 0 → v = 0 := by
      intro v hv
      by_cases r : v = 0
      · exact r
      · exfalso
        exact Int.mul_ne_zero r (Int.mul_ne_zero r (Int.mul_ne_zero r (Int.mul_ne_zero r (Int.mul_ne_zero r (r))))) hv
    rw [z _ q, Int.mul_zero]
  · have e : hom6 (fun a b => E (7 * a + b)) x y 1 = ln1f (E 7) (E 1) (E 0) x y 1 := by
      rw [hom6_ln1 su]
      omega
    rw [hom6_eq h, s6l_e, e, ipow6]
theorem ipow5 (v : Int) : v ^ 5 = v * (v * (v * (v * (v)))) := by
  simp only [Int.pow_succ, Int.pow_zero, Int.one_mul, Int.mul_assoc]
theorem env_G5 {f E : Nat → Int} (su : SUi E 1) {H : Int → Int} (pH : Pf H) (hH : ∀ t, evl (lfi E 49) t ^ 5 = evl (lfi f 49) t + 18446744073709551616 * H t) : ∃ G : Nat → Nat → Int, ∀ a b, a + b ≤ 6 → f (7 * a + b) = s5l (E 7) (E 1) (E 0) a b + 18446744073709551616 * G a b :=
  form6 pH (fun z => by
    rw [s5l_e, ← ln1_e, ← ln1_E su z, ← hH z, ipow5]
    simp only [Int.one_mul])
theorem env_end5 {f E : Nat → Int} (su : SUi E 1) (h : ∀ a b, a + b ≤ 6 → f (7 * a + b) = s5l (E 7) (E 1) (E 0) a b) : TP 5 f E := by
  refine ⟨fun x y w q => ?_, fun x y => ?_⟩
  · rw [hom6_eq h, s5l_e] at q
    rw [hom6_ln1 su]
    have z : ∀ v : Int, v * (v * (v * (v * (v)))) = 0 → v = 0 := by
      intro v hv
      by_cases r : v = 0
      · exact r
      · exfalso
        exact Int.mul_ne_zero r (Int.mul_ne_zero r (Int.mul_ne_zero r (Int.mul_ne_zero r (r)))) hv
    rcases Int.mul_eq_zero.mp q with r | r
    · have w0 : w = 0 := by
        exact r
      rw [w0, Int.mul_zero, Int.zero_mul]
    · rw [z _ r, Int.mul_zero]
  · have e : hom6 (fun a b => E (7 * a + b)) x y 1 = ln1f (E 7) (E 1) (E 0) x y 1 := by
      rw [hom6_ln1 su]
      omega
    rw [hom6_eq h, s5l_e, e, ipow5]
    simp only [Int.one_mul]
theorem ipow4 (v : Int) : v ^ 4 = v * (v * (v * (v))) := by
  simp only [Int.pow_succ, Int.pow_zero, Int.one_mul, Int.mul_assoc]
theorem env_G4 {f E : Nat → Int} (su : SUi E 1) {H : Int → Int} (pH : Pf H) (hH : ∀ t, evl (lfi E 49) t ^ 4 = evl (lfi f 49) t + 18446744073709551616 * H t) : ∃ G : Nat → Nat → Int, ∀ a b, a + b ≤ 6 → f (7 * a + b) = s4l (E 7) (E 1) (E 0) a b + 18446744073709551616 * G a b :=
  form6 pH (fun z => by
    rw [s4l_e, ← ln1_e, ← ln1_E su z, ← hH z, ipow4]
    simp only [Int.one_mul])
theorem env_end4 {f E : Nat → Int} (su : SUi E 1) (h : ∀ a b, a + b ≤ 6 → f (7 * a + b) = s4l (E 7) (E 1) (E 0) a b) : TP 4 f E := by
  refine ⟨fun x y w q => ?_, fun x y => ?_⟩
  · rw [hom6_eq h, s4l_e] at q
    rw [hom6_ln1 su]
    have z : ∀ v : Int, v * (v * (v * (v))) = 0 → v = 0 := by
      intro v hv
      by_cases r : v = 0
      · exact r
      · exfalso
        exact Int.mul_ne_zero r (Int.mul_ne_zero r (Int.mul_ne_zero r (r))) hv
    rcases Int.mul_eq_zero.mp q with r | r
    · have w0 : w = 0 := by
        rcases Int.mul_eq_zero.mp r with r | r
        · exact r
        · exact r
      rw [w0, Int.mul_zero, Int.zero_mul]
    · rw [z _ r, Int.mul_zero]
  · have e : hom6 (fun a b => E (7 * a + b)) x y 1 = ln1f (E 7) (E 1) (E 0) x y 1 := by
      rw [hom6_ln1 su]
      omega
    rw [hom6_eq h, s4l_e, e, ipow4]
    simp only [Int.one_mul]
theorem db2 (x y : Int) : ((2 : Nat) : Int) * (ipw x (2 - 1) * y) = 2 * x * y := by
  show (2 : Int) * (x * (1) * y) = _
  grind
theorem lb2 (x : Int) : ipw x 2 = x * x := by
  show x * (x * (1)) = _
  grind
theorem db3 (x y : Int) : ((3 : Nat) : Int) * (ipw x (3 - 1) * y) = 3 * (x * x) * y := by
  show (3 : Int) * (x * (x * (1)) * y) = _
  grind
theorem lb3 (x : Int) : ipw x 3 = x * (x * x) := by
  show x * (x * (x * (1))) = _
  grind
theorem db4 (x y : Int) : ((4 : Nat) : Int) * (ipw x (4 - 1) * y) = 4 * (x * (x * (x * y))) := by
  show (4 : Int) * (x * (x * (x * (1))) * y) = _
  grind
theorem lb4 (x : Int) : ipw x 4 = x * (x * (x * x)) := by
  show x * (x * (x * (x * (1)))) = _
  grind
theorem db5 (x y : Int) : ((5 : Nat) : Int) * (ipw x (5 - 1) * y) = 5 * (x * (x * (x * (x * y)))) := by
  show (5 : Int) * (x * (x * (x * (x * (1)))) * y) = _
  grind
theorem lb5 (x : Int) : ipw x 5 = x * (x * (x * (x * x))) := by
  show x * (x * (x * (x * (x * (1))))) = _
  grind
theorem db6 (x y : Int) : ((6 : Nat) : Int) * (ipw x (6 - 1) * y) = 6 * (x * (x * (x * (x * (x * y))))) := by
  show (6 : Int) * (x * (x * (x * (x * (x * (1))))) * y) = _
  grind
theorem lb6 (x : Int) : ipw x 6 = x * (x * (x * (x * (x * x)))) := by
  show x * (x * (x * (x * (x * (x * (1)))))) = _
  grind
theorem rm_600 (m h1 n1 n2 k0 G : Int) : (0 * 0 + 18446744073709551616 * G : Int) = 0 + 18446744073709551616 * G := by grind
theorem rm_510 (m h1 n1 n2 k0 G : Int) : (2 * 0 * 0 + 18446744073709551616 * G : Int) = 0 + 18446744073709551616 * G := by grind
theorem rm_501 (m h1 n1 n2 k0 G : Int) : (2 * 0 * 0 + 18446744073709551616 * G : Int) = 0 + 18446744073709551616 * G := by grind
theorem rm_420 (m h1 n1 n2 k0 G : Int) : (2 * 0 * 0 + 0 * 0 + 18446744073709551616 * G : Int) = 0 + 18446744073709551616 * G := by grind
theorem rm_411 (m h1 n1 n2 k0 G : Int) : (2 * 0 * m + 2 * 0 * 0 + 18446744073709551616 * G : Int) = 0 + 18446744073709551616 * G := by grind
theorem rm_402 (m h1 n1 n2 k0 G : Int) : (2 * 0 * h1 + 0 * 0 + 18446744073709551616 * G : Int) = 0 + 18446744073709551616 * G := by grind
theorem rm_330 (m h1 n1 n2 k0 G : Int) : (2 * 0 * 0 + 2 * 0 * 0 + 18446744073709551616 * G : Int) = 0 + 18446744073709551616 * G := by grind
theorem rm_321 (m h1 n1 n2 k0 G : Int) : (2 * 0 * n1 + (2 * 0 * m + 2 * 0 * 0) + 18446744073709551616 * G : Int) = 0 + 18446744073709551616 * G := by grind
theorem rm_312 (m h1 n1 n2 k0 G : Int) : (2 * 0 * n2 + (2 * 0 * m + 2 * h1 * 0) + 18446744073709551616 * G : Int) = 0 + 18446744073709551616 * G := by grind
theorem rm_303 (m h1 n1 n2 k0 G : Int) : (2 * 0 * k0 + 2 * 0 * h1 + 18446744073709551616 * G : Int) = 0 + 18446744073709551616 * G := by grind
theorem rm_240 (m h1 n1 n2 k0 G : Int) : (2 * 0 * 0 + 0 * 0 + 18446744073709551616 * G : Int) = 0 + 18446744073709551616 * G := by grind
theorem rm_231 (m h1 n1 n2 k0 G : Int) : (2 * 0 * n1 + (2 * 0 * m + 2 * 0 * 0) + 18446744073709551616 * G : Int) = 0 + 18446744073709551616 * G := by grind
theorem rm_222 (m h1 n1 n2 k0 G : Int) : (m * m + (2 * 0 * n2 + (2 * 0 * n1 + 2 * 0 * h1)) + 18446744073709551616 * G : Int) = m * m + 18446744073709551616 * G := by grind
theorem rm_213 (m h1 n1 n2 k0 G : Int) : (2 * 0 * n2 + (2 * h1 * m + 2 * k0 * 0) + 18446744073709551616 * G : Int) = 2 * m * h1 + 18446744073709551616 * G := by grind
theorem rm_204 (m h1 n1 n2 k0 G : Int) : (2 * 0 * k0 + h1 * h1 + 18446744073709551616 * G : Int) = h1 * h1 + 18446744073709551616 * G := by grind
theorem rm_150 (m h1 n1 n2 k0 G : Int) : (2 * 0 * 0 + 18446744073709551616 * G : Int) = 0 + 18446744073709551616 * G := by grind
theorem rm_141 (m h1 n1 n2 k0 G : Int) : (2 * 0 * n1 + 2 * 0 * m + 18446744073709551616 * G : Int) = 0 + 18446744073709551616 * G := by grind
theorem rm_132 (m h1 n1 n2 k0 G : Int) : (2 * 0 * n2 + (2 * m * n1 + 2 * h1 * 0) + 18446744073709551616 * G : Int) = 2 * m * n1 + 18446744073709551616 * G := by grind
theorem rm_123 (m h1 n1 n2 k0 G : Int) : (2 * h1 * n1 + (2 * m * n2 + 2 * 0 * k0) + 18446744073709551616 * G : Int) = 2 * m * n2 + 2 * h1 * n1 + 18446744073709551616 * G := by grind
theorem rm_114 (m h1 n1 n2 k0 G : Int) : (2 * h1 * n2 + 2 * k0 * m + 18446744073709551616 * G : Int) = 2 * m * k0 + 2 * h1 * n2 + 18446744073709551616 * G := by grind
theorem rm_105 (m h1 n1 n2 k0 G : Int) : (2 * h1 * k0 + 18446744073709551616 * G : Int) = 2 * h1 * k0 + 18446744073709551616 * G := by grind
theorem rm_060 (m h1 n1 n2 k0 G : Int) : (0 * 0 + 18446744073709551616 * G : Int) = 0 + 18446744073709551616 * G := by grind
theorem rm_051 (m h1 n1 n2 k0 G : Int) : (2 * 0 * n1 + 18446744073709551616 * G : Int) = 0 + 18446744073709551616 * G := by grind
theorem rm_042 (m h1 n1 n2 k0 G : Int) : (n1 * n1 + 2 * 0 * n2 + 18446744073709551616 * G : Int) = n1 * n1 + 18446744073709551616 * G := by grind
theorem rm_033 (m h1 n1 n2 k0 G : Int) : (2 * 0 * k0 + 2 * n1 * n2 + 18446744073709551616 * G : Int) = 2 * n1 * n2 + 18446744073709551616 * G := by grind
theorem rm_024 (m h1 n1 n2 k0 G : Int) : (n2 * n2 + 2 * k0 * n1 + 18446744073709551616 * G : Int) = n2 * n2 + 2 * k0 * n1 + 18446744073709551616 * G := by grind
theorem rm_015 (m h1 n1 n2 k0 G : Int) : (2 * k0 * n2 + 18446744073709551616 * G : Int) = 2 * k0 * n2 + 18446744073709551616 * G := by grind
theorem rm_006 (m h1 n1 n2 k0 G : Int) : (k0 * k0 + 18446744073709551616 * G : Int) = k0 * k0 + 18446744073709551616 * G := by grind
theorem rl6_600 (g h G : Int) : (0 * (0 * (0 * (0 * (0 * 0)))) + 18446744073709551616 * G : Int) = 0 + 18446744073709551616 * G := by grind
theorem rl6_510 (g h G : Int) : (6 * (0 * (0 * (0 * (0 * (0 * g))))) + 18446744073709551616 * G : Int) = 0 + 18446744073709551616 * G := by grind
theorem rl6_501 (g h G : Int) : (6 * (0 * (0 * (0 * (0 * (0 * h))))) + 18446744073709551616 * G : Int) = 0 + 18446744073709551616 * G := by grind
theorem rl6_420 (g h G : Int) : (15 * (0 * (0 * (0 * (0 * (g * g))))) + 18446744073709551616 * G : Int) = 0 + 18446744073709551616 * G := by grind
theorem rl6_411 (g h G : Int) : (30 * (0 * (0 * (0 * (0 * (g * h))))) + 18446744073709551616 * G : Int) = 0 + 18446744073709551616 * G := by grind
theorem rl6_402 (g h G : Int) : (15 * (0 * (0 * (0 * (0 * (h * h))))) + 18446744073709551616 * G : Int) = 0 + 18446744073709551616 * G := by grind
theorem rl6_330 (g h G : Int) : (20 * (0 * (0 * (0 * (g * (g * g))))) + 18446744073709551616 * G : Int) = 0 + 18446744073709551616 * G := by grind
theorem rl6_321 (g h G : Int) : (60 * (0 * (0 * (0 * (g * (g * h))))) + 18446744073709551616 * G : Int) = 0 + 18446744073709551616 * G := by grind
theorem rl6_312 (g h G : Int) : (60 * (0 * (0 * (0 * (g * (h * h))))) + 18446744073709551616 * G : Int) = 0 + 18446744073709551616 * G := by grind
theorem rl6_303 (g h G : Int) : (20 * (0 * (0 * (0 * (h * (h * h))))) + 18446744073709551616 * G : Int) = 0 + 18446744073709551616 * G := by grind
theorem rl6_240 (g h G : Int) : (15 * (0 * (0 * (g * (g * (g * g))))) + 18446744073709551616 * G : Int) = 0 + 18446744073709551616 * G := by grind
theorem rl6_231 (g h G : Int) : (60 * (0 * (0 * (g * (g * (g * h))))) + 18446744073709551616 * G : Int) = 0 + 18446744073709551616 * G := by grind
theorem rl6_222 (g h G : Int) : (90 * (0 * (0 * (g * (g * (h * h))))) + 18446744073709551616 * G : Int) = 0 + 18446744073709551616 * G := by grind
theorem rl6_213 (g h G : Int) : (60 * (0 * (0 * (g * (h * (h * h))))) + 18446744073709551616 * G : Int) = 0 + 18446744073709551616 * G := by grind
theorem rl6_204 (g h G : Int) : (15 * (0 * (0 * (h * (h * (h * h))))) + 18446744073709551616 * G : Int) = 0 + 18446744073709551616 * G := by grind
theorem rl6_150 (g h G : Int) : (6 * (0 * (g * (g * (g * (g * g))))) + 18446744073709551616 * G : Int) = 0 + 18446744073709551616 * G := by grind
theorem rl6_141 (g h G : Int) : (30 * (0 * (g * (g * (g * (g * h))))) + 18446744073709551616 * G : Int) = 0 + 18446744073709551616 * G := by grind
theorem rl6_132 (g h G : Int) : (60 * (0 * (g * (g * (g * (h * h))))) + 18446744073709551616 * G : Int) = 0 + 18446744073709551616 * G := by grind
theorem rl6_123 (g h G : Int) : (60 * (0 * (g * (g * (h * (h * h))))) + 18446744073709551616 * G : Int) = 0 + 18446744073709551616 * G := by grind
theorem rl6_114 (g h G : Int) : (30 * (0 * (g * (h * (h * (h * h))))) + 18446744073709551616 * G : Int) = 0 + 18446744073709551616 * G := by grind
theorem rl6_105 (g h G : Int) : (6 * (0 * (h * (h * (h * (h * h))))) + 18446744073709551616 * G : Int) = 0 + 18446744073709551616 * G := by grind
theorem rl6_060 (g h G : Int) : (g * (g * (g * (g * (g * g)))) + 18446744073709551616 * G : Int) = g * (g * (g * (g * (g * g)))) + 18446744073709551616 * G := by grind
theorem rl6_051 (g h G : Int) : (6 * (g * (g * (g * (g * (g * h))))) + 18446744073709551616 * G : Int) = 6 * (g * (g * (g * (g * (g * h))))) + 18446744073709551616 * G := by grind
theorem rl6_042 (g h G : Int) : (15 * (g * (g * (g * (g * (h * h))))) + 18446744073709551616 * G : Int) = 15 * (g * (g * (g * (g * (h * h))))) + 18446744073709551616 * G := by grind
theorem rl6_033 (g h G : Int) : (20 * (g * (g * (g * (h * (h * h))))) + 18446744073709551616 * G : Int) = 20 * (g * (g * (g * (h * (h * h))))) + 18446744073709551616 * G := by grind
theorem rl6_024 (g h G : Int) : (15 * (g * (g * (h * (h * (h * h))))) + 18446744073709551616 * G : Int) = 15 * (g * (g * (h * (h * (h * h))))) + 18446744073709551616 * G := by grind
theorem rl6_015 (g h G : Int) : (6 * (g * (h * (h * (h * (h * h))))) + 18446744073709551616 * G : Int) = 6 * (g * (h * (h * (h * (h * h))))) + 18446744073709551616 * G := by grind
theorem rl6_006 (g h G : Int) : (h * (h * (h * (h * (h * h)))) + 18446744073709551616 * G : Int) = h * (h * (h * (h * (h * h)))) + 18446744073709551616 * G := by grind
theorem rl5_600 (g h G : Int) : (0 + 18446744073709551616 * G : Int) = 0 + 18446744073709551616 * G := by grind
theorem rl5_510 (g h G : Int) : (0 + 18446744073709551616 * G : Int) = 0 + 18446744073709551616 * G := by grind
theorem rl5_501 (g h G : Int) : (0 * (0 * (0 * (0 * 0))) + 18446744073709551616 * G : Int) = 0 + 18446744073709551616 * G := by grind
theorem rl5_420 (g h G : Int) : (0 + 18446744073709551616 * G : Int) = 0 + 18446744073709551616 * G := by grind
theorem rl5_411 (g h G : Int) : (5 * (0 * (0 * (0 * (0 * g)))) + 18446744073709551616 * G : Int) = 0 + 18446744073709551616 * G := by grind
theorem rl5_402 (g h G : Int) : (5 * (0 * (0 * (0 * (0 * h)))) + 18446744073709551616 * G : Int) = 0 + 18446744073709551616 * G := by grind
theorem rl5_330 (g h G : Int) : (0 + 18446744073709551616 * G : Int) = 0 + 18446744073709551616 * G := by grind
theorem rl5_321 (g h G : Int) : (10 * (0 * (0 * (0 * (g * g)))) + 18446744073709551616 * G : Int) = 0 + 18446744073709551616 * G := by grind
theorem rl5_312 (g h G : Int) : (20 * (0 * (0 * (0 * (g * h)))) + 18446744073709551616 * G : Int) = 0 + 18446744073709551616 * G := by grind
theorem rl5_303 (g h G : Int) : (10 * (0 * (0 * (0 * (h * h)))) + 18446744073709551616 * G : Int) = 0 + 18446744073709551616 * G := by grind
theorem rl5_240 (g h G : Int) : (0 + 18446744073709551616 * G : Int) = 0 + 18446744073709551616 * G := by grind
theorem rl5_231 (g h G : Int) : (10 * (0 * (0 * (g * (g * g)))) + 18446744073709551616 * G : Int) = 0 + 18446744073709551616 * G := by grind
theorem rl5_222 (g h G : Int) : (30 * (0 * (0 * (g * (g * h)))) + 18446744073709551616 * G : Int) = 0 + 18446744073709551616 * G := by grind
theorem rl5_213 (g h G : Int) : (30 * (0 * (0 * (g * (h * h)))) + 18446744073709551616 * G : Int) = 0 + 18446744073709551616 * G := by grind
theorem rl5_204 (g h G : Int) : (10 * (0 * (0 * (h * (h * h)))) + 18446744073709551616 * G : Int) = 0 + 18446744073709551616 * G := by grind
theorem rl5_150 (g h G : Int) : (0 + 18446744073709551616 * G : Int) = 0 + 18446744073709551616 * G := by grind
theorem rl5_141 (g h G : Int) : (5 * (0 * (g * (g * (g * g)))) + 18446744073709551616 * G : Int) = 0 + 18446744073709551616 * G := by grind
theorem rl5_132 (g h G : Int) : (20 * (0 * (g * (g * (g * h)))) + 18446744073709551616 * G : Int) = 0 + 18446744073709551616 * G := by grind
theorem rl5_123 (g h G : Int) : (30 * (0 * (g * (g * (h * h)))) + 18446744073709551616 * G : Int) = 0 + 18446744073709551616 * G := by grind
theorem rl5_114 (g h G : Int) : (20 * (0 * (g * (h * (h * h)))) + 18446744073709551616 * G : Int) = 0 + 18446744073709551616 * G := by grind
theorem rl5_105 (g h G : Int) : (5 * (0 * (h * (h * (h * h)))) + 18446744073709551616 * G : Int) = 0 + 18446744073709551616 * G := by grind
theorem rl5_060 (g h G : Int) : (0 + 18446744073709551616 * G : Int) = 0 + 18446744073709551616 * G := by grind
theorem rl5_051 (g h G : Int) : (g * (g * (g * (g * g))) + 18446744073709551616 * G : Int) = g * (g * (g * (g * g))) + 18446744073709551616 * G := by grind
theorem rl5_042 (g h G : Int) : (5 * (g * (g * (g * (g * h)))) + 18446744073709551616 * G : Int) = 5 * (g * (g * (g * (g * h)))) + 18446744073709551616 * G := by grind
theorem rl5_033 (g h G : Int) : (10 * (g * (g * (g * (h * h)))) + 18446744073709551616 * G : Int) = 10 * (g * (g * (g * (h * h)))) + 18446744073709551616 * G := by grind
theorem rl5_024 (g h G : Int) : (10 * (g * (g * (h * (h * h)))) + 18446744073709551616 * G : Int) = 10 * (g * (g * (h * (h * h)))) + 18446744073709551616 * G := by grind
theorem rl5_015 (g h G : Int) : (5 * (g * (h * (h * (h * h)))) + 18446744073709551616 * G : Int) = 5 * (g * (h * (h * (h * h)))) + 18446744073709551616 * G := by grind
theorem rl5_006 (g h G : Int) : (h * (h * (h * (h * h))) + 18446744073709551616 * G : Int) = h * (h * (h * (h * h))) + 18446744073709551616 * G := by grind
theorem rl4_600 (g h G : Int) : (0 + 18446744073709551616 * G : Int) = 0 + 18446744073709551616 * G := by grind
theorem rl4_510 (g h G : Int) : (0 + 18446744073709551616 * G : Int) = 0 + 18446744073709551616 * G := by grind
theorem rl4_501 (g h G : Int) : (0 + 18446744073709551616 * G : Int) = 0 + 18446744073709551616 * G := by grind
theorem rl4_420 (g h G : Int) : (0 + 18446744073709551616 * G : Int) = 0 + 18446744073709551616 * G := by grind
theorem rl4_411 (g h G : Int) : (0 + 18446744073709551616 * G : Int) = 0 + 18446744073709551616 * G := by grind
theorem rl4_402 (g h G : Int) : (0 * (0 * (0 * 0)) + 18446744073709551616 * G : Int) = 0 + 18446744073709551616 * G := by grind
theorem rl4_330 (g h G : Int) : (0 + 18446744073709551616 * G : Int) = 0 + 18446744073709551616 * G := by grind
theorem rl4_321 (g h G : Int) : (0 + 18446744073709551616 * G : Int) = 0 + 18446744073709551616 * G := by grind
theorem rl4_312 (g h G : Int) : (4 * (0 * (0 * (0 * g))) + 18446744073709551616 * G : Int) = 0 + 18446744073709551616 * G := by grind
theorem rl4_303 (g h G : Int) : (4 * (0 * (0 * (0 * h))) + 18446744073709551616 * G : Int) = 0 + 18446744073709551616 * G := by grind
theorem rl4_240 (g h G : Int) : (0 + 18446744073709551616 * G : Int) = 0 + 18446744073709551616 * G := by grind
theorem rl4_231 (g h G : Int) : (0 + 18446744073709551616 * G : Int) = 0 + 18446744073709551616 * G := by grind
theorem rl4_222 (g h G : Int) : (6 * (0 * (0 * (g * g))) + 18446744073709551616 * G : Int) = 0 + 18446744073709551616 * G := by grind
theorem rl4_213 (g h G : Int) : (12 * (0 * (0 * (g * h))) + 18446744073709551616 * G : Int) = 0 + 18446744073709551616 * G := by grind
theorem rl4_204 (g h G : Int) : (6 * (0 * (0 * (h * h))) + 18446744073709551616 * G : Int) = 0 + 18446744073709551616 * G := by grind
theorem rl4_150 (g h G : Int) : (0 + 18446744073709551616 * G : Int) = 0 + 18446744073709551616 * G := by grind
theorem rl4_141 (g h G : Int) : (0 + 18446744073709551616 * G : Int) = 0 + 18446744073709551616 * G := by grind
theorem rl4_132 (g h G : Int) : (4 * (0 * (g * (g * g))) + 18446744073709551616 * G : Int) = 0 + 18446744073709551616 * G := by grind
theorem rl4_123 (g h G : Int) : (12 * (0 * (g * (g * h))) + 18446744073709551616 * G : Int) = 0 + 18446744073709551616 * G := by grind
theorem rl4_114 (g h G : Int) : (12 * (0 * (g * (h * h))) + 18446744073709551616 * G : Int) = 0 + 18446744073709551616 * G := by grind
theorem rl4_105 (g h G : Int) : (4 * (0 * (h * (h * h))) + 18446744073709551616 * G : Int) = 0 + 18446744073709551616 * G := by grind
theorem rl4_060 (g h G : Int) : (0 + 18446744073709551616 * G : Int) = 0 + 18446744073709551616 * G := by grind
theorem rl4_051 (g h G : Int) : (0 + 18446744073709551616 * G : Int) = 0 + 18446744073709551616 * G := by grind
theorem rl4_042 (g h G : Int) : (g * (g * (g * g)) + 18446744073709551616 * G : Int) = g * (g * (g * g)) + 18446744073709551616 * G := by grind
theorem rl4_033 (g h G : Int) : (4 * (g * (g * (g * h))) + 18446744073709551616 * G : Int) = 4 * (g * (g * (g * h))) + 18446744073709551616 * G := by grind
theorem rl4_024 (g h G : Int) : (6 * (g * (g * (h * h))) + 18446744073709551616 * G : Int) = 6 * (g * (g * (h * h))) + 18446744073709551616 * G := by grind
theorem rl4_015 (g h G : Int) : (4 * (g * (h * (h * h))) + 18446744073709551616 * G : Int) = 4 * (g * (h * (h * h))) + 18446744073709551616 * G := by grind
theorem rl4_006 (g h G : Int) : (h * (h * (h * h)) + 18446744073709551616 * G : Int) = h * (h * (h * h)) + 18446744073709551616 * G := by grind
theorem ev2_60 (X Y W : Nat → Int) (hX : bx7 X) (hY : bx7 Y) (hW : bx7 W) (c : Int) (hc : c ≠ 0) (hp : cont X Y W c) (f E : Nat → Int) (hT : ∀ a b, a + b ≤ 6 → tTf X Y W a b = 27 * c * f (7 * a + b)) (z : zr 2 6 0 f E) : TP 2 f E := by
  obtain ⟨su0, hl, hne, hz, hb, hv, H, pH, hH⟩ := z
  have su1 : SUi E 3 := su0
  have su := su1
  obtain ⟨G, hG⟩ := env_G2 su pH hH
  have hl' : ipw (E 21) 2 = f 42 := hl
  rw [lb2] at hl'
  have he : E 21 ≠ 0 := hne
  have t600 : tT600 X Y W = 27 * c * (E 21 * E 21 + 18446744073709551616 * G 6 0) := (hT 6 0 (by decide)).trans (congrArg (fun v => 27 * c * v) (hG 6 0 (by decide)))
  have t510 : tT510 X Y W = 27 * c * (2 * E 21 * E 15 + 18446744073709551616 * G 5 1) := (hT 5 1 (by decide)).trans (congrArg (fun v => 27 * c * v) (hG 5 1 (by decide)))
  have t501 : tT501 X Y W = 27 * c * (2 * E 21 * E 14 + 18446744073709551616 * G 5 0) := (hT 5 0 (by decide)).trans (congrArg (fun v => 27 * c * v) (hG 5 0 (by decide)))
  have t420 : tT420 X Y W = 27 * c * (2 * E 21 * E 9 + E 15 * E 15 + 18446744073709551616 * G 4 2) := (hT 4 2 (by decide)).trans (congrArg (fun v => 27 * c * v) (hG 4 2 (by decide)))
  have t411 : tT411 X Y W = 27 * c * (2 * E 21 * E 8 + 2 * E 15 * E 14 + 18446744073709551616 * G 4 1) := (hT 4 1 (by decide)).trans (congrArg (fun v => 27 * c * v) (hG 4 1 (by decide)))
  have t402 : tT402 X Y W = 27 * c * (2 * E 21 * E 7 + E 14 * E 14 + 18446744073709551616 * G 4 0) := (hT 4 0 (by decide)).trans (congrArg (fun v => 27 * c * v) (hG 4 0 (by decide)))
  have t330 : tT330 X Y W = 27 * c * (2 * E 21 * E 3 + 2 * E 15 * E 9 + 18446744073709551616 * G 3 3) := (hT 3 3 (by decide)).trans (congrArg (fun v => 27 * c * v) (hG 3 3 (by decide)))
  have t321 : tT321 X Y W = 27 * c * (2 * E 21 * E 2 + (2 * E 15 * E 8 + 2 * E 9 * E 14) + 18446744073709551616 * G 3 2) := (hT 3 2 (by decide)).trans (congrArg (fun v => 27 * c * v) (hG 3 2 (by decide)))
  have t312 : tT312 X Y W = 27 * c * (2 * E 21 * E 1 + (2 * E 14 * E 8 + 2 * E 7 * E 15) + 18446744073709551616 * G 3 1) := (hT 3 1 (by decide)).trans (congrArg (fun v => 27 * c * v) (hG 3 1 (by decide)))
  have t303 : tT303 X Y W = 27 * c * (2 * E 21 * E 0 + 2 * E 14 * E 7 + 18446744073709551616 * G 3 0) := (hT 3 0 (by decide)).trans (congrArg (fun v => 27 * c * v) (hG 3 0 (by decide)))
  have t240 : tT240 X Y W = 27 * c * (2 * E 15 * E 3 + E 9 * E 9 + 18446744073709551616 * G 2 4) := (hT 2 4 (by decide)).trans (congrArg (fun v => 27 * c * v) (hG 2 4 (by decide)))
  have t231 : tT231 X Y W = 27 * c * (2 * E 15 * E 2 + (2 * E 9 * E 8 + 2 * E 3 * E 14) + 18446744073709551616 * G 2 3) := (hT 2 3 (by decide)).trans (congrArg (fun v => 27 * c * v) (hG 2 3 (by decide)))
  have t222 : tT222 X Y W = 27 * c * (E 8 * E 8 + (2 * E 15 * E 1 + (2 * E 14 * E 2 + 2 * E 9 * E 7)) + 18446744073709551616 * G 2 2) := (hT 2 2 (by decide)).trans (congrArg (fun v => 27 * c * v) (hG 2 2 (by decide)))
  have t213 : tT213 X Y W = 27 * c * (2 * E 14 * E 1 + (2 * E 7 * E 8 + 2 * E 0 * E 15) + 18446744073709551616 * G 2 1) := (hT 2 1 (by decide)).trans (congrArg (fun v => 27 * c * v) (hG 2 1 (by decide)))
  have t204 : tT204 X Y W = 27 * c * (2 * E 14 * E 0 + E 7 * E 7 + 18446744073709551616 * G 2 0) := (hT 2 0 (by decide)).trans (congrArg (fun v => 27 * c * v) (hG 2 0 (by decide)))
  have t150 : tT150 X Y W = 27 * c * (2 * E 9 * E 3 + 18446744073709551616 * G 1 5) := (hT 1 5 (by decide)).trans (congrArg (fun v => 27 * c * v) (hG 1 5 (by decide)))
  have t141 : tT141 X Y W = 27 * c * (2 * E 9 * E 2 + 2 * E 3 * E 8 + 18446744073709551616 * G 1 4) := (hT 1 4 (by decide)).trans (congrArg (fun v => 27 * c * v) (hG 1 4 (by decide)))
  have t132 : tT132 X Y W = 27 * c * (2 * E 9 * E 1 + (2 * E 8 * E 2 + 2 * E 7 * E 3) + 18446744073709551616 * G 1 3) := (hT 1 3 (by decide)).trans (congrArg (fun v => 27 * c * v) (hG 1 3 (by decide)))
  have t123 : tT123 X Y W = 27 * c * (2 * E 7 * E 2 + (2 * E 8 * E 1 + 2 * E 9 * E 0) + 18446744073709551616 * G 1 2) := (hT 1 2 (by decide)).trans (congrArg (fun v => 27 * c * v) (hG 1 2 (by decide)))
  have t114 : tT114 X Y W = 27 * c * (2 * E 7 * E 1 + 2 * E 0 * E 8 + 18446744073709551616 * G 1 1) := (hT 1 1 (by decide)).trans (congrArg (fun v => 27 * c * v) (hG 1 1 (by decide)))
  have t105 : tT105 X Y W = 27 * c * (2 * E 7 * E 0 + 18446744073709551616 * G 1 0) := (hT 1 0 (by decide)).trans (congrArg (fun v => 27 * c * v) (hG 1 0 (by decide)))
  have t060 : tT060 X Y W = 27 * c * (E 3 * E 3 + 18446744073709551616 * G 0 6) := (hT 0 6 (by decide)).trans (congrArg (fun v => 27 * c * v) (hG 0 6 (by decide)))
  have t051 : tT051 X Y W = 27 * c * (2 * E 3 * E 2 + 18446744073709551616 * G 0 5) := (hT 0 5 (by decide)).trans (congrArg (fun v => 27 * c * v) (hG 0 5 (by decide)))
  have t042 : tT042 X Y W = 27 * c * (E 2 * E 2 + 2 * E 3 * E 1 + 18446744073709551616 * G 0 4) := (hT 0 4 (by decide)).trans (congrArg (fun v => 27 * c * v) (hG 0 4 (by decide)))
  have t033 : tT033 X Y W = 27 * c * (2 * E 3 * E 0 + 2 * E 2 * E 1 + 18446744073709551616 * G 0 3) := (hT 0 3 (by decide)).trans (congrArg (fun v => 27 * c * v) (hG 0 3 (by decide)))
  have t024 : tT024 X Y W = 27 * c * (E 1 * E 1 + 2 * E 0 * E 2 + 18446744073709551616 * G 0 2) := (hT 0 2 (by decide)).trans (congrArg (fun v => 27 * c * v) (hG 0 2 (by decide)))
  have t015 : tT015 X Y W = 27 * c * (2 * E 0 * E 1 + 18446744073709551616 * G 0 1) := (hT 0 1 (by decide)).trans (congrArg (fun v => 27 * c * v) (hG 0 1 (by decide)))
  have t006 : tT006 X Y W = 27 * c * (E 0 * E 0 + 18446744073709551616 * G 0 0) := (hT 0 0 (by decide)).trans (congrArg (fun v => 27 * c * v) (hG 0 0 (by decide)))
  have zl : G 6 0 = 0 := by
    have a' : f 42 = E 21 * E 21 + 18446744073709551616 * G 6 0 := hG 6 0 (by decide)
    try simp only [Int.mul_zero, Int.zero_mul, Int.zero_add, Int.add_zero, Int.mul_assoc] at a'
    try simp only [Int.mul_zero, Int.zero_mul, Int.zero_add, Int.add_zero, Int.mul_assoc] at hl'
    omega
  have de1 : (2 * E 21 * E 15).natAbs ≤ 2 ^ 63 := by
    have q := hb 15 (by decide) (by decide)
    rw [db2] at q
    exact Nat.le_trans q (by decide +kernel)
  have dg1 : (2 * E 21 * E 14).natAbs ≤ 2 ^ 63 := by
    have q := hb 14 (by decide) (by decide)
    rw [db2] at q
    exact Nat.le_trans q (by decide +kernel)
  have de2 : (2 * E 21 * E 9).natAbs ≤ 2 ^ 63 := by
    have q := hb 9 (by decide) (by decide)
    rw [db2] at q
    exact Nat.le_trans q (by decide +kernel)
  have dm : (2 * E 21 * E 8).natAbs ≤ 2 ^ 63 := by
    have q := hb 8 (by decide) (by decide)
    rw [db2] at q
    exact Nat.le_trans q (by decide +kernel)
  have dh1 : (2 * E 21 * E 7).natAbs ≤ 2 ^ 63 := by
    have q := hb 7 (by decide) (by decide)
    rw [db2] at q
    exact Nat.le_trans q (by decide +kernel)
  have de3 : (2 * E 21 * E 3).natAbs ≤ 2 ^ 63 := by
    have q := hb 3 (by decide) (by decide)
    rw [db2] at q
    exact Nat.le_trans q (by decide +kernel)
  have dn1 : (2 * E 21 * E 2).natAbs ≤ 2 ^ 63 := by
    have q := hb 2 (by decide) (by decide)
    rw [db2] at q
    exact Nat.le_trans q (by decide +kernel)
  have dn2 : (2 * E 21 * E 1).natAbs ≤ 2 ^ 63 := by
    have q := hb 1 (by decide) (by decide)
    rw [db2] at q
    exact Nat.le_trans q (by decide +kernel)
  have dk0 : (2 * E 21 * E 0).natAbs ≤ 2 ^ 63 := by
    have q := hb 0 (by decide) (by decide)
    rw [db2] at q
    exact Nat.le_trans q (by decide +kernel)
  obtain ⟨w600, w510, w501, w420, w411, w402, w330, w321, w312, w303, w240, w231, w222, w213, w204, w150, w141, w132, w123, w114, w105, w060, w051, w042, w033, w024, w015, w006⟩ := sq6a X Y W hX hY hW c (E 21) (E 15) (E 14) (E 9) (E 8) (E 7) (E 3) (E 2) (E 1) (E 0) (G 6 0) (G 5 1) (G 5 0) (G 4 2) (G 4 1) (G 4 0) (G 3 3) (G 3 2) (G 3 1) (G 3 0) (G 2 4) (G 2 3) (G 2 2) (G 2 1) (G 2 0) (G 1 5) (G 1 4) (G 1 3) (G 1 2) (G 1 1) (G 1 0) (G 0 6) (G 0 5) (G 0 4) (G 0 3) (G 0 2) (G 0 1) (G 0 0) hc he  zl t600 t510 t501 t420 t411 t402 t330 t321 t312 t303 t240 t231 t222 t213 t204 t150 t141 t132 t123 t114 t105 t060 t051 t042 t033 t024 t015 t006 de1 dg1 de2 dm dh1 de3 dn1 dn2 dk0
  refine env_end2 su (fun a b hab => ?_)
  have g0 : G a b = 0 := by
    have ha : a = 0 ∨ a = 1 ∨ a = 2 ∨ a = 3 ∨ a = 4 ∨ a = 5 ∨ a = 6 := by omega
    have hb : b = 0 ∨ b = 1 ∨ b = 2 ∨ b = 3 ∨ b = 4 ∨ b = 5 ∨ b = 6 := by omega
    clear hH hG hT hv hz
    rcases ha with ha | ha | ha | ha | ha | ha | ha <;> rcases hb with hb | hb | hb | hb | hb | hb | hb <;> subst ha <;> subst hb <;> first | (exfalso; omega) | assumption
  rw [hG a b hab, g0, Int.mul_zero, Int.add_zero]
theorem ev2_42 (X Y W : Nat → Int) (hX : bx7 X) (hY : bx7 Y) (hW : bx7 W) (c : Int) (hc : c ≠ 0) (hp : cont X Y W c) (f E : Nat → Int) (hT : ∀ a b, a + b ≤ 6 → tTf X Y W a b = 27 * c * f (7 * a + b)) (z : zr 2 4 2 f E) : TP 2 f E := by
  obtain ⟨su0, hl, hne, hz, hb, hv, H, pH, hH⟩ := z
  have su1 : SUi E 3 := su0
  have su := su1
  obtain ⟨G, hG⟩ := env_G2 su pH hH
  have hl' : ipw (E 15) 2 = f 30 := hl
  rw [lb2] at hl'
  have he : E 15 ≠ 0 := hne
  have z21 : E 21 = 0 := hz 3 0 (by decide) (by decide)
  have t600 : tT600 X Y W = 27 * c * (E 21 * E 21 + 18446744073709551616 * G 6 0) := (hT 6 0 (by decide)).trans (congrArg (fun v => 27 * c * v) (hG 6 0 (by decide)))
  have t510 : tT510 X Y W = 27 * c * (2 * E 21 * E 15 + 18446744073709551616 * G 5 1) := (hT 5 1 (by decide)).trans (congrArg (fun v => 27 * c * v) (hG 5 1 (by decide)))
  have t501 : tT501 X Y W = 27 * c * (2 * E 21 * E 14 + 18446744073709551616 * G 5 0) := (hT 5 0 (by decide)).trans (congrArg (fun v => 27 * c * v) (hG 5 0 (by decide)))
  have t420 : tT420 X Y W = 27 * c * (2 * E 21 * E 9 + E 15 * E 15 + 18446744073709551616 * G 4 2) := (hT 4 2 (by decide)).trans (congrArg (fun v => 27 * c * v) (hG 4 2 (by decide)))
  have t411 : tT411 X Y W = 27 * c * (2 * E 21 * E 8 + 2 * E 15 * E 14 + 18446744073709551616 * G 4 1) := (hT 4 1 (by decide)).trans (congrArg (fun v => 27 * c * v) (hG 4 1 (by decide)))
  have t402 : tT402 X Y W = 27 * c * (2 * E 21 * E 7 + E 14 * E 14 + 18446744073709551616 * G 4 0) := (hT 4 0 (by decide)).trans (congrArg (fun v => 27 * c * v) (hG 4 0 (by decide)))
  have t330 : tT330 X Y W = 27 * c * (2 * E 21 * E 3 + 2 * E 15 * E 9 + 18446744073709551616 * G 3 3) := (hT 3 3 (by decide)).trans (congrArg (fun v => 27 * c * v) (hG 3 3 (by decide)))
  have t321 : tT321 X Y W = 27 * c * (2 * E 21 * E 2 + (2 * E 15 * E 8 + 2 * E 9 * E 14) + 18446744073709551616 * G 3 2) := (hT 3 2 (by decide)).trans (congrArg (fun v => 27 * c * v) (hG 3 2 (by decide)))
  have t312 : tT312 X Y W = 27 * c * (2 * E 21 * E 1 + (2 * E 14 * E 8 + 2 * E 7 * E 15) + 18446744073709551616 * G 3 1) := (hT 3 1 (by decide)).trans (congrArg (fun v => 27 * c * v) (hG 3 1 (by decide)))
  have t303 : tT303 X Y W = 27 * c * (2 * E 21 * E 0 + 2 * E 14 * E 7 + 18446744073709551616 * G 3 0) := (hT 3 0 (by decide)).trans (congrArg (fun v => 27 * c * v) (hG 3 0 (by decide)))
  have t240 : tT240 X Y W = 27 * c * (2 * E 15 * E 3 + E 9 * E 9 + 18446744073709551616 * G 2 4) := (hT 2 4 (by decide)).trans (congrArg (fun v => 27 * c * v) (hG 2 4 (by decide)))
  have t231 : tT231 X Y W = 27 * c * (2 * E 15 * E 2 + (2 * E 9 * E 8 + 2 * E 3 * E 14) + 18446744073709551616 * G 2 3) := (hT 2 3 (by decide)).trans (congrArg (fun v => 27 * c * v) (hG 2 3 (by decide)))
  have t222 : tT222 X Y W = 27 * c * (E 8 * E 8 + (2 * E 15 * E 1 + (2 * E 14 * E 2 + 2 * E 9 * E 7)) + 18446744073709551616 * G 2 2) := (hT 2 2 (by decide)).trans (congrArg (fun v => 27 * c * v) (hG 2 2 (by decide)))
  have t213 : tT213 X Y W = 27 * c * (2 * E 14 * E 1 + (2 * E 7 * E 8 + 2 * E 0 * E 15) + 18446744073709551616 * G 2 1) := (hT 2 1 (by decide)).trans (congrArg (fun v => 27 * c * v) (hG 2 1 (by decide)))
  have t204 : tT204 X Y W = 27 * c * (2 * E 14 * E 0 + E 7 * E 7 + 18446744073709551616 * G 2 0) := (hT 2 0 (by decide)).trans (congrArg (fun v => 27 * c * v) (hG 2 0 (by decide)))
  have t150 : tT150 X Y W = 27 * c * (2 * E 9 * E 3 + 18446744073709551616 * G 1 5) := (hT 1 5 (by decide)).trans (congrArg (fun v => 27 * c * v) (hG 1 5 (by decide)))
  have t141 : tT141 X Y W = 27 * c * (2 * E 9 * E 2 + 2 * E 3 * E 8 + 18446744073709551616 * G 1 4) := (hT 1 4 (by decide)).trans (congrArg (fun v => 27 * c * v) (hG 1 4 (by decide)))
  have t132 : tT132 X Y W = 27 * c * (2 * E 9 * E 1 + (2 * E 8 * E 2 + 2 * E 7 * E 3) + 18446744073709551616 * G 1 3) := (hT 1 3 (by decide)).trans (congrArg (fun v => 27 * c * v) (hG 1 3 (by decide)))
  have t123 : tT123 X Y W = 27 * c * (2 * E 7 * E 2 + (2 * E 8 * E 1 + 2 * E 9 * E 0) + 18446744073709551616 * G 1 2) := (hT 1 2 (by decide)).trans (congrArg (fun v => 27 * c * v) (hG 1 2 (by decide)))
  have t114 : tT114 X Y W = 27 * c * (2 * E 7 * E 1 + 2 * E 0 * E 8 + 18446744073709551616 * G 1 1) := (hT 1 1 (by decide)).trans (congrArg (fun v => 27 * c * v) (hG 1 1 (by decide)))
  have t105 : tT105 X Y W = 27 * c * (2 * E 7 * E 0 + 18446744073709551616 * G 1 0) := (hT 1 0 (by decide)).trans (congrArg (fun v => 27 * c * v) (hG 1 0 (by decide)))
  have t060 : tT060 X Y W = 27 * c * (E 3 * E 3 + 18446744073709551616 * G 0 6) := (hT 0 6 (by decide)).trans (congrArg (fun v => 27 * c * v) (hG 0 6 (by decide)))
  have t051 : tT051 X Y W = 27 * c * (2 * E 3 * E 2 + 18446744073709551616 * G 0 5) := (hT 0 5 (by decide)).trans (congrArg (fun v => 27 * c * v) (hG 0 5 (by decide)))
  have t042 : tT042 X Y W = 27 * c * (E 2 * E 2 + 2 * E 3 * E 1 + 18446744073709551616 * G 0 4) := (hT 0 4 (by decide)).trans (congrArg (fun v => 27 * c * v) (hG 0 4 (by decide)))
  have t033 : tT033 X Y W = 27 * c * (2 * E 3 * E 0 + 2 * E 2 * E 1 + 18446744073709551616 * G 0 3) := (hT 0 3 (by decide)).trans (congrArg (fun v => 27 * c * v) (hG 0 3 (by decide)))
  have t024 : tT024 X Y W = 27 * c * (E 1 * E 1 + 2 * E 0 * E 2 + 18446744073709551616 * G 0 2) := (hT 0 2 (by decide)).trans (congrArg (fun v => 27 * c * v) (hG 0 2 (by decide)))
  have t015 : tT015 X Y W = 27 * c * (2 * E 0 * E 1 + 18446744073709551616 * G 0 1) := (hT 0 1 (by decide)).trans (congrArg (fun v => 27 * c * v) (hG 0 1 (by decide)))
  have t006 : tT006 X Y W = 27 * c * (E 0 * E 0 + 18446744073709551616 * G 0 0) := (hT 0 0 (by decide)).trans (congrArg (fun v => 27 * c * v) (hG 0 0 (by decide)))
  have zl : G 4 2 = 0 := by
    have a' : f 30 = 2 * E 21 * E 9 + E 15 * E 15 + 18446744073709551616 * G 4 2 := hG 4 2 (by decide)
    rw [z21] at a'
    try simp only [Int.mul_zero, Int.zero_mul, Int.zero_add, Int.add_zero, Int.mul_assoc] at a'
    try simp only [Int.mul_zero, Int.zero_mul, Int.zero_add, Int.add_zero, Int.mul_assoc] at hl'
    omega
  rw [z21] at t600 t510 t501 t420 t411 t402 t330 t321 t312 t303
  have x600 : tT600 X Y W = 0 := (hT 6 0 (by decide)).trans (by rw [hv 6 0 (by decide) (by decide), Int.mul_zero])
  have x510 : tT510 X Y W = 0 := (hT 5 1 (by decide)).trans (by rw [hv 5 1 (by decide) (by decide), Int.mul_zero])
  have dg1 : (2 * E 15 * E 14).natAbs ≤ 2 ^ 63 := by
    have q := hb 14 (by decide) (by decide)
    rw [db2] at q
    exact Nat.le_trans q (by decide +kernel)
  have de2 : (2 * E 15 * E 9).natAbs ≤ 2 ^ 63 := by
    have q := hb 9 (by decide) (by decide)
    rw [db2] at q
    exact Nat.le_trans q (by decide +kernel)
  have dm : (2 * E 15 * E 8).natAbs ≤ 2 ^ 63 := by
    have q := hb 8 (by decide) (by decide)
    rw [db2] at q
    exact Nat.le_trans q (by decide +kernel)
  have dh1 : (2 * E 15 * E 7).natAbs ≤ 2 ^ 63 := by
    have q := hb 7 (by decide) (by decide)
    rw [db2] at q
    exact Nat.le_trans q (by decide +kernel)
  have de3 : (2 * E 15 * E 3).natAbs ≤ 2 ^ 63 := by
    have q := hb 3 (by decide) (by decide)
    rw [db2] at q
    exact Nat.le_trans q (by decide +kernel)
  have dn1 : (2 * E 15 * E 2).natAbs ≤ 2 ^ 63 := by
    have q := hb 2 (by decide) (by decide)
    rw [db2] at q
    exact Nat.le_trans q (by decide +kernel)
  have dn2 : (2 * E 15 * E 1).natAbs ≤ 2 ^ 63 := by
    have q := hb 1 (by decide) (by decide)
    rw [db2] at q
    exact Nat.le_trans q (by decide +kernel)
  have dk0 : (2 * E 15 * E 0).natAbs ≤ 2 ^ 63 := by
    have q := hb 0 (by decide) (by decide)
    rw [db2] at q
    exact Nat.le_trans q (by decide +kernel)
  obtain ⟨w600, w510, w501, w420, w411, w402, w330, w321, w312, w303, w240, w231, w222, w213, w204, w150, w141, w132, w123, w114, w105, w060, w051, w042, w033, w024, w015, w006⟩ := sq6b X Y W hX hY hW c (E 15) (E 14) (E 9) (E 8) (E 7) (E 3) (E 2) (E 1) (E 0) (G 6 0) (G 5 1) (G 5 0) (G 4 2) (G 4 1) (G 4 0) (G 3 3) (G 3 2) (G 3 1) (G 3 0) (G 2 4) (G 2 3) (G 2 2) (G 2 1) (G 2 0) (G 1 5) (G 1 4) (G 1 3) (G 1 2) (G 1 1) (G 1 0) (G 0 6) (G 0 5) (G 0 4) (G 0 3) (G 0 2) (G 0 1) (G 0 0) hp hc he x600 x510 zl t600 t510 t501 t420 t411 t402 t330 t321 t312 t303 t240 t231 t222 t213 t204 t150 t141 t132 t123 t114 t105 t060 t051 t042 t033 t024 t015 t006 dg1 de2 dm dh1 de3 dn1 dn2 dk0
  refine env_end2 su (fun a b hab => ?_)
  have g0 : G a b = 0 := by
    have ha : a = 0 ∨ a = 1 ∨ a = 2 ∨ a = 3 ∨ a = 4 ∨ a = 5 ∨ a = 6 := by omega
    have hb : b = 0 ∨ b = 1 ∨ b = 2 ∨ b = 3 ∨ b = 4 ∨ b = 5 ∨ b = 6 := by omega
    clear hH hG hT hv hz
    rcases ha with ha | ha | ha | ha | ha | ha | ha <;> rcases hb with hb | hb | hb | hb | hb | hb | hb <;> subst ha <;> subst hb <;> first | (exfalso; omega) | assumption
  rw [hG a b hab, g0, Int.mul_zero, Int.add_zero]
theorem ev2_24 (X Y W : Nat → Int) (hX : bx7 X) (hY : bx7 Y) (hW : bx7 W) (c : Int) (hc : c ≠ 0) (hp : cont X Y W c) (f E : Nat → Int) (hT : ∀ a b, a + b ≤ 6 → tTf X Y W a b = 27 * c * f (7 * a + b)) (z : zr 2 2 4 f E) : TP 2 f E := by
  obtain ⟨su0, hl, hne, hz, hb, hv, H, pH, hH⟩ := z
  have su1 : SUi E 3 := su0
  have su := su1
  obtain ⟨G, hG⟩ := env_G2 su pH hH
  have hl' : ipw (E 9) 2 = f 18 := hl
  rw [lb2] at hl'
  have he : E 9 ≠ 0 := hne
  have z21 : E 21 = 0 := hz 3 0 (by decide) (by decide)
  have z15 : E 15 = 0 := hz 2 1 (by decide) (by decide)
  have t600 : tT600 X Y W = 27 * c * (E 21 * E 21 + 18446744073709551616 * G 6 0) := (hT 6 0 (by decide)).trans (congrArg (fun v => 27 * c * v) (hG 6 0 (by decide)))
  have t510 : tT510 X Y W = 27 * c * (2 * E 21 * E 15 + 18446744073709551616 * G 5 1) := (hT 5 1 (by decide)).trans (congrArg (fun v => 27 * c * v) (hG 5 1 (by decide)))
  have t501 : tT501 X Y W = 27 * c * (2 * E 21 * E 14 + 18446744073709551616 * G 5 0) := (hT 5 0 (by decide)).trans (congrArg (fun v => 27 * c * v) (hG 5 0 (by decide)))
  have t420 : tT420 X Y W = 27 * c * (2 * E 21 * E 9 + E 15 * E 15 + 18446744073709551616 * G 4 2) := (hT 4 2 (by decide)).trans (congrArg (fun v => 27 * c * v) (hG 4 2 (by decide)))
  have t411 : tT411 X Y W = 27 * c * (2 * E 21 * E 8 + 2 * E 15 * E 14 + 18446744073709551616 * G 4 1) := (hT 4 1 (by decide)).trans (congrArg (fun v => 27 * c * v) (hG 4 1 (by decide)))
  have t402 : tT402 X Y W = 27 * c * (2 * E 21 * E 7 + E 14 * E 14 + 18446744073709551616 * G 4 0) := (hT 4 0 (by decide)).trans (congrArg (fun v => 27 * c * v) (hG 4 0 (by decide)))
  have t330 : tT330 X Y W = 27 * c * (2 * E 21 * E 3 + 2 * E 15 * E 9 + 18446744073709551616 * G 3 3) := (hT 3 3 (by decide)).trans (congrArg (fun v => 27 * c * v) (hG 3 3 (by decide)))
  have t321 : tT321 X Y W = 27 * c * (2 * E 21 * E 2 + (2 * E 15 * E 8 + 2 * E 9 * E 14) + 18446744073709551616 * G 3 2) := (hT 3 2 (by decide)).trans (congrArg (fun v => 27 * c * v) (hG 3 2 (by decide)))
  have t312 : tT312 X Y W = 27 * c * (2 * E 21 * E 1 + (2 * E 14 * E 8 + 2 * E 7 * E 15) + 18446744073709551616 * G 3 1) := (hT 3 1 (by decide)).trans (congrArg (fun v => 27 * c * v) (hG 3 1 (by decide)))
  have t303 : tT303 X Y W = 27 * c * (2 * E 21 * E 0 + 2 * E 14 * E 7 + 18446744073709551616 * G 3 0) := (hT 3 0 (by decide)).trans (congrArg (fun v => 27 * c * v) (hG 3 0 (by decide)))
  have t240 : tT240 X Y W = 27 * c * (2 * E 15 * E 3 + E 9 * E 9 + 18446744073709551616 * G 2 4) := (hT 2 4 (by decide)).trans (congrArg (fun v => 27 * c * v) (hG 2 4 (by decide)))
  have t231 : tT231 X Y W = 27 * c * (2 * E 15 * E 2 + (2 * E 9 * E 8 + 2 * E 3 * E 14) + 18446744073709551616 * G 2 3) := (hT 2 3 (by decide)).trans (congrArg (fun v => 27 * c * v) (hG 2 3 (by decide)))
  have t222 : tT222 X Y W = 27 * c * (E 8 * E 8 + (2 * E 15 * E 1 + (2 * E 14 * E 2 + 2 * E 9 * E 7)) + 18446744073709551616 * G 2 2) := (hT 2 2 (by decide)).trans (congrArg (fun v => 27 * c * v) (hG 2 2 (by decide)))
  have t213 : tT213 X Y W = 27 * c * (2 * E 14 * E 1 + (2 * E 7 * E 8 + 2 * E 0 * E 15) + 18446744073709551616 * G 2 1) := (hT 2 1 (by decide)).trans (congrArg (fun v => 27 * c * v) (hG 2 1 (by decide)))
  have t204 : tT204 X Y W = 27 * c * (2 * E 14 * E 0 + E 7 * E 7 + 18446744073709551616 * G 2 0) := (hT 2 0 (by decide)).trans (congrArg (fun v => 27 * c * v) (hG 2 0 (by decide)))
  have t150 : tT150 X Y W = 27 * c * (2 * E 9 * E 3 + 18446744073709551616 * G 1 5) := (hT 1 5 (by decide)).trans (congrArg (fun v => 27 * c * v) (hG 1 5 (by decide)))
  have t141 : tT141 X Y W = 27 * c * (2 * E 9 * E 2 + 2 * E 3 * E 8 + 18446744073709551616 * G 1 4) := (hT 1 4 (by decide)).trans (congrArg (fun v => 27 * c * v) (hG 1 4 (by decide)))
  have t132 : tT132 X Y W = 27 * c * (2 * E 9 * E 1 + (2 * E 8 * E 2 + 2 * E 7 * E 3) + 18446744073709551616 * G 1 3) := (hT 1 3 (by decide)).trans (congrArg (fun v => 27 * c * v) (hG 1 3 (by decide)))
  have t123 : tT123 X Y W = 27 * c * (2 * E 7 * E 2 + (2 * E 8 * E 1 + 2 * E 9 * E 0) + 18446744073709551616 * G 1 2) := (hT 1 2 (by decide)).trans (congrArg (fun v => 27 * c * v) (hG 1 2 (by decide)))
  have t114 : tT114 X Y W = 27 * c * (2 * E 7 * E 1 + 2 * E 0 * E 8 + 18446744073709551616 * G 1 1) := (hT 1 1 (by decide)).trans (congrArg (fun v => 27 * c * v) (hG 1 1 (by decide)))
  have t105 : tT105 X Y W = 27 * c * (2 * E 7 * E 0 + 18446744073709551616 * G 1 0) := (hT 1 0 (by decide)).trans (congrArg (fun v => 27 * c * v) (hG 1 0 (by decide)))
  have t060 : tT060 X Y W = 27 * c * (E 3 * E 3 + 18446744073709551616 * G 0 6) := (hT 0 6 (by decide)).trans (congrArg (fun v => 27 * c * v) (hG 0 6 (by decide)))
  have t051 : tT051 X Y W = 27 * c * (2 * E 3 * E 2 + 18446744073709551616 * G 0 5) := (hT 0 5 (by decide)).trans (congrArg (fun v => 27 * c * v) (hG 0 5 (by decide)))
  have t042 : tT042 X Y W = 27 * c * (E 2 * E 2 + 2 * E 3 * E 1 + 18446744073709551616 * G 0 4) := (hT 0 4 (by decide)).trans (congrArg (fun v => 27 * c * v) (hG 0 4 (by decide)))
  have t033 : tT033 X Y W = 27 * c * (2 * E 3 * E 0 + 2 * E 2 * E 1 + 18446744073709551616 * G 0 3) := (hT 0 3 (by decide)).trans (congrArg (fun v => 27 * c * v) (hG 0 3 (by decide)))
  have t024 : tT024 X Y W = 27 * c * (E 1 * E 1 + 2 * E 0 * E 2 + 18446744073709551616 * G 0 2) := (hT 0 2 (by decide)).trans (congrArg (fun v => 27 * c * v) (hG 0 2 (by decide)))
  have t015 : tT015 X Y W = 27 * c * (2 * E 0 * E 1 + 18446744073709551616 * G 0 1) := (hT 0 1 (by decide)).trans (congrArg (fun v => 27 * c * v) (hG 0 1 (by decide)))
  have t006 : tT006 X Y W = 27 * c * (E 0 * E 0 + 18446744073709551616 * G 0 0) := (hT 0 0 (by decide)).trans (congrArg (fun v => 27 * c * v) (hG 0 0 (by decide)))
  have zl : G 2 4 = 0 := by
    have a' : f 18 = 2 * E 15 * E 3 + E 9 * E 9 + 18446744073709551616 * G 2 4 := hG 2 4 (by decide)
    rw [z15] at a'
    try simp only [Int.mul_zero, Int.zero_mul, Int.zero_add, Int.add_zero, Int.mul_assoc] at a'
    try simp only [Int.mul_zero, Int.zero_mul, Int.zero_add, Int.add_zero, Int.mul_assoc] at hl'
    omega
  rw [z21] at t600 t510 t501 t420 t411 t402 t330 t321 t312 t303
  rw [z15] at t510 t420 t411 t330 t321 t312 t240 t231 t222 t213
  have x600 : tT600 X Y W = 0 := (hT 6 0 (by decide)).trans (by rw [hv 6 0 (by decide) (by decide), Int.mul_zero])
  have x510 : tT510 X Y W = 0 := (hT 5 1 (by decide)).trans (by rw [hv 5 1 (by decide) (by decide), Int.mul_zero])
  have x420 : tT420 X Y W = 0 := (hT 4 2 (by decide)).trans (by rw [hv 4 2 (by decide) (by decide), Int.mul_zero])
  have x330 : tT330 X Y W = 0 := (hT 3 3 (by decide)).trans (by rw [hv 3 3 (by decide) (by decide), Int.mul_zero])
  have de3 : (2 * E 9 * E 3).natAbs ≤ 2 ^ 63 := by
    have q := hb 3 (by decide) (by decide)
    rw [db2] at q
    exact Nat.le_trans q (by decide +kernel)
  have dg1 : (2 * E 9 * E 14).natAbs ≤ 2 ^ 63 := by
    have q := hb 14 (by decide) (by decide)
    rw [db2] at q
    exact Nat.le_trans q (by decide +kernel)
  have dm : (2 * E 9 * E 8).natAbs ≤ 2 ^ 63 := by
    have q := hb 8 (by decide) (by decide)
    rw [db2] at q
    exact Nat.le_trans q (by decide +kernel)
  have dn1 : (2 * E 9 * E 2).natAbs ≤ 2 ^ 63 := by
    have q := hb 2 (by decide) (by decide)
    rw [db2] at q
    exact Nat.le_trans q (by decide +kernel)
  have dh1 : (2 * E 9 * E 7).natAbs ≤ 2 ^ 63 := by
    have q := hb 7 (by decide) (by decide)
    rw [db2] at q
    exact Nat.le_trans q (by decide +kernel)
  have dn2 : (2 * E 9 * E 1).natAbs ≤ 2 ^ 63 := by
    have q := hb 1 (by decide) (by decide)
    rw [db2] at q
    exact Nat.le_trans q (by decide +kernel)
  have dk0 : (2 * E 9 * E 0).natAbs ≤ 2 ^ 63 := by
    have q := hb 0 (by decide) (by decide)
    rw [db2] at q
    exact Nat.le_trans q (by decide +kernel)
  obtain ⟨w600, w510, w501, w420, w411, w402, w330, w321, w312, w303, w240, w231, w222, w213, w204, w150, w141, w132, w123, w114, w105, w060, w051, w042, w033, w024, w015, w006⟩ := sq6c X Y W hX hY hW c (E 14) (E 9) (E 8) (E 7) (E 3) (E 2) (E 1) (E 0) (G 6 0) (G 5 1) (G 5 0) (G 4 2) (G 4 1) (G 4 0) (G 3 3) (G 3 2) (G 3 1) (G 3 0) (G 2 4) (G 2 3) (G 2 2) (G 2 1) (G 2 0) (G 1 5) (G 1 4) (G 1 3) (G 1 2) (G 1 1) (G 1 0) (G 0 6) (G 0 5) (G 0 4) (G 0 3) (G 0 2) (G 0 1) (G 0 0) hc he x600 x510 x420 x330 zl t600 t510 t501 t420 t411 t402 t330 t321 t312 t303 t240 t231 t222 t213 t204 t150 t141 t132 t123 t114 t105 t060 t051 t042 t033 t024 t015 t006 de3 dg1 dm dn1 dh1 dn2 dk0
  refine env_end2 su (fun a b hab => ?_)
  have g0 : G a b = 0 := by
    have ha : a = 0 ∨ a = 1 ∨ a = 2 ∨ a = 3 ∨ a = 4 ∨ a = 5 ∨ a = 6 := by omega
    have hb : b = 0 ∨ b = 1 ∨ b = 2 ∨ b = 3 ∨ b = 4 ∨ b = 5 ∨ b = 6 := by omega
    clear hH hG hT hv hz
    rcases ha with ha | ha | ha | ha | ha | ha | ha <;> rcases hb with hb | hb | hb | hb | hb | hb | hb <;> subst ha <;> subst hb <;> first | (exfalso; omega) | assumption
  rw [hG a b hab, g0, Int.mul_zero, Int.add_zero]
theorem ev2_06 (X Y W : Nat → Int) (hX : bx7 X) (hY : bx7 Y) (hW : bx7 W) (c : Int) (hc : c ≠ 0) (hp : cont X Y W c) (f E : Nat → Int) (hT : ∀ a b, a + b ≤ 6 → tTf X Y W a b = 27 * c * f (7 * a + b)) (z : zr 2 0 6 f E) : TP 2 f E := by
  obtain ⟨su0, hl, hne, hz, hb, hv, H, pH, hH⟩ := z
  have su1 : SUi E 3 := su0
  have su := su1
  obtain ⟨G, hG⟩ := env_G2 su pH hH
  have hl' : ipw (E 3) 2 = f 6 := hl
  rw [lb2] at hl'
  have he : E 3 ≠ 0 := hne
  have z21 : E 21 = 0 := hz 3 0 (by decide) (by decide)
  have z15 : E 15 = 0 := hz 2 1 (by decide) (by decide)
  have z9 : E 9 = 0 := hz 1 2 (by decide) (by decide)
  have t600 : tT600 X Y W = 27 * c * (E 21 * E 21 + 18446744073709551616 * G 6 0) := (hT 6 0 (by decide)).trans (congrArg (fun v => 27 * c * v) (hG 6 0 (by decide)))
  have t510 : tT510 X Y W = 27 * c * (2 * E 21 * E 15 + 18446744073709551616 * G 5 1) := (hT 5 1 (by decide)).trans (congrArg (fun v => 27 * c * v) (hG 5 1 (by decide)))
  have t501 : tT501 X Y W = 27 * c * (2 * E 21 * E 14 + 18446744073709551616 * G 5 0) := (hT 5 0 (by decide)).trans (congrArg (fun v => 27 * c * v) (hG 5 0 (by decide)))
  have t420 : tT420 X Y W = 27 * c * (2 * E 21 * E 9 + E 15 * E 15 + 18446744073709551616 * G 4 2) := (hT 4 2 (by decide)).trans (congrArg (fun v => 27 * c * v) (hG 4 2 (by decide)))
  have t411 : tT411 X Y W = 27 * c * (2 * E 21 * E 8 + 2 * E 15 * E 14 + 18446744073709551616 * G 4 1) := (hT 4 1 (by decide)).trans (congrArg (fun v => 27 * c * v) (hG 4 1 (by decide)))
  have t402 : tT402 X Y W = 27 * c * (2 * E 21 * E 7 + E 14 * E 14 + 18446744073709551616 * G 4 0) := (hT 4 0 (by decide)).trans (congrArg (fun v => 27 * c * v) (hG 4 0 (by decide)))
  have t330 : tT330 X Y W = 27 * c * (2 * E 21 * E 3 + 2 * E 15 * E 9 + 18446744073709551616 * G 3 3) := (hT 3 3 (by decide)).trans (congrArg (fun v => 27 * c * v) (hG 3 3 (by decide)))
  have t321 : tT321 X Y W = 27 * c * (2 * E 21 * E 2 + (2 * E 15 * E 8 + 2 * E 9 * E 14) + 18446744073709551616 * G 3 2) := (hT 3 2 (by decide)).trans (congrArg (fun v => 27 * c * v) (hG 3 2 (by decide)))
  have t312 : tT312 X Y W = 27 * c * (2 * E 21 * E 1 + (2 * E 14 * E 8 + 2 * E 7 * E 15) + 18446744073709551616 * G 3 1) := (hT 3 1 (by decide)).trans (congrArg (fun v => 27 * c * v) (hG 3 1 (by decide)))
  have t303 : tT303 X Y W = 27 * c * (2 * E 21 * E 0 + 2 * E 14 * E 7 + 18446744073709551616 * G 3 0) := (hT 3 0 (by decide)).trans (congrArg (fun v => 27 * c * v) (hG 3 0 (by decide)))
  have t240 : tT240 X Y W = 27 * c * (2 * E 15 * E 3 + E 9 * E 9 + 18446744073709551616 * G 2 4) := (hT 2 4 (by decide)).trans (congrArg (fun v => 27 * c * v) (hG 2 4 (by decide)))
  have t231 : tT231 X Y W = 27 * c * (2 * E 15 * E 2 + (2 * E 9 * E 8 + 2 * E 3 * E 14) + 18446744073709551616 * G 2 3) := (hT 2 3 (by decide)).trans (congrArg (fun v => 27 * c * v) (hG 2 3 (by decide)))
  have t222 : tT222 X Y W = 27 * c * (E 8 * E 8 + (2 * E 15 * E 1 + (2 * E 14 * E 2 + 2 * E 9 * E 7)) + 18446744073709551616 * G 2 2) := (hT 2 2 (by decide)).trans (congrArg (fun v => 27 * c * v) (hG 2 2 (by decide)))
  have t213 : tT213 X Y W = 27 * c * (2 * E 14 * E 1 + (2 * E 7 * E 8 + 2 * E 0 * E 15) + 18446744073709551616 * G 2 1) := (hT 2 1 (by decide)).trans (congrArg (fun v => 27 * c * v) (hG 2 1 (by decide)))
  have t204 : tT204 X Y W = 27 * c * (2 * E 14 * E 0 + E 7 * E 7 + 18446744073709551616 * G 2 0) := (hT 2 0 (by decide)).trans (congrArg (fun v => 27 * c * v) (hG 2 0 (by decide)))
  have t150 : tT150 X Y W = 27 * c * (2 * E 9 * E 3 + 18446744073709551616 * G 1 5) := (hT 1 5 (by decide)).trans (congrArg (fun v => 27 * c * v) (hG 1 5 (by decide)))
  have t141 : tT141 X Y W = 27 * c * (2 * E 9 * E 2 + 2 * E 3 * E 8 + 18446744073709551616 * G 1 4) := (hT 1 4 (by decide)).trans (congrArg (fun v => 27 * c * v) (hG 1 4 (by decide)))
  have t132 : tT132 X Y W = 27 * c * (2 * E 9 * E 1 + (2 * E 8 * E 2 + 2 * E 7 * E 3) + 18446744073709551616 * G 1 3) := (hT 1 3 (by decide)).trans (congrArg (fun v => 27 * c * v) (hG 1 3 (by decide)))
  have t123 : tT123 X Y W = 27 * c * (2 * E 7 * E 2 + (2 * E 8 * E 1 + 2 * E 9 * E 0) + 18446744073709551616 * G 1 2) := (hT 1 2 (by decide)).trans (congrArg (fun v => 27 * c * v) (hG 1 2 (by decide)))
  have t114 : tT114 X Y W = 27 * c * (2 * E 7 * E 1 + 2 * E 0 * E 8 + 18446744073709551616 * G 1 1) := (hT 1 1 (by decide)).trans (congrArg (fun v => 27 * c * v) (hG 1 1 (by decide)))
  have t105 : tT105 X Y W = 27 * c * (2 * E 7 * E 0 + 18446744073709551616 * G 1 0) := (hT 1 0 (by decide)).trans (congrArg (fun v => 27 * c * v) (hG 1 0 (by decide)))
  have t060 : tT060 X Y W = 27 * c * (E 3 * E 3 + 18446744073709551616 * G 0 6) := (hT 0 6 (by decide)).trans (congrArg (fun v => 27 * c * v) (hG 0 6 (by decide)))
  have t051 : tT051 X Y W = 27 * c * (2 * E 3 * E 2 + 18446744073709551616 * G 0 5) := (hT 0 5 (by decide)).trans (congrArg (fun v => 27 * c * v) (hG 0 5 (by decide)))
  have t042 : tT042 X Y W = 27 * c * (E 2 * E 2 + 2 * E 3 * E 1 + 18446744073709551616 * G 0 4) := (hT 0 4 (by decide)).trans (congrArg (fun v => 27 * c * v) (hG 0 4 (by decide)))
  have t033 : tT033 X Y W = 27 * c * (2 * E 3 * E 0 + 2 * E 2 * E 1 + 18446744073709551616 * G 0 3) := (hT 0 3 (by decide)).trans (congrArg (fun v => 27 * c * v) (hG 0 3 (by decide)))
  have t024 : tT024 X Y W = 27 * c * (E 1 * E 1 + 2 * E 0 * E 2 + 18446744073709551616 * G 0 2) := (hT 0 2 (by decide)).trans (congrArg (fun v => 27 * c * v) (hG 0 2 (by decide)))
  have t015 : tT015 X Y W = 27 * c * (2 * E 0 * E 1 + 18446744073709551616 * G 0 1) := (hT 0 1 (by decide)).trans (congrArg (fun v => 27 * c * v) (hG 0 1 (by decide)))
  have t006 : tT006 X Y W = 27 * c * (E 0 * E 0 + 18446744073709551616 * G 0 0) := (hT 0 0 (by decide)).trans (congrArg (fun v => 27 * c * v) (hG 0 0 (by decide)))
  have zl : G 0 6 = 0 := by
    have a' : f 6 = E 3 * E 3 + 18446744073709551616 * G 0 6 := hG 0 6 (by decide)
    try simp only [Int.mul_zero, Int.zero_mul, Int.zero_add, Int.add_zero, Int.mul_assoc] at a'
    try simp only [Int.mul_zero, Int.zero_mul, Int.zero_add, Int.add_zero, Int.mul_assoc] at hl'
    omega
  rw [z21] at t600 t510 t501 t420 t411 t402 t330 t321 t312 t303
  rw [z15] at t510 t420 t411 t330 t321 t312 t240 t231 t222 t213
  rw [z9] at t420 t330 t321 t240 t231 t222 t150 t141 t132 t123
  have dn1 : (2 * E 3 * E 2).natAbs ≤ 2 ^ 63 := by
    have q := hb 2 (by decide) (by decide)
    rw [db2] at q
    exact Nat.le_trans q (by decide +kernel)
  have dm : (2 * E 3 * E 8).natAbs ≤ 2 ^ 63 := by
    have q := hb 8 (by decide) (by decide)
    rw [db2] at q
    exact Nat.le_trans q (by decide +kernel)
  have dn2 : (2 * E 3 * E 1).natAbs ≤ 2 ^ 63 := by
    have q := hb 1 (by decide) (by decide)
    rw [db2] at q
    exact Nat.le_trans q (by decide +kernel)
  have dg1 : (2 * E 3 * E 14).natAbs ≤ 2 ^ 63 := by
    have q := hb 14 (by decide) (by decide)
    rw [db2] at q
    exact Nat.le_trans q (by decide +kernel)
  have dh1 : (2 * E 3 * E 7).natAbs ≤ 2 ^ 63 := by
    have q := hb 7 (by decide) (by decide)
    rw [db2] at q
    exact Nat.le_trans q (by decide +kernel)
  have dk0 : (2 * E 3 * E 0).natAbs ≤ 2 ^ 63 := by
    have q := hb 0 (by decide) (by decide)
    rw [db2] at q
    exact Nat.le_trans q (by decide +kernel)
  obtain ⟨w600, w510, w501, w420, w411, w402, w330, w321, w312, w303, w240, w231, w222, w213, w204, w150, w141, w132, w123, w114, w105, w060, w051, w042, w033, w024, w015, w006⟩ := sq6d X Y W hX hY hW c (E 14) (E 8) (E 7) (E 3) (E 2) (E 1) (E 0) (G 6 0) (G 5 1) (G 5 0) (G 4 2) (G 4 1) (G 4 0) (G 3 3) (G 3 2) (G 3 1) (G 3 0) (G 2 4) (G 2 3) (G 2 2) (G 2 1) (G 2 0) (G 1 5) (G 1 4) (G 1 3) (G 1 2) (G 1 1) (G 1 0) (G 0 6) (G 0 5) (G 0 4) (G 0 3) (G 0 2) (G 0 1) (G 0 0) hc he  zl t600 t510 t501 t420 t411 t402 t330 t321 t312 t303 t240 t231 t222 t213 t204 t150 t141 t132 t123 t114 t105 t060 t051 t042 t033 t024 t015 t006 dn1 dm dn2 dg1 dh1 dk0
  refine env_end2 su (fun a b hab => ?_)
  have g0 : G a b = 0 := by
    have ha : a = 0 ∨ a = 1 ∨ a = 2 ∨ a = 3 ∨ a = 4 ∨ a = 5 ∨ a = 6 := by omega
    have hb : b = 0 ∨ b = 1 ∨ b = 2 ∨ b = 3 ∨ b = 4 ∨ b = 5 ∨ b = 6 := by omega
    clear hH hG hT hv hz
    rcases ha with ha | ha | ha | ha | ha | ha | ha <;> rcases hb with hb | hb | hb | hb | hb | hb | hb <;> subst ha <;> subst hb <;> first | (exfalso; omega) | assumption
  rw [hG a b hab, g0, Int.mul_zero, Int.add_zero]
theorem ev2_40 (X Y W : Nat → Int) (hX : bx7 X) (hY : bx7 Y) (hW : bx7 W) (c : Int) (hc : c ≠ 0) (hp : cont X Y W c) (f E : Nat → Int) (hT : ∀ a b, a + b ≤ 6 → tTf X Y W a b = 27 * c * f (7 * a + b)) (z : zr 2 4 0 f E) : TP 2 f E := by
  obtain ⟨su0, hl, hne, hz, hb, hv, H, pH, hH⟩ := z
  have su1 : SUi E 2 := su0
  have su : SUi E 3 := fun a b ha hb' h => su1 a b ha hb' (by omega)
  obtain ⟨G, hG⟩ := env_G2 su pH hH
  have hl' : ipw (E 14) 2 = f 28 := hl
  rw [lb2] at hl'
  have he : E 14 ≠ 0 := hne
  have z21 : E 21 = 0 := su1 3 0 (by decide) (by decide) (by decide)
  have z15 : E 15 = 0 := su1 2 1 (by decide) (by decide) (by decide)
  have z9 : E 9 = 0 := su1 1 2 (by decide) (by decide) (by decide)
  have z3 : E 3 = 0 := su1 0 3 (by decide) (by decide) (by decide)
  have t600 : tT600 X Y W = 27 * c * (E 21 * E 21 + 18446744073709551616 * G 6 0) := (hT 6 0 (by decide)).trans (congrArg (fun v => 27 * c * v) (hG 6 0 (by decide)))
  have t510 : tT510 X Y W = 27 * c * (2 * E 21 * E 15 + 18446744073709551616 * G 5 1) := (hT 5 1 (by decide)).trans (congrArg (fun v => 27 * c * v) (hG 5 1 (by decide)))
  have t501 : tT501 X Y W = 27 * c * (2 * E 21 * E 14 + 18446744073709551616 * G 5 0) := (hT 5 0 (by decide)).trans (congrArg (fun v => 27 * c * v) (hG 5 0 (by decide)))
  have t420 : tT420 X Y W = 27 * c * (2 * E 21 * E 9 + E 15 * E 15 + 18446744073709551616 * G 4 2) := (hT 4 2 (by decide)).trans (congrArg (fun v => 27 * c * v) (hG 4 2 (by decide)))
  have t411 : tT411 X Y W = 27 * c * (2 * E 21 * E 8 + 2 * E 15 * E 14 + 18446744073709551616 * G 4 1) := (hT 4 1 (by decide)).trans (congrArg (fun v => 27 * c * v) (hG 4 1 (by decide)))
  have t402 : tT402 X Y W = 27 * c * (2 * E 21 * E 7 + E 14 * E 14 + 18446744073709551616 * G 4 0) := (hT 4 0 (by decide)).trans (congrArg (fun v => 27 * c * v) (hG 4 0 (by decide)))
  have t330 : tT330 X Y W = 27 * c * (2 * E 21 * E 3 + 2 * E 15 * E 9 + 18446744073709551616 * G 3 3) := (hT 3 3 (by decide)).trans (congrArg (fun v => 27 * c * v) (hG 3 3 (by decide)))
  have t321 : tT321 X Y W = 27 * c * (2 * E 21 * E 2 + (2 * E 15 * E 8 + 2 * E 9 * E 14) + 18446744073709551616 * G 3 2) := (hT 3 2 (by decide)).trans (congrArg (fun v => 27 * c * v) (hG 3 2 (by decide)))
  have t312 : tT312 X Y W = 27 * c * (2 * E 21 * E 1 + (2 * E 14 * E 8 + 2 * E 7 * E 15) + 18446744073709551616 * G 3 1) := (hT 3 1 (by decide)).trans (congrArg (fun v => 27 * c * v) (hG 3 1 (by decide)))
  have t303 : tT303 X Y W = 27 * c * (2 * E 21 * E 0 + 2 * E 14 * E 7 + 18446744073709551616 * G 3 0) := (hT 3 0 (by decide)).trans (congrArg (fun v => 27 * c * v) (hG 3 0 (by decide)))
  have t240 : tT240 X Y W = 27 * c * (2 * E 15 * E 3 + E 9 * E 9 + 18446744073709551616 * G 2 4) := (hT 2 4 (by decide)).trans (congrArg (fun v => 27 * c * v) (hG 2 4 (by decide)))
  have t231 : tT231 X Y W = 27 * c * (2 * E 15 * E 2 + (2 * E 9 * E 8 + 2 * E 3 * E 14) + 18446744073709551616 * G 2 3) := (hT 2 3 (by decide)).trans (congrArg (fun v => 27 * c * v) (hG 2 3 (by decide)))
  have t222 : tT222 X Y W = 27 * c * (E 8 * E 8 + (2 * E 15 * E 1 + (2 * E 14 * E 2 + 2 * E 9 * E 7)) + 18446744073709551616 * G 2 2) := (hT 2 2 (by decide)).trans (congrArg (fun v => 27 * c * v) (hG 2 2 (by decide)))
  have t213 : tT213 X Y W = 27 * c * (2 * E 14 * E 1 + (2 * E 7 * E 8 + 2 * E 0 * E 15) + 18446744073709551616 * G 2 1) := (hT 2 1 (by decide)).trans (congrArg (fun v => 27 * c * v) (hG 2 1 (by decide)))
  have t204 : tT204 X Y W = 27 * c * (2 * E 14 * E 0 + E 7 * E 7 + 18446744073709551616 * G 2 0) := (hT 2 0 (by decide)).trans (congrArg (fun v => 27 * c * v) (hG 2 0 (by decide)))
  have t150 : tT150 X Y W = 27 * c * (2 * E 9 * E 3 + 18446744073709551616 * G 1 5) := (hT 1 5 (by decide)).trans (congrArg (fun v => 27 * c * v) (hG 1 5 (by decide)))
  have t141 : tT141 X Y W = 27 * c * (2 * E 9 * E 2 + 2 * E 3 * E 8 + 18446744073709551616 * G 1 4) := (hT 1 4 (by decide)).trans (congrArg (fun v => 27 * c * v) (hG 1 4 (by decide)))
  have t132 : tT132 X Y W = 27 * c * (2 * E 9 * E 1 + (2 * E 8 * E 2 + 2 * E 7 * E 3) + 18446744073709551616 * G 1 3) := (hT 1 3 (by decide)).trans (congrArg (fun v => 27 * c * v) (hG 1 3 (by decide)))
  have t123 : tT123 X Y W = 27 * c * (2 * E 7 * E 2 + (2 * E 8 * E 1 + 2 * E 9 * E 0) + 18446744073709551616 * G 1 2) := (hT 1 2 (by decide)).trans (congrArg (fun v => 27 * c * v) (hG 1 2 (by decide)))
  have t114 : tT114 X Y W = 27 * c * (2 * E 7 * E 1 + 2 * E 0 * E 8 + 18446744073709551616 * G 1 1) := (hT 1 1 (by decide)).trans (congrArg (fun v => 27 * c * v) (hG 1 1 (by decide)))
  have t105 : tT105 X Y W = 27 * c * (2 * E 7 * E 0 + 18446744073709551616 * G 1 0) := (hT 1 0 (by decide)).trans (congrArg (fun v => 27 * c * v) (hG 1 0 (by decide)))
  have t060 : tT060 X Y W = 27 * c * (E 3 * E 3 + 18446744073709551616 * G 0 6) := (hT 0 6 (by decide)).trans (congrArg (fun v => 27 * c * v) (hG 0 6 (by decide)))
  have t051 : tT051 X Y W = 27 * c * (2 * E 3 * E 2 + 18446744073709551616 * G 0 5) := (hT 0 5 (by decide)).trans (congrArg (fun v => 27 * c * v) (hG 0 5 (by decide)))
  have t042 : tT042 X Y W = 27 * c * (E 2 * E 2 + 2 * E 3 * E 1 + 18446744073709551616 * G 0 4) := (hT 0 4 (by decide)).trans (congrArg (fun v => 27 * c * v) (hG 0 4 (by decide)))
  have t033 : tT033 X Y W = 27 * c * (2 * E 3 * E 0 + 2 * E 2 * E 1 + 18446744073709551616 * G 0 3) := (hT 0 3 (by decide)).trans (congrArg (fun v => 27 * c * v) (hG 0 3 (by decide)))
  have t024 : tT024 X Y W = 27 * c * (E 1 * E 1 + 2 * E 0 * E 2 + 18446744073709551616 * G 0 2) := (hT 0 2 (by decide)).trans (congrArg (fun v => 27 * c * v) (hG 0 2 (by decide)))
  have t015 : tT015 X Y W = 27 * c * (2 * E 0 * E 1 + 18446744073709551616 * G 0 1) := (hT 0 1 (by decide)).trans (congrArg (fun v => 27 * c * v) (hG 0 1 (by decide)))
  have t006 : tT006 X Y W = 27 * c * (E 0 * E 0 + 18446744073709551616 * G 0 0) := (hT 0 0 (by decide)).trans (congrArg (fun v => 27 * c * v) (hG 0 0 (by decide)))
  have zl : G 4 0 = 0 := by
    have a' : f 28 = 2 * E 21 * E 7 + E 14 * E 14 + 18446744073709551616 * G 4 0 := hG 4 0 (by decide)
    rw [z21] at a'
    try simp only [Int.mul_zero, Int.zero_mul, Int.zero_add, Int.add_zero, Int.mul_assoc] at a'
    try simp only [Int.mul_zero, Int.zero_mul, Int.zero_add, Int.add_zero, Int.mul_assoc] at hl'
    omega
  rw [z21] at t600 t510 t501 t420 t411 t402 t330 t321 t312 t303
  rw [z15] at t510 t420 t411 t330 t321 t312 t240 t231 t222 t213
  rw [z9] at t420 t330 t321 t240 t231 t222 t150 t141 t132 t123
  rw [z3] at t330 t240 t231 t150 t141 t132 t060 t051 t042 t033
  have x600 : tT600 X Y W = 0 := (hT 6 0 (by decide)).trans (by rw [hv 6 0 (by decide) (by decide), Int.mul_zero])
  have x501 : tT501 X Y W = 0 := (hT 5 0 (by decide)).trans (by rw [hv 5 0 (by decide) (by decide), Int.mul_zero])
  have dm : (2 * E 14 * E 8).natAbs ≤ 2 ^ 63 := by
    have q := hb 8 (by decide) (by decide)
    rw [db2] at q
    exact Nat.le_trans q (by decide +kernel)
  have dh1 : (2 * E 14 * E 7).natAbs ≤ 2 ^ 63 := by
    have q := hb 7 (by decide) (by decide)
    rw [db2] at q
    exact Nat.le_trans q (by decide +kernel)
  have dn1 : (2 * E 14 * E 2).natAbs ≤ 2 ^ 63 := by
    have q := hb 2 (by decide) (by decide)
    rw [db2] at q
    exact Nat.le_trans q (by decide +kernel)
  have dn2 : (2 * E 14 * E 1).natAbs ≤ 2 ^ 63 := by
    have q := hb 1 (by decide) (by decide)
    rw [db2] at q
    exact Nat.le_trans q (by decide +kernel)
  have dk0 : (2 * E 14 * E 0).natAbs ≤ 2 ^ 63 := by
    have q := hb 0 (by decide) (by decide)
    rw [db2] at q
    exact Nat.le_trans q (by decide +kernel)
  obtain ⟨w600, w510, w501, w420, w411, w402, w330, w321, w312, w303, w240, w231, w222, w213, w204, w150, w141, w132, w123, w114, w105, w060, w051, w042, w033, w024, w015, w006⟩ := sq4x X Y W hX hY hW c (E 14) (E 8) (E 7) (E 2) (E 1) (E 0) (G 6 0) (G 5 1) (G 5 0) (G 4 2) (G 4 1) (G 4 0) (G 3 3) (G 3 2) (G 3 1) (G 3 0) (G 2 4) (G 2 3) (G 2 2) (G 2 1) (G 2 0) (G 1 5) (G 1 4) (G 1 3) (G 1 2) (G 1 1) (G 1 0) (G 0 6) (G 0 5) (G 0 4) (G 0 3) (G 0 2) (G 0 1) (G 0 0) hp hc he x600 x501 zl t600 t510 t501 t420 t411 t402 t330 t321 t312 t303 t240 t231 t222 t213 t204 t150 t141 t132 t123 t114 t105 t060 t051 t042 t033 t024 t015 t006 dm dh1 dn1 dn2 dk0
  refine env_end2 su (fun a b hab => ?_)
  have g0 : G a b = 0 := by
    have ha : a = 0 ∨ a = 1 ∨ a = 2 ∨ a = 3 ∨ a = 4 ∨ a = 5 ∨ a = 6 := by omega
    have hb : b = 0 ∨ b = 1 ∨ b = 2 ∨ b = 3 ∨ b = 4 ∨ b = 5 ∨ b = 6 := by omega
    clear hH hG hT hv hz
    rcases ha with ha | ha | ha | ha | ha | ha | ha <;> rcases hb with hb | hb | hb | hb | hb | hb | hb <;> subst ha <;> subst hb <;> first | (exfalso; omega) | assumption
  rw [hG a b hab, g0, Int.mul_zero, Int.add_zero]
theorem ev2_04 (X Y W : Nat → Int) (hX : bx7 X) (hY : bx7 Y) (hW : bx7 W) (c : Int) (hc : c ≠ 0) (hp : cont X Y W c) (f E : Nat → Int) (hT : ∀ a b, a + b ≤ 6 → tTf X Y W a b = 27 * c * f (7 * a + b)) (z : zr 2 0 4 f E) : TP 2 f E := by
  obtain ⟨su0, hl, hne, hz, hb, hv, H, pH, hH⟩ := z
  have su1 : SUi E 2 := su0
  have su : SUi E 3 := fun a b ha hb' h => su1 a b ha hb' (by omega)
  obtain ⟨G, hG⟩ := env_G2 su pH hH
  have hl' : ipw (E 2) 2 = f 4 := hl
  rw [lb2] at hl'
  have he : E 2 ≠ 0 := hne
  have z21 : E 21 = 0 := su1 3 0 (by decide) (by decide) (by decide)
  have z15 : E 15 = 0 := su1 2 1 (by decide) (by decide) (by decide)
  have z14 : E 14 = 0 := hz 2 0 (by decide) (by decide)
  have z9 : E 9 = 0 := su1 1 2 (by decide) (by decide) (by decide)
  have z8 : E 8 = 0 := hz 1 1 (by decide) (by decide)
  have z3 : E 3 = 0 := su1 0 3 (by decide) (by decide) (by decide)
  have t600 : tT600 X Y W = 27 * c * (E 21 * E 21 + 18446744073709551616 * G 6 0) := (hT 6 0 (by decide)).trans (congrArg (fun v => 27 * c * v) (hG 6 0 (by decide)))
  have t510 : tT510 X Y W = 27 * c * (2 * E 21 * E 15 + 18446744073709551616 * G 5 1) := (hT 5 1 (by decide)).trans (congrArg (fun v => 27 * c * v) (hG 5 1 (by decide)))
  have t501 : tT501 X Y W = 27 * c * (2 * E 21 * E 14 + 18446744073709551616 * G 5 0) := (hT 5 0 (by decide)).trans (congrArg (fun v => 27 * c * v) (hG 5 0 (by decide)))
  have t420 : tT420 X Y W = 27 * c * (2 * E 21 * E 9 + E 15 * E 15 + 18446744073709551616 * G 4 2) := (hT 4 2 (by decide)).trans (congrArg (fun v => 27 * c * v) (hG 4 2 (by decide)))
  have t411 : tT411 X Y W = 27 * c * (2 * E 21 * E 8 + 2 * E 15 * E 14 + 18446744073709551616 * G 4 1) := (hT 4 1 (by decide)).trans (congrArg (fun v => 27 * c * v) (hG 4 1 (by decide)))
  have t402 : tT402 X Y W = 27 * c * (2 * E 21 * E 7 + E 14 * E 14 + 18446744073709551616 * G 4 0) := (hT 4 0 (by decide)).trans (congrArg (fun v => 27 * c * v) (hG 4 0 (by decide)))
  have t330 : tT330 X Y W = 27 * c * (2 * E 21 * E 3 + 2 * E 15 * E 9 + 18446744073709551616 * G 3 3) := (hT 3 3 (by decide)).trans (congrArg (fun v => 27 * c * v) (hG 3 3 (by decide)))
  have t321 : tT321 X Y W = 27 * c * (2 * E 21 * E 2 + (2 * E 15 * E 8 + 2 * E 9 * E 14) + 18446744073709551616 * G 3 2) := (hT 3 2 (by decide)).trans (congrArg (fun v => 27 * c * v) (hG 3 2 (by decide)))
  have t312 : tT312 X Y W = 27 * c * (2 * E 21 * E 1 + (2 * E 14 * E 8 + 2 * E 7 * E 15) + 18446744073709551616 * G 3 1) := (hT 3 1 (by decide)).trans (congrArg (fun v => 27 * c * v) (hG 3 1 (by decide)))
  have t303 : tT303 X Y W = 27 * c * (2 * E 21 * E 0 + 2 * E 14 * E 7 + 18446744073709551616 * G 3 0) := (hT 3 0 (by decide)).trans (congrArg (fun v => 27 * c * v) (hG 3 0 (by decide)))
  have t240 : tT240 X Y W = 27 * c * (2 * E 15 * E 3 + E 9 * E 9 + 18446744073709551616 * G 2 4) := (hT 2 4 (by decide)).trans (congrArg (fun v => 27 * c * v) (hG 2 4 (by decide)))
  have t231 : tT231 X Y W = 27 * c * (2 * E 15 * E 2 + (2 * E 9 * E 8 + 2 * E 3 * E 14) + 18446744073709551616 * G 2 3) := (hT 2 3 (by decide)).trans (congrArg (fun v => 27 * c * v) (hG 2 3 (by decide)))
  have t222 : tT222 X Y W = 27 * c * (E 8 * E 8 + (2 * E 15 * E 1 + (2 * E 14 * E 2 + 2 * E 9 * E 7)) + 18446744073709551616 * G 2 2) := (hT 2 2 (by decide)).trans (congrArg (fun v => 27 * c * v) (hG 2 2 (by decide)))
  have t213 : tT213 X Y W = 27 * c * (2 * E 14 * E 1 + (2 * E 7 * E 8 + 2 * E 0 * E 15) + 18446744073709551616 * G 2 1) := (hT 2 1 (by decide)).trans (congrArg (fun v => 27 * c * v) (hG 2 1 (by decide)))
  have t204 : tT204 X Y W = 27 * c * (2 * E 14 * E 0 + E 7 * E 7 + 18446744073709551616 * G 2 0) := (hT 2 0 (by decide)).trans (congrArg (fun v => 27 * c * v) (hG 2 0 (by decide)))
  have t150 : tT150 X Y W = 27 * c * (2 * E 9 * E 3 + 18446744073709551616 * G 1 5) := (hT 1 5 (by decide)).trans (congrArg (fun v => 27 * c * v) (hG 1 5 (by decide)))
  have t141 : tT141 X Y W = 27 * c * (2 * E 9 * E 2 + 2 * E 3 * E 8 + 18446744073709551616 * G 1 4) := (hT 1 4 (by decide)).trans (congrArg (fun v => 27 * c * v) (hG 1 4 (by decide)))
  have t132 : tT132 X Y W = 27 * c * (2 * E 9 * E 1 + (2 * E 8 * E 2 + 2 * E 7 * E 3) + 18446744073709551616 * G 1 3) := (hT 1 3 (by decide)).trans (congrArg (fun v => 27 * c * v) (hG 1 3 (by decide)))
  have t123 : tT123 X Y W = 27 * c * (2 * E 7 * E 2 + (2 * E 8 * E 1 + 2 * E 9 * E 0) + 18446744073709551616 * G 1 2) := (hT 1 2 (by decide)).trans (congrArg (fun v => 27 * c * v) (hG 1 2 (by decide)))
  have t114 : tT114 X Y W = 27 * c * (2 * E 7 * E 1 + 2 * E 0 * E 8 + 18446744073709551616 * G 1 1) := (hT 1 1 (by decide)).trans (congrArg (fun v => 27 * c * v) (hG 1 1 (by decide)))
  have t105 : tT105 X Y W = 27 * c * (2 * E 7 * E 0 + 18446744073709551616 * G 1 0) := (hT 1 0 (by decide)).trans (congrArg (fun v => 27 * c * v) (hG 1 0 (by decide)))
  have t060 : tT060 X Y W = 27 * c * (E 3 * E 3 + 18446744073709551616 * G 0 6) := (hT 0 6 (by decide)).trans (congrArg (fun v => 27 * c * v) (hG 0 6 (by decide)))
  have t051 : tT051 X Y W = 27 * c * (2 * E 3 * E 2 + 18446744073709551616 * G 0 5) := (hT 0 5 (by decide)).trans (congrArg (fun v => 27 * c * v) (hG 0 5 (by decide)))
  have t042 : tT042 X Y W = 27 * c * (E 2 * E 2 + 2 * E 3 * E 1 + 18446744073709551616 * G 0 4) := (hT 0 4 (by decide)).trans (congrArg (fun v => 27 * c * v) (hG 0 4 (by decide)))
  have t033 : tT033 X Y W = 27 * c * (2 * E 3 * E 0 + 2 * E 2 * E 1 + 18446744073709551616 * G 0 3) := (hT 0 3 (by decide)).trans (congrArg (fun v => 27 * c * v) (hG 0 3 (by decide)))
  have t024 : tT024 X Y W = 27 * c * (E 1 * E 1 + 2 * E 0 * E 2 + 18446744073709551616 * G 0 2) := (hT 0 2 (by decide)).trans (congrArg (fun v => 27 * c * v) (hG 0 2 (by decide)))
  have t015 : tT015 X Y W = 27 * c * (2 * E 0 * E 1 + 18446744073709551616 * G 0 1) := (hT 0 1 (by decide)).trans (congrArg (fun v => 27 * c * v) (hG 0 1 (by decide)))
  have t006 : tT006 X Y W = 27 * c * (E 0 * E 0 + 18446744073709551616 * G 0 0) := (hT 0 0 (by decide)).trans (congrArg (fun v => 27 * c * v) (hG 0 0 (by decide)))
  have zl : G 0 4 = 0 := by
    have a' : f 4 = E 2 * E 2 + 2 * E 3 * E 1 + 18446744073709551616 * G 0 4 := hG 0 4 (by decide)
    rw [z3] at a'
    try simp only [Int.mul_zero, Int.zero_mul, Int.zero_add, Int.add_zero, Int.mul_assoc] at a'
    try simp only [Int.mul_zero, Int.zero_mul, Int.zero_add, Int.add_zero, Int.mul_assoc] at hl'
    omega
  rw [z21] at t600 t510 t501 t420 t411 t402 t330 t321 t312 t303
  rw [z15] at t510 t420 t411 t330 t321 t312 t240 t231 t222 t213
  rw [z14] at t501 t411 t402 t321 t312 t303 t231 t222 t213 t204
  rw [z9] at t420 t330 t321 t240 t231 t222 t150 t141 t132 t123
  rw [z8] at t411 t321 t312 t231 t222 t213 t141 t132 t123 t114
  rw [z3] at t330 t240 t231 t150 t141 t132 t060 t051 t042 t033
  have x060 : tT060 X Y W = 0 := (hT 0 6 (by decide)).trans (by rw [hv 0 6 (by decide) (by decide), Int.mul_zero])
  have x051 : tT051 X Y W = 0 := (hT 0 5 (by decide)).trans (by rw [hv 0 5 (by decide) (by decide), Int.mul_zero])
  have dh1 : (2 * E 2 * E 7).natAbs ≤ 2 ^ 63 := by
    have q := hb 7 (by decide) (by decide)
    rw [db2] at q
    exact Nat.le_trans q (by decide +kernel)
  have dn2 : (2 * E 2 * E 1).natAbs ≤ 2 ^ 63 := by
    have q := hb 1 (by decide) (by decide)
    rw [db2] at q
    exact Nat.le_trans q (by decide +kernel)
  have dk0 : (2 * E 2 * E 0).natAbs ≤ 2 ^ 63 := by
    have q := hb 0 (by decide) (by decide)
    rw [db2] at q
    exact Nat.le_trans q (by decide +kernel)
  obtain ⟨w600, w510, w501, w420, w411, w402, w330, w321, w312, w303, w240, w231, w222, w213, w204, w150, w141, w132, w123, w114, w105, w060, w051, w042, w033, w024, w015, w006⟩ := sq4y X Y W hX hY hW c (E 7) (E 2) (E 1) (E 0) (G 6 0) (G 5 1) (G 5 0) (G 4 2) (G 4 1) (G 4 0) (G 3 3) (G 3 2) (G 3 1) (G 3 0) (G 2 4) (G 2 3) (G 2 2) (G 2 1) (G 2 0) (G 1 5) (G 1 4) (G 1 3) (G 1 2) (G 1 1) (G 1 0) (G 0 6) (G 0 5) (G 0 4) (G 0 3) (G 0 2) (G 0 1) (G 0 0) hp hc he x060 x051 zl t600 t510 t501 t420 t411 t402 t330 t321 t312 t303 t240 t231 t222 t213 t204 t150 t141 t132 t123 t114 t105 t060 t051 t042 t033 t024 t015 t006 dh1 dn2 dk0
  refine env_end2 su (fun a b hab => ?_)
  have g0 : G a b = 0 := by
    have ha : a = 0 ∨ a = 1 ∨ a = 2 ∨ a = 3 ∨ a = 4 ∨ a = 5 ∨ a = 6 := by omega
    have hb : b = 0 ∨ b = 1 ∨ b = 2 ∨ b = 3 ∨ b = 4 ∨ b = 5 ∨ b = 6 := by omega
    clear hH hG hT hv hz
    rcases ha with ha | ha | ha | ha | ha | ha | ha <;> rcases hb with hb | hb | hb | hb | hb | hb | hb <;> subst ha <;> subst hb <;> first | (exfalso; omega) | assumption
  rw [hG a b hab, g0, Int.mul_zero, Int.add_zero]
theorem ev2_22 (X Y W : Nat → Int) (hX : bx7 X) (hY : bx7 Y) (hW : bx7 W) (c : Int) (hc : c ≠ 0) (hp : cont X Y W c) (f E : Nat → Int) (hT : ∀ a b, a + b ≤ 6 → tTf X Y W a b = 27 * c * f (7 * a + b)) (z : zr 2 2 2 f E) : TP 2 f E := by
  obtain ⟨su0, hl, hne, hz, hb, hv, H, pH, hH⟩ := z
  have su1 : SUi E 2 := su0
  have su : SUi E 3 := fun a b ha hb' h => su1 a b ha hb' (by omega)
  obtain ⟨G, hG⟩ := env_G2 su pH hH
  have hl' : ipw (E 8) 2 = f 16 := hl
  rw [lb2] at hl'
  have he : E 8 ≠ 0 := hne
  have z21 : E 21 = 0 := su1 3 0 (by decide) (by decide) (by decide)
  have z15 : E 15 = 0 := su1 2 1 (by decide) (by decide) (by decide)
  have z14 : E 14 = 0 := hz 2 0 (by decide) (by decide)
  have z9 : E 9 = 0 := su1 1 2 (by decide) (by decide) (by decide)
  have z3 : E 3 = 0 := su1 0 3 (by decide) (by decide) (by decide)
  have t600 : tT600 X Y W = 27 * c * (E 21 * E 21 + 18446744073709551616 * G 6 0) := (hT 6 0 (by decide)).trans (congrArg (fun v => 27 * c * v) (hG 6 0 (by decide)))
  have t510 : tT510 X Y W = 27 * c * (2 * E 21 * E 15 + 18446744073709551616 * G 5 1) := (hT 5 1 (by decide)).trans (congrArg (fun v => 27 * c * v) (hG 5 1 (by decide)))
  have t501 : tT501 X Y W = 27 * c * (2 * E 21 * E 14 + 18446744073709551616 * G 5 0) := (hT 5 0 (by decide)).trans (congrArg (fun v => 27 * c * v) (hG 5 0 (by decide)))
  have t420 : tT420 X Y W = 27 * c * (2 * E 21 * E 9 + E 15 * E 15 + 18446744073709551616 * G 4 2) := (hT 4 2 (by decide)).trans (congrArg (fun v => 27 * c * v) (hG 4 2 (by decide)))
  have t411 : tT411 X Y W = 27 * c * (2 * E 21 * E 8 + 2 * E 15 * E 14 + 18446744073709551616 * G 4 1) := (hT 4 1 (by decide)).trans (congrArg (fun v => 27 * c * v) (hG 4 1 (by decide)))
  have t402 : tT402 X Y W = 27 * c * (2 * E 21 * E 7 + E 14 * E 14 + 18446744073709551616 * G 4 0) := (hT 4 0 (by decide)).trans (congrArg (fun v => 27 * c * v) (hG 4 0 (by decide)))
  have t330 : tT330 X Y W = 27 * c * (2 * E 21 * E 3 + 2 * E 15 * E 9 + 18446744073709551616 * G 3 3) := (hT 3 3 (by decide)).trans (congrArg (fun v => 27 * c * v) (hG 3 3 (by decide)))
  have t321 : tT321 X Y W = 27 * c * (2 * E 21 * E 2 + (2 * E 15 * E 8 + 2 * E 9 * E 14) + 18446744073709551616 * G 3 2) := (hT 3 2 (by decide)).trans (congrArg (fun v => 27 * c * v) (hG 3 2 (by decide)))
  have t312 : tT312 X Y W = 27 * c * (2 * E 21 * E 1 + (2 * E 14 * E 8 + 2 * E 7 * E 15) + 18446744073709551616 * G 3 1) := (hT 3 1 (by decide)).trans (congrArg (fun v => 27 * c * v) (hG 3 1 (by decide)))
  have t303 : tT303 X Y W = 27 * c * (2 * E 21 * E 0 + 2 * E 14 * E 7 + 18446744073709551616 * G 3 0) := (hT 3 0 (by decide)).trans (congrArg (fun v => 27 * c * v) (hG 3 0 (by decide)))
  have t240 : tT240 X Y W = 27 * c * (2 * E 15 * E 3 + E 9 * E 9 + 18446744073709551616 * G 2 4) := (hT 2 4 (by decide)).trans (congrArg (fun v => 27 * c * v) (hG 2 4 (by decide)))
  have t231 : tT231 X Y W = 27 * c * (2 * E 15 * E 2 + (2 * E 9 * E 8 + 2 * E 3 * E 14) + 18446744073709551616 * G 2 3) := (hT 2 3 (by decide)).trans (congrArg (fun v => 27 * c * v) (hG 2 3 (by decide)))
  have t222 : tT222 X Y W = 27 * c * (E 8 * E 8 + (2 * E 15 * E 1 + (2 * E 14 * E 2 + 2 * E 9 * E 7)) + 18446744073709551616 * G 2 2) := (hT 2 2 (by decide)).trans (congrArg (fun v => 27 * c * v) (hG 2 2 (by decide)))
  have t213 : tT213 X Y W = 27 * c * (2 * E 14 * E 1 + (2 * E 7 * E 8 + 2 * E 0 * E 15) + 18446744073709551616 * G 2 1) := (hT 2 1 (by decide)).trans (congrArg (fun v => 27 * c * v) (hG 2 1 (by decide)))
  have t204 : tT204 X Y W = 27 * c * (2 * E 14 * E 0 + E 7 * E 7 + 18446744073709551616 * G 2 0) := (hT 2 0 (by decide)).trans (congrArg (fun v => 27 * c * v) (hG 2 0 (by decide)))
  have t150 : tT150 X Y W = 27 * c * (2 * E 9 * E 3 + 18446744073709551616 * G 1 5) := (hT 1 5 (by decide)).trans (congrArg (fun v => 27 * c * v) (hG 1 5 (by decide)))
  have t141 : tT141 X Y W = 27 * c * (2 * E 9 * E 2 + 2 * E 3 * E 8 + 18446744073709551616 * G 1 4) := (hT 1 4 (by decide)).trans (congrArg (fun v => 27 * c * v) (hG 1 4 (by decide)))
  have t132 : tT132 X Y W = 27 * c * (2 * E 9 * E 1 + (2 * E 8 * E 2 + 2 * E 7 * E 3) + 18446744073709551616 * G 1 3) := (hT 1 3 (by decide)).trans (congrArg (fun v => 27 * c * v) (hG 1 3 (by decide)))
  have t123 : tT123 X Y W = 27 * c * (2 * E 7 * E 2 + (2 * E 8 * E 1 + 2 * E 9 * E 0) + 18446744073709551616 * G 1 2) := (hT 1 2 (by decide)).trans (congrArg (fun v => 27 * c * v) (hG 1 2 (by decide)))
  have t114 : tT114 X Y W = 27 * c * (2 * E 7 * E 1 + 2 * E 0 * E 8 + 18446744073709551616 * G 1 1) := (hT 1 1 (by decide)).trans (congrArg (fun v => 27 * c * v) (hG 1 1 (by decide)))
  have t105 : tT105 X Y W = 27 * c * (2 * E 7 * E 0 + 18446744073709551616 * G 1 0) := (hT 1 0 (by decide)).trans (congrArg (fun v => 27 * c * v) (hG 1 0 (by decide)))
  have t060 : tT060 X Y W = 27 * c * (E 3 * E 3 + 18446744073709551616 * G 0 6) := (hT 0 6 (by decide)).trans (congrArg (fun v => 27 * c * v) (hG 0 6 (by decide)))
  have t051 : tT051 X Y W = 27 * c * (2 * E 3 * E 2 + 18446744073709551616 * G 0 5) := (hT 0 5 (by decide)).trans (congrArg (fun v => 27 * c * v) (hG 0 5 (by decide)))
  have t042 : tT042 X Y W = 27 * c * (E 2 * E 2 + 2 * E 3 * E 1 + 18446744073709551616 * G 0 4) := (hT 0 4 (by decide)).trans (congrArg (fun v => 27 * c * v) (hG 0 4 (by decide)))
  have t033 : tT033 X Y W = 27 * c * (2 * E 3 * E 0 + 2 * E 2 * E 1 + 18446744073709551616 * G 0 3) := (hT 0 3 (by decide)).trans (congrArg (fun v => 27 * c * v) (hG 0 3 (by decide)))
  have t024 : tT024 X Y W = 27 * c * (E 1 * E 1 + 2 * E 0 * E 2 + 18446744073709551616 * G 0 2) := (hT 0 2 (by decide)).trans (congrArg (fun v => 27 * c * v) (hG 0 2 (by decide)))
  have t015 : tT015 X Y W = 27 * c * (2 * E 0 * E 1 + 18446744073709551616 * G 0 1) := (hT 0 1 (by decide)).trans (congrArg (fun v => 27 * c * v) (hG 0 1 (by decide)))
  have t006 : tT006 X Y W = 27 * c * (E 0 * E 0 + 18446744073709551616 * G 0 0) := (hT 0 0 (by decide)).trans (congrArg (fun v => 27 * c * v) (hG 0 0 (by decide)))
  have zl : G 2 2 = 0 := by
    have a' : f 16 = E 8 * E 8 + (2 * E 15 * E 1 + (2 * E 14 * E 2 + 2 * E 9 * E 7)) + 18446744073709551616 * G 2 2 := hG 2 2 (by decide)
    rw [z15, z14, z9] at a'
    try simp only [Int.mul_zero, Int.zero_mul, Int.zero_add, Int.add_zero, Int.mul_assoc] at a'
    try simp only [Int.mul_zero, Int.zero_mul, Int.zero_add, Int.add_zero, Int.mul_assoc] at hl'
    omega
  rw [z21] at t600 t510 t501 t420 t411 t402 t330 t321 t312 t303
  rw [z15] at t510 t420 t411 t330 t321 t312 t240 t231 t222 t213
  rw [z14] at t501 t411 t402 t321 t312 t303 t231 t222 t213 t204
  rw [z9] at t420 t330 t321 t240 t231 t222 t150 t141 t132 t123
  rw [z3] at t330 t240 t231 t150 t141 t132 t060 t051 t042 t033
  have dn1 : (2 * E 8 * E 2).natAbs ≤ 2 ^ 63 := by
    have q := hb 2 (by decide) (by decide)
    rw [db2] at q
    exact Nat.le_trans q (by decide +kernel)
  have dh1 : (2 * E 8 * E 7).natAbs ≤ 2 ^ 63 := by
    have q := hb 7 (by decide) (by decide)
    rw [db2] at q
    exact Nat.le_trans q (by decide +kernel)
  have dn2 : (2 * E 8 * E 1).natAbs ≤ 2 ^ 63 := by
    have q := hb 1 (by decide) (by decide)
    rw [db2] at q
    exact Nat.le_trans q (by decide +kernel)
  have dk0 : (2 * E 8 * E 0).natAbs ≤ 2 ^ 63 := by
    have q := hb 0 (by decide) (by decide)
    rw [db2] at q
    exact Nat.le_trans q (by decide +kernel)
  obtain ⟨w600, w510, w501, w420, w411, w402, w330, w321, w312, w303, w240, w231, w222, w213, w204, w150, w141, w132, w123, w114, w105, w060, w051, w042, w033, w024, w015, w006⟩ := sq6m X Y W hX hY hW c (E 8) (E 7) (E 2) (E 1) (E 0) (G 6 0) (G 5 1) (G 5 0) (G 4 2) (G 4 1) (G 4 0) (G 3 3) (G 3 2) (G 3 1) (G 3 0) (G 2 4) (G 2 3) (G 2 2) (G 2 1) (G 2 0) (G 1 5) (G 1 4) (G 1 3) (G 1 2) (G 1 1) (G 1 0) (G 0 6) (G 0 5) (G 0 4) (G 0 3) (G 0 2) (G 0 1) (G 0 0) hc he  zl (t600.trans (congrArg (fun v => 27 * c * v) (rm_600 (E 8) (E 7) (E 2) (E 1) (E 0) (G 6 0)))) (t510.trans (congrArg (fun v => 27 * c * v) (rm_510 (E 8) (E 7) (E 2) (E 1) (E 0) (G 5 1)))) (t501.trans (congrArg (fun v => 27 * c * v) (rm_501 (E 8) (E 7) (E 2) (E 1) (E 0) (G 5 0)))) (t420.trans (congrArg (fun v => 27 * c * v) (rm_420 (E 8) (E 7) (E 2) (E 1) (E 0) (G 4 2)))) (t411.trans (congrArg (fun v => 27 * c * v) (rm_411 (E 8) (E 7) (E 2) (E 1) (E 0) (G 4 1)))) (t402.trans (congrArg (fun v => 27 * c * v) (rm_402 (E 8) (E 7) (E 2) (E 1) (E 0) (G 4 0)))) (t330.trans (congrArg (fun v => 27 * c * v) (rm_330 (E 8) (E 7) (E 2) (E 1) (E 0) (G 3 3)))) (t321.trans (congrArg (fun v => 27 * c * v) (rm_321 (E 8) (E 7) (E 2) (E 1) (E 0) (G 3 2)))) (t312.trans (congrArg (fun v => 27 * c * v) (rm_312 (E 8) (E 7) (E 2) (E 1) (E 0) (G 3 1)))) (t303.trans (congrArg (fun v => 27 * c * v) (rm_303 (E 8) (E 7) (E 2) (E 1) (E 0) (G 3 0)))) (t240.trans (congrArg (fun v => 27 * c * v) (rm_240 (E 8) (E 7) (E 2) (E 1) (E 0) (G 2 4)))) (t231.trans (congrArg (fun v => 27 * c * v) (rm_231 (E 8) (E 7) (E 2) (E 1) (E 0) (G 2 3)))) (t222.trans (congrArg (fun v => 27 * c * v) (rm_222 (E 8) (E 7) (E 2) (E 1) (E 0) (G 2 2)))) (t213.trans (congrArg (fun v => 27 * c * v) (rm_213 (E 8) (E 7) (E 2) (E 1) (E 0) (G 2 1)))) (t204.trans (congrArg (fun v => 27 * c * v) (rm_204 (E 8) (E 7) (E 2) (E 1) (E 0) (G 2 0)))) (t150.trans (congrArg (fun v => 27 * c * v) (rm_150 (E 8) (E 7) (E 2) (E 1) (E 0) (G 1 5)))) (t141.trans (congrArg (fun v => 27 * c * v) (rm_141 (E 8) (E 7) (E 2) (E 1) (E 0) (G 1 4)))) (t132.trans (congrArg (fun v => 27 * c * v) (rm_132 (E 8) (E 7) (E 2) (E 1) (E 0) (G 1 3)))) (t123.trans (congrArg (fun v => 27 * c * v) (rm_123 (E 8) (E 7) (E 2) (E 1) (E 0) (G 1 2)))) (t114.trans (congrArg (fun v => 27 * c * v) (rm_114 (E 8) (E 7) (E 2) (E 1) (E 0) (G 1 1)))) (t105.trans (congrArg (fun v => 27 * c * v) (rm_105 (E 8) (E 7) (E 2) (E 1) (E 0) (G 1 0)))) (t060.trans (congrArg (fun v => 27 * c * v) (rm_060 (E 8) (E 7) (E 2) (E 1) (E 0) (G 0 6)))) (t051.trans (congrArg (fun v => 27 * c * v) (rm_051 (E 8) (E 7) (E 2) (E 1) (E 0) (G 0 5)))) (t042.trans (congrArg (fun v => 27 * c * v) (rm_042 (E 8) (E 7) (E 2) (E 1) (E 0) (G 0 4)))) (t033.trans (congrArg (fun v => 27 * c * v) (rm_033 (E 8) (E 7) (E 2) (E 1) (E 0) (G 0 3)))) (t024.trans (congrArg (fun v => 27 * c * v) (rm_024 (E 8) (E 7) (E 2) (E 1) (E 0) (G 0 2)))) (t015.trans (congrArg (fun v => 27 * c * v) (rm_015 (E 8) (E 7) (E 2) (E 1) (E 0) (G 0 1)))) (t006.trans (congrArg (fun v => 27 * c * v) (rm_006 (E 8) (E 7) (E 2) (E 1) (E 0) (G 0 0)))) dn1 dh1 dn2 dk0
  refine env_end2 su (fun a b hab => ?_)
  have g0 : G a b = 0 := by
    have ha : a = 0 ∨ a = 1 ∨ a = 2 ∨ a = 3 ∨ a = 4 ∨ a = 5 ∨ a = 6 := by omega
    have hb : b = 0 ∨ b = 1 ∨ b = 2 ∨ b = 3 ∨ b = 4 ∨ b = 5 ∨ b = 6 := by omega
    clear hH hG hT hv hz
    rcases ha with ha | ha | ha | ha | ha | ha | ha <;> rcases hb with hb | hb | hb | hb | hb | hb | hb <;> subst ha <;> subst hb <;> first | (exfalso; omega) | assumption
  rw [hG a b hab, g0, Int.mul_zero, Int.add_zero]
theorem ev2_20 (X Y W : Nat → Int) (hX : bx7 X) (hY : bx7 Y) (hW : bx7 W) (c : Int) (hc : c ≠ 0) (hp : cont X Y W c) (f E : Nat → Int) (hT : ∀ a b, a + b ≤ 6 → tTf X Y W a b = 27 * c * f (7 * a + b)) (z : zr 2 2 0 f E) : TP 2 f E := by
  obtain ⟨su0, hl, hne, hz, hb, hv, H, pH, hH⟩ := z
  have su1 : SUi E 1 := su0
  have su : SUi E 3 := fun a b ha hb' h => su1 a b ha hb' (by omega)
  obtain ⟨G, hG⟩ := env_G2 su pH hH
  have hl' : ipw (E 7) 2 = f 14 := hl
  rw [lb2] at hl'
  have he : E 7 ≠ 0 := hne
  have z21 : E 21 = 0 := su1 3 0 (by decide) (by decide) (by decide)
  have z15 : E 15 = 0 := su1 2 1 (by decide) (by decide) (by decide)
  have z14 : E 14 = 0 := su1 2 0 (by decide) (by decide) (by decide)
  have z9 : E 9 = 0 := su1 1 2 (by decide) (by decide) (by decide)
  have z8 : E 8 = 0 := su1 1 1 (by decide) (by decide) (by decide)
  have z3 : E 3 = 0 := su1 0 3 (by decide) (by decide) (by decide)
  have z2 : E 2 = 0 := su1 0 2 (by decide) (by decide) (by decide)
  have t600 : tT600 X Y W = 27 * c * (E 21 * E 21 + 18446744073709551616 * G 6 0) := (hT 6 0 (by decide)).trans (congrArg (fun v => 27 * c * v) (hG 6 0 (by decide)))
  have t510 : tT510 X Y W = 27 * c * (2 * E 21 * E 15 + 18446744073709551616 * G 5 1) := (hT 5 1 (by decide)).trans (congrArg (fun v => 27 * c * v) (hG 5 1 (by decide)))
  have t501 : tT501 X Y W = 27 * c * (2 * E 21 * E 14 + 18446744073709551616 * G 5 0) := (hT 5 0 (by decide)).trans (congrArg (fun v => 27 * c * v) (hG 5 0 (by decide)))
  have t420 : tT420 X Y W = 27 * c * (2 * E 21 * E 9 + E 15 * E 15 + 18446744073709551616 * G 4 2) := (hT 4 2 (by decide)).trans (congrArg (fun v => 27 * c * v) (hG 4 2 (by decide)))
  have t411 : tT411 X Y W = 27 * c * (2 * E 21 * E 8 + 2 * E 15 * E 14 + 18446744073709551616 * G 4 1) := (hT 4 1 (by decide)).trans (congrArg (fun v => 27 * c * v) (hG 4 1 (by decide)))
  have t402 : tT402 X Y W = 27 * c * (2 * E 21 * E 7 + E 14 * E 14 + 18446744073709551616 * G 4 0) := (hT 4 0 (by decide)).trans (congrArg (fun v => 27 * c * v) (hG 4 0 (by decide)))
  have t330 : tT330 X Y W = 27 * c * (2 * E 21 * E 3 + 2 * E 15 * E 9 + 18446744073709551616 * G 3 3) := (hT 3 3 (by decide)).trans (congrArg (fun v => 27 * c * v) (hG 3 3 (by decide)))
  have t321 : tT321 X Y W = 27 * c * (2 * E 21 * E 2 + (2 * E 15 * E 8 + 2 * E 9 * E 14) + 18446744073709551616 * G 3 2) := (hT 3 2 (by decide)).trans (congrArg (fun v => 27 * c * v) (hG 3 2 (by decide)))
  have t312 : tT312 X Y W = 27 * c * (2 * E 21 * E 1 + (2 * E 14 * E 8 + 2 * E 7 * E 15) + 18446744073709551616 * G 3 1) := (hT 3 1 (by decide)).trans (congrArg (fun v => 27 * c * v) (hG 3 1 (by decide)))
  have t303 : tT303 X Y W = 27 * c * (2 * E 21 * E 0 + 2 * E 14 * E 7 + 18446744073709551616 * G 3 0) := (hT 3 0 (by decide)).trans (congrArg (fun v => 27 * c * v) (hG 3 0 (by decide)))
  have t240 : tT240 X Y W = 27 * c * (2 * E 15 * E 3 + E 9 * E 9 + 18446744073709551616 * G 2 4) := (hT 2 4 (by decide)).trans (congrArg (fun v => 27 * c * v) (hG 2 4 (by decide)))
  have t231 : tT231 X Y W = 27 * c * (2 * E 15 * E 2 + (2 * E 9 * E 8 + 2 * E 3 * E 14) + 18446744073709551616 * G 2 3) := (hT 2 3 (by decide)).trans (congrArg (fun v => 27 * c * v) (hG 2 3 (by decide)))
  have t222 : tT222 X Y W = 27 * c * (E 8 * E 8 + (2 * E 15 * E 1 + (2 * E 14 * E 2 + 2 * E 9 * E 7)) + 18446744073709551616 * G 2 2) := (hT 2 2 (by decide)).trans (congrArg (fun v => 27 * c * v) (hG 2 2 (by decide)))
  have t213 : tT213 X Y W = 27 * c * (2 * E 14 * E 1 + (2 * E 7 * E 8 + 2 * E 0 * E 15) + 18446744073709551616 * G 2 1) := (hT 2 1 (by decide)).trans (congrArg (fun v => 27 * c * v) (hG 2 1 (by decide)))
  have t204 : tT204 X Y W = 27 * c * (2 * E 14 * E 0 + E 7 * E 7 + 18446744073709551616 * G 2 0) := (hT 2 0 (by decide)).trans (congrArg (fun v => 27 * c * v) (hG 2 0 (by decide)))
  have t150 : tT150 X Y W = 27 * c * (2 * E 9 * E 3 + 18446744073709551616 * G 1 5) := (hT 1 5 (by decide)).trans (congrArg (fun v => 27 * c * v) (hG 1 5 (by decide)))
  have t141 : tT141 X Y W = 27 * c * (2 * E 9 * E 2 + 2 * E 3 * E 8 + 18446744073709551616 * G 1 4) := (hT 1 4 (by decide)).trans (congrArg (fun v => 27 * c * v) (hG 1 4 (by decide)))
  have t132 : tT132 X Y W = 27 * c * (2 * E 9 * E 1 + (2 * E 8 * E 2 + 2 * E 7 * E 3) + 18446744073709551616 * G 1 3) := (hT 1 3 (by decide)).trans (congrArg (fun v => 27 * c * v) (hG 1 3 (by decide)))
  have t123 : tT123 X Y W = 27 * c * (2 * E 7 * E 2 + (2 * E 8 * E 1 + 2 * E 9 * E 0) + 18446744073709551616 * G 1 2) := (hT 1 2 (by decide)).trans (congrArg (fun v => 27 * c * v) (hG 1 2 (by decide)))
  have t114 : tT114 X Y W = 27 * c * (2 * E 7 * E 1 + 2 * E 0 * E 8 + 18446744073709551616 * G 1 1) := (hT 1 1 (by decide)).trans (congrArg (fun v => 27 * c * v) (hG 1 1 (by decide)))
  have t105 : tT105 X Y W = 27 * c * (2 * E 7 * E 0 + 18446744073709551616 * G 1 0) := (hT 1 0 (by decide)).trans (congrArg (fun v => 27 * c * v) (hG 1 0 (by decide)))
  have t060 : tT060 X Y W = 27 * c * (E 3 * E 3 + 18446744073709551616 * G 0 6) := (hT 0 6 (by decide)).trans (congrArg (fun v => 27 * c * v) (hG 0 6 (by decide)))
  have t051 : tT051 X Y W = 27 * c * (2 * E 3 * E 2 + 18446744073709551616 * G 0 5) := (hT 0 5 (by decide)).trans (congrArg (fun v => 27 * c * v) (hG 0 5 (by decide)))
  have t042 : tT042 X Y W = 27 * c * (E 2 * E 2 + 2 * E 3 * E 1 + 18446744073709551616 * G 0 4) := (hT 0 4 (by decide)).trans (congrArg (fun v => 27 * c * v) (hG 0 4 (by decide)))
  have t033 : tT033 X Y W = 27 * c * (2 * E 3 * E 0 + 2 * E 2 * E 1 + 18446744073709551616 * G 0 3) := (hT 0 3 (by decide)).trans (congrArg (fun v => 27 * c * v) (hG 0 3 (by decide)))
  have t024 : tT024 X Y W = 27 * c * (E 1 * E 1 + 2 * E 0 * E 2 + 18446744073709551616 * G 0 2) := (hT 0 2 (by decide)).trans (congrArg (fun v => 27 * c * v) (hG 0 2 (by decide)))
  have t015 : tT015 X Y W = 27 * c * (2 * E 0 * E 1 + 18446744073709551616 * G 0 1) := (hT 0 1 (by decide)).trans (congrArg (fun v => 27 * c * v) (hG 0 1 (by decide)))
  have t006 : tT006 X Y W = 27 * c * (E 0 * E 0 + 18446744073709551616 * G 0 0) := (hT 0 0 (by decide)).trans (congrArg (fun v => 27 * c * v) (hG 0 0 (by decide)))
  have zl : G 2 0 = 0 := by
    have a' : f 14 = 2 * E 14 * E 0 + E 7 * E 7 + 18446744073709551616 * G 2 0 := hG 2 0 (by decide)
    rw [z14] at a'
    try simp only [Int.mul_zero, Int.zero_mul, Int.zero_add, Int.add_zero, Int.mul_assoc] at a'
    try simp only [Int.mul_zero, Int.zero_mul, Int.zero_add, Int.add_zero, Int.mul_assoc] at hl'
    omega
  rw [z21] at t600 t510 t501 t420 t411 t402 t330 t321 t312 t303
  rw [z15] at t510 t420 t411 t330 t321 t312 t240 t231 t222 t213
  rw [z14] at t501 t411 t402 t321 t312 t303 t231 t222 t213 t204
  rw [z9] at t420 t330 t321 t240 t231 t222 t150 t141 t132 t123
  rw [z8] at t411 t321 t312 t231 t222 t213 t141 t132 t123 t114
  rw [z3] at t330 t240 t231 t150 t141 t132 t060 t051 t042 t033
  rw [z2] at t321 t231 t222 t141 t132 t123 t051 t042 t033 t024
  have x600 : tT600 X Y W = 0 := (hT 6 0 (by decide)).trans (by rw [hv 6 0 (by decide) (by decide), Int.mul_zero])
  have x501 : tT501 X Y W = 0 := (hT 5 0 (by decide)).trans (by rw [hv 5 0 (by decide) (by decide), Int.mul_zero])
  have x402 : tT402 X Y W = 0 := (hT 4 0 (by decide)).trans (by rw [hv 4 0 (by decide) (by decide), Int.mul_zero])
  have x303 : tT303 X Y W = 0 := (hT 3 0 (by decide)).trans (by rw [hv 3 0 (by decide) (by decide), Int.mul_zero])
  have dn2 : (2 * E 7 * E 1).natAbs ≤ 2 ^ 63 := by
    have q := hb 1 (by decide) (by decide)
    rw [db2] at q
    exact Nat.le_trans q (by decide +kernel)
  have dk0 : (2 * E 7 * E 0).natAbs ≤ 2 ^ 63 := by
    have q := hb 0 (by decide) (by decide)
    rw [db2] at q
    exact Nat.le_trans q (by decide +kernel)
  obtain ⟨w600, w510, w501, w420, w411, w402, w330, w321, w312, w303, w240, w231, w222, w213, w204, w150, w141, w132, w123, w114, w105, w060, w051, w042, w033, w024, w015, w006⟩ := sq2x X Y W hX hY hW c (E 7) (E 1) (E 0) (G 6 0) (G 5 1) (G 5 0) (G 4 2) (G 4 1) (G 4 0) (G 3 3) (G 3 2) (G 3 1) (G 3 0) (G 2 4) (G 2 3) (G 2 2) (G 2 1) (G 2 0) (G 1 5) (G 1 4) (G 1 3) (G 1 2) (G 1 1) (G 1 0) (G 0 6) (G 0 5) (G 0 4) (G 0 3) (G 0 2) (G 0 1) (G 0 0) hc he x600 x501 x402 x303 zl t600 t510 t501 t420 t411 t402 t330 t321 t312 t303 t240 t231 t222 t213 t204 t150 t141 t132 t123 t114 t105 t060 t051 t042 t033 t024 t015 t006 dn2 dk0
  refine env_end2 su (fun a b hab => ?_)
  have g0 : G a b = 0 := by
    have ha : a = 0 ∨ a = 1 ∨ a = 2 ∨ a = 3 ∨ a = 4 ∨ a = 5 ∨ a = 6 := by omega
    have hb : b = 0 ∨ b = 1 ∨ b = 2 ∨ b = 3 ∨ b = 4 ∨ b = 5 ∨ b = 6 := by omega
    clear hH hG hT hv hz
    rcases ha with ha | ha | ha | ha | ha | ha | ha <;> rcases hb with hb | hb | hb | hb | hb | hb | hb <;> subst ha <;> subst hb <;> first | (exfalso; omega) | assumption
  rw [hG a b hab, g0, Int.mul_zero, Int.add_zero]
theorem ev2_02 (X Y W : Nat → Int) (hX : bx7 X) (hY : bx7 Y) (hW : bx7 W) (c : Int) (hc : c ≠ 0) (hp : cont X Y W c) (f E : Nat → Int) (hT : ∀ a b, a + b ≤ 6 → tTf X Y W a b = 27 * c * f (7 * a + b)) (z : zr 2 0 2 f E) : TP 2 f E := by
  obtain ⟨su0, hl, hne, hz, hb, hv, H, pH, hH⟩ := z
  have su1 : SUi E 1 := su0
  have su : SUi E 3 := fun a b ha hb' h => su1 a b ha hb' (by omega)
  obtain ⟨G, hG⟩ := env_G2 su pH hH
  have hl' : ipw (E 1) 2 = f 2 := hl
  rw [lb2] at hl'
  have he : E 1 ≠ 0 := hne
  have z21 : E 21 = 0 := su1 3 0 (by decide) (by decide) (by decide)
  have z15 : E 15 = 0 := su1 2 1 (by decide) (by decide) (by decide)
  have z14 : E 14 = 0 := su1 2 0 (by decide) (by decide) (by decide)
  have z9 : E 9 = 0 := su1 1 2 (by decide) (by decide) (by decide)
  have z8 : E 8 = 0 := su1 1 1 (by decide) (by decide) (by decide)
  have z7 : E 7 = 0 := hz 1 0 (by decide) (by decide)
  have z3 : E 3 = 0 := su1 0 3 (by decide) (by decide) (by decide)
  have z2 : E 2 = 0 := su1 0 2 (by decide) (by decide) (by decide)
  have t600 : tT600 X Y W = 27 * c * (E 21 * E 21 + 18446744073709551616 * G 6 0) := (hT 6 0 (by decide)).trans (congrArg (fun v => 27 * c * v) (hG 6 0 (by decide)))
  have t510 : tT510 X Y W = 27 * c * (2 * E 21 * E 15 + 18446744073709551616 * G 5 1) := (hT 5 1 (by decide)).trans (congrArg (fun v => 27 * c * v) (hG 5 1 (by decide)))
  have t501 : tT501 X Y W = 27 * c * (2 * E 21 * E 14 + 18446744073709551616 * G 5 0) := (hT 5 0 (by decide)).trans (congrArg (fun v => 27 * c * v) (hG 5 0 (by decide)))
  have t420 : tT420 X Y W = 27 * c * (2 * E 21 * E 9 + E 15 * E 15 + 18446744073709551616 * G 4 2) := (hT 4 2 (by decide)).trans (congrArg (fun v => 27 * c * v) (hG 4 2 (by decide)))
  have t411 : tT411 X Y W = 27 * c * (2 * E 21 * E 8 + 2 * E 15 * E 14 + 18446744073709551616 * G 4 1) := (hT 4 1 (by decide)).trans (congrArg (fun v => 27 * c * v) (hG 4 1 (by decide)))
  have t402 : tT402 X Y W = 27 * c * (2 * E 21 * E 7 + E 14 * E 14 + 18446744073709551616 * G 4 0) := (hT 4 0 (by decide)).trans (congrArg (fun v => 27 * c * v) (hG 4 0 (by decide)))
  have t330 : tT330 X Y W = 27 * c * (2 * E 21 * E 3 + 2 * E 15 * E 9 + 18446744073709551616 * G 3 3) := (hT 3 3 (by decide)).trans (congrArg (fun v => 27 * c * v) (hG 3 3 (by decide)))
  have t321 : tT321 X Y W = 27 * c * (2 * E 21 * E 2 + (2 * E 15 * E 8 + 2 * E 9 * E 14) + 18446744073709551616 * G 3 2) := (hT 3 2 (by decide)).trans (congrArg (fun v => 27 * c * v) (hG 3 2 (by decide)))
  have t312 : tT312 X Y W = 27 * c * (2 * E 21 * E 1 + (2 * E 14 * E 8 + 2 * E 7 * E 15) + 18446744073709551616 * G 3 1) := (hT 3 1 (by decide)).trans (congrArg (fun v => 27 * c * v) (hG 3 1 (by decide)))
  have t303 : tT303 X Y W = 27 * c * (2 * E 21 * E 0 + 2 * E 14 * E 7 + 18446744073709551616 * G 3 0) := (hT 3 0 (by decide)).trans (congrArg (fun v => 27 * c * v) (hG 3 0 (by decide)))
  have t240 : tT240 X Y W = 27 * c * (2 * E 15 * E 3 + E 9 * E 9 + 18446744073709551616 * G 2 4) := (hT 2 4 (by decide)).trans (congrArg (fun v => 27 * c * v) (hG 2 4 (by decide)))
  have t231 : tT231 X Y W = 27 * c * (2 * E 15 * E 2 + (2 * E 9 * E 8 + 2 * E 3 * E 14) + 18446744073709551616 * G 2 3) := (hT 2 3 (by decide)).trans (congrArg (fun v => 27 * c * v) (hG 2 3 (by decide)))
  have t222 : tT222 X Y W = 27 * c * (E 8 * E 8 + (2 * E 15 * E 1 + (2 * E 14 * E 2 + 2 * E 9 * E 7)) + 18446744073709551616 * G 2 2) := (hT 2 2 (by decide)).trans (congrArg (fun v => 27 * c * v) (hG 2 2 (by decide)))
  have t213 : tT213 X Y W = 27 * c * (2 * E 14 * E 1 + (2 * E 7 * E 8 + 2 * E 0 * E 15) + 18446744073709551616 * G 2 1) := (hT 2 1 (by decide)).trans (congrArg (fun v => 27 * c * v) (hG 2 1 (by decide)))
  have t204 : tT204 X Y W = 27 * c * (2 * E 14 * E 0 + E 7 * E 7 + 18446744073709551616 * G 2 0) := (hT 2 0 (by decide)).trans (congrArg (fun v => 27 * c * v) (hG 2 0 (by decide)))
  have t150 : tT150 X Y W = 27 * c * (2 * E 9 * E 3 + 18446744073709551616 * G 1 5) := (hT 1 5 (by decide)).trans (congrArg (fun v => 27 * c * v) (hG 1 5 (by decide)))
  have t141 : tT141 X Y W = 27 * c * (2 * E 9 * E 2 + 2 * E 3 * E 8 + 18446744073709551616 * G 1 4) := (hT 1 4 (by decide)).trans (congrArg (fun v => 27 * c * v) (hG 1 4 (by decide)))
  have t132 : tT132 X Y W = 27 * c * (2 * E 9 * E 1 + (2 * E 8 * E 2 + 2 * E 7 * E 3) + 18446744073709551616 * G 1 3) := (hT 1 3 (by decide)).trans (congrArg (fun v => 27 * c * v) (hG 1 3 (by decide)))
  have t123 : tT123 X Y W = 27 * c * (2 * E 7 * E 2 + (2 * E 8 * E 1 + 2 * E 9 * E 0) + 18446744073709551616 * G 1 2) := (hT 1 2 (by decide)).trans (congrArg (fun v => 27 * c * v) (hG 1 2 (by decide)))
  have t114 : tT114 X Y W = 27 * c * (2 * E 7 * E 1 + 2 * E 0 * E 8 + 18446744073709551616 * G 1 1) := (hT 1 1 (by decide)).trans (congrArg (fun v => 27 * c * v) (hG 1 1 (by decide)))
  have t105 : tT105 X Y W = 27 * c * (2 * E 7 * E 0 + 18446744073709551616 * G 1 0) := (hT 1 0 (by decide)).trans (congrArg (fun v => 27 * c * v) (hG 1 0 (by decide)))
  have t060 : tT060 X Y W = 27 * c * (E 3 * E 3 + 18446744073709551616 * G 0 6) := (hT 0 6 (by decide)).trans (congrArg (fun v => 27 * c * v) (hG 0 6 (by decide)))
  have t051 : tT051 X Y W = 27 * c * (2 * E 3 * E 2 + 18446744073709551616 * G 0 5) := (hT 0 5 (by decide)).trans (congrArg (fun v => 27 * c * v) (hG 0 5 (by decide)))
  have t042 : tT042 X Y W = 27 * c * (E 2 * E 2 + 2 * E 3 * E 1 + 18446744073709551616 * G 0 4) := (hT 0 4 (by decide)).trans (congrArg (fun v => 27 * c * v) (hG 0 4 (by decide)))
  have t033 : tT033 X Y W = 27 * c * (2 * E 3 * E 0 + 2 * E 2 * E 1 + 18446744073709551616 * G 0 3) := (hT 0 3 (by decide)).trans (congrArg (fun v => 27 * c * v) (hG 0 3 (by decide)))
  have t024 : tT024 X Y W = 27 * c * (E 1 * E 1 + 2 * E 0 * E 2 + 18446744073709551616 * G 0 2) := (hT 0 2 (by decide)).trans (congrArg (fun v => 27 * c * v) (hG 0 2 (by decide)))
  have t015 : tT015 X Y W = 27 * c * (2 * E 0 * E 1 + 18446744073709551616 * G 0 1) := (hT 0 1 (by decide)).trans (congrArg (fun v => 27 * c * v) (hG 0 1 (by decide)))
  have t006 : tT006 X Y W = 27 * c * (E 0 * E 0 + 18446744073709551616 * G 0 0) := (hT 0 0 (by decide)).trans (congrArg (fun v => 27 * c * v) (hG 0 0 (by decide)))
  have zl : G 0 2 = 0 := by
    have a' : f 2 = E 1 * E 1 + 2 * E 0 * E 2 + 18446744073709551616 * G 0 2 := hG 0 2 (by decide)
    rw [z2] at a'
    try simp only [Int.mul_zero, Int.zero_mul, Int.zero_add, Int.add_zero, Int.mul_assoc] at a'
    try simp only [Int.mul_zero, Int.zero_mul, Int.zero_add, Int.add_zero, Int.mul_assoc] at hl'
    omega
  rw [z21] at t600 t510 t501 t420 t411 t402 t330 t321 t312 t303
  rw [z15] at t510 t420 t411 t330 t321 t312 t240 t231 t222 t213
  rw [z14] at t501 t411 t402 t321 t312 t303 t231 t222 t213 t204
  rw [z9] at t420 t330 t321 t240 t231 t222 t150 t141 t132 t123
  rw [z8] at t411 t321 t312 t231 t222 t213 t141 t132 t123 t114
  rw [z7] at t402 t312 t303 t222 t213 t204 t132 t123 t114 t105
  rw [z3] at t330 t240 t231 t150 t141 t132 t060 t051 t042 t033
  rw [z2] at t321 t231 t222 t141 t132 t123 t051 t042 t033 t024
  have x060 : tT060 X Y W = 0 := (hT 0 6 (by decide)).trans (by rw [hv 0 6 (by decide) (by decide), Int.mul_zero])
  have x051 : tT051 X Y W = 0 := (hT 0 5 (by decide)).trans (by rw [hv 0 5 (by decide) (by decide), Int.mul_zero])
  have x042 : tT042 X Y W = 0 := (hT 0 4 (by decide)).trans (by rw [hv 0 4 (by decide) (by decide), Int.mul_zero])
  have x033 : tT033 X Y W = 0 := (hT 0 3 (by decide)).trans (by rw [hv 0 3 (by decide) (by decide), Int.mul_zero])
  have dk0 : (2 * E 1 * E 0).natAbs ≤ 2 ^ 63 := by
    have q := hb 0 (by decide) (by decide)
    rw [db2] at q
    exact Nat.le_trans q (by decide +kernel)
  obtain ⟨w600, w510, w501, w420, w411, w402, w330, w321, w312, w303, w240, w231, w222, w213, w204, w150, w141, w132, w123, w114, w105, w060, w051, w042, w033, w024, w015, w006⟩ := sq2y X Y W hX hY hW c (E 1) (E 0) (G 6 0) (G 5 1) (G 5 0) (G 4 2) (G 4 1) (G 4 0) (G 3 3) (G 3 2) (G 3 1) (G 3 0) (G 2 4) (G 2 3) (G 2 2) (G 2 1) (G 2 0) (G 1 5) (G 1 4) (G 1 3) (G 1 2) (G 1 1) (G 1 0) (G 0 6) (G 0 5) (G 0 4) (G 0 3) (G 0 2) (G 0 1) (G 0 0) hc he x060 x051 x042 x033 zl t600 t510 t501 t420 t411 t402 t330 t321 t312 t303 t240 t231 t222 t213 t204 t150 t141 t132 t123 t114 t105 t060 t051 t042 t033 t024 t015 t006 dk0
  refine env_end2 su (fun a b hab => ?_)
  have g0 : G a b = 0 := by
    have ha : a = 0 ∨ a = 1 ∨ a = 2 ∨ a = 3 ∨ a = 4 ∨ a = 5 ∨ a = 6 := by omega
    have hb : b = 0 ∨ b = 1 ∨ b = 2 ∨ b = 3 ∨ b = 4 ∨ b = 5 ∨ b = 6 := by omega
    clear hH hG hT hv hz
    rcases ha with ha | ha | ha | ha | ha | ha | ha <;> rcases hb with hb | hb | hb | hb | hb | hb | hb <;> subst ha <;> subst hb <;> first | (exfalso; omega) | assumption
  rw [hG a b hab, g0, Int.mul_zero, Int.add_zero]
theorem ev3_60 (X Y W : Nat → Int) (hX : bx7 X) (hY : bx7 Y) (hW : bx7 W) (c : Int) (hc : c ≠ 0) (hp : cont X Y W c) (f E : Nat → Int) (hT : ∀ a b, a + b ≤ 6 → tTf X Y W a b = 27 * c * f (7 * a + b)) (z : zr 3 6 0 f E) : TP 3 f E := by
  obtain ⟨su0, hl, hne, hz, hb, hv, H, pH, hH⟩ := z
  have su1 : SUi E 2 := su0
  have su := su1
  obtain ⟨G, hG⟩ := env_G3 su pH hH
  have hl' : ipw (E 14) 3 = f 42 := hl
  rw [lb3] at hl'
  have he : E 14 ≠ 0 := hne
  have t600 : tT600 X Y W = 27 * c * (E 14 * E 14 * E 14 + 18446744073709551616 * G 6 0) := (hT 6 0 (by decide)).trans (congrArg (fun v => 27 * c * v) (hG 6 0 (by decide)))
  have t510 : tT510 X Y W = 27 * c * (3 * (E 14 * E 14) * E 8 + 18446744073709551616 * G 5 1) := (hT 5 1 (by decide)).trans (congrArg (fun v => 27 * c * v) (hG 5 1 (by decide)))
  have t501 : tT501 X Y W = 27 * c * (3 * (E 14 * E 14) * E 7 + 18446744073709551616 * G 5 0) := (hT 5 0 (by decide)).trans (congrArg (fun v => 27 * c * v) (hG 5 0 (by decide)))
  have t420 : tT420 X Y W = 27 * c * (3 * (E 14 * E 14) * E 2 + 3 * E 14 * (E 8 * E 8) + 18446744073709551616 * G 4 2) := (hT 4 2 (by decide)).trans (congrArg (fun v => 27 * c * v) (hG 4 2 (by decide)))
  have t411 : tT411 X Y W = 27 * c * (3 * (E 14 * E 14) * E 1 + 6 * E 14 * (E 8 * E 7) + 18446744073709551616 * G 4 1) := (hT 4 1 (by decide)).trans (congrArg (fun v => 27 * c * v) (hG 4 1 (by decide)))
  have t402 : tT402 X Y W = 27 * c * (3 * (E 14 * E 14) * E 0 + 3 * E 14 * (E 7 * E 7) + 18446744073709551616 * G 4 0) := (hT 4 0 (by decide)).trans (congrArg (fun v => 27 * c * v) (hG 4 0 (by decide)))
  have t330 : tT330 X Y W = 27 * c * (6 * E 14 * (E 8 * E 2) + E 8 * E 8 * E 8 + 18446744073709551616 * G 3 3) := (hT 3 3 (by decide)).trans (congrArg (fun v => 27 * c * v) (hG 3 3 (by decide)))
  have t321 : tT321 X Y W = 27 * c * (6 * (E 14 * E 1) * E 8 + (3 * (E 8 * E 8) * E 7 + 6 * E 14 * (E 2 * E 7)) + 18446744073709551616 * G 3 2) := (hT 3 2 (by decide)).trans (congrArg (fun v => 27 * c * v) (hG 3 2 (by decide)))
  have t312 : tT312 X Y W = 27 * c * (6 * (E 14 * E 1) * E 7 + (3 * (E 7 * E 7) * E 8 + 6 * E 14 * (E 0 * E 8)) + 18446744073709551616 * G 3 1) := (hT 3 1 (by decide)).trans (congrArg (fun v => 27 * c * v) (hG 3 1 (by decide)))
  have t303 : tT303 X Y W = 27 * c * (6 * E 14 * (E 7 * E 0) + E 7 * E 7 * E 7 + 18446744073709551616 * G 3 0) := (hT 3 0 (by decide)).trans (congrArg (fun v => 27 * c * v) (hG 3 0 (by decide)))
  have t240 : tT240 X Y W = 27 * c * (3 * E 14 * (E 2 * E 2) + 3 * (E 8 * E 8) * E 2 + 18446744073709551616 * G 2 4) := (hT 2 4 (by decide)).trans (congrArg (fun v => 27 * c * v) (hG 2 4 (by decide)))
  have t231 : tT231 X Y W = 27 * c * (6 * (E 14 * E 1) * E 2 + (3 * (E 8 * E 8) * E 1 + 6 * E 8 * (E 2 * E 7)) + 18446744073709551616 * G 2 3) := (hT 2 3 (by decide)).trans (congrArg (fun v => 27 * c * v) (hG 2 3 (by decide)))
  have t222 : tT222 X Y W = 27 * c * (3 * (E 14 * E 1) * E 1 + (6 * E 14 * (E 2 * E 0) + (6 * E 8 * (E 7 * E 1) + (3 * (E 8 * E 8) * E 0 + 3 * (E 7 * E 7) * E 2))) + 18446744073709551616 * G 2 2) := (hT 2 2 (by decide)).trans (congrArg (fun v => 27 * c * v) (hG 2 2 (by decide)))
  have t213 : tT213 X Y W = 27 * c * (6 * (E 14 * E 1) * E 0 + (3 * (E 7 * E 7) * E 1 + 6 * E 7 * (E 0 * E 8)) + 18446744073709551616 * G 2 1) := (hT 2 1 (by decide)).trans (congrArg (fun v => 27 * c * v) (hG 2 1 (by decide)))
  have t204 : tT204 X Y W = 27 * c * (3 * E 14 * (E 0 * E 0) + 3 * (E 7 * E 7) * E 0 + 18446744073709551616 * G 2 0) := (hT 2 0 (by decide)).trans (congrArg (fun v => 27 * c * v) (hG 2 0 (by decide)))
  have t150 : tT150 X Y W = 27 * c * (3 * E 8 * (E 2 * E 2) + 18446744073709551616 * G 1 5) := (hT 1 5 (by decide)).trans (congrArg (fun v => 27 * c * v) (hG 1 5 (by decide)))
  have t141 : tT141 X Y W = 27 * c * (6 * E 8 * (E 2 * E 1) + 3 * (E 2 * E 2) * E 7 + 18446744073709551616 * G 1 4) := (hT 1 4 (by decide)).trans (congrArg (fun v => 27 * c * v) (hG 1 4 (by decide)))
  have t132 : tT132 X Y W = 27 * c * (3 * E 8 * (E 1 * E 1) + (6 * E 8 * (E 2 * E 0) + 6 * E 7 * (E 2 * E 1)) + 18446744073709551616 * G 1 3) := (hT 1 3 (by decide)).trans (congrArg (fun v => 27 * c * v) (hG 1 3 (by decide)))
  have t123 : tT123 X Y W = 27 * c * (3 * E 7 * (E 1 * E 1) + (6 * E 7 * (E 0 * E 2) + 6 * E 8 * (E 0 * E 1)) + 18446744073709551616 * G 1 2) := (hT 1 2 (by decide)).trans (congrArg (fun v => 27 * c * v) (hG 1 2 (by decide)))
  have t114 : tT114 X Y W = 27 * c * (6 * E 7 * (E 0 * E 1) + 3 * (E 0 * E 0) * E 8 + 18446744073709551616 * G 1 1) := (hT 1 1 (by decide)).trans (congrArg (fun v => 27 * c * v) (hG 1 1 (by decide)))
  have t105 : tT105 X Y W = 27 * c * (3 * E 7 * (E 0 * E 0) + 18446744073709551616 * G 1 0) := (hT 1 0 (by decide)).trans (congrArg (fun v => 27 * c * v) (hG 1 0 (by decide)))
  have t060 : tT060 X Y W = 27 * c * (E 2 * E 2 * E 2 + 18446744073709551616 * G 0 6) := (hT 0 6 (by decide)).trans (congrArg (fun v => 27 * c * v) (hG 0 6 (by decide)))
  have t051 : tT051 X Y W = 27 * c * (3 * (E 2 * E 2) * E 1 + 18446744073709551616 * G 0 5) := (hT 0 5 (by decide)).trans (congrArg (fun v => 27 * c * v) (hG 0 5 (by decide)))
  have t042 : tT042 X Y W = 27 * c * (3 * E 2 * (E 1 * E 1) + 3 * (E 2 * E 2) * E 0 + 18446744073709551616 * G 0 4) := (hT 0 4 (by decide)).trans (congrArg (fun v => 27 * c * v) (hG 0 4 (by decide)))
  have t033 : tT033 X Y W = 27 * c * (E 1 * E 1 * E 1 + 6 * E 2 * (E 0 * E 1) + 18446744073709551616 * G 0 3) := (hT 0 3 (by decide)).trans (congrArg (fun v => 27 * c * v) (hG 0 3 (by decide)))
  have t024 : tT024 X Y W = 27 * c * (3 * E 0 * (E 1 * E 1) + 3 * (E 0 * E 0) * E 2 + 18446744073709551616 * G 0 2) := (hT 0 2 (by decide)).trans (congrArg (fun v => 27 * c * v) (hG 0 2 (by decide)))
  have t015 : tT015 X Y W = 27 * c * (3 * (E 0 * E 0) * E 1 + 18446744073709551616 * G 0 1) := (hT 0 1 (by decide)).trans (congrArg (fun v => 27 * c * v) (hG 0 1 (by decide)))
  have t006 : tT006 X Y W = 27 * c * (E 0 * E 0 * E 0 + 18446744073709551616 * G 0 0) := (hT 0 0 (by decide)).trans (congrArg (fun v => 27 * c * v) (hG 0 0 (by decide)))
  have zl : G 6 0 = 0 := by
    have a' : f 42 = E 14 * E 14 * E 14 + 18446744073709551616 * G 6 0 := hG 6 0 (by decide)
    try simp only [Int.mul_zero, Int.zero_mul, Int.zero_add, Int.add_zero, Int.mul_assoc] at a'
    try simp only [Int.mul_zero, Int.zero_mul, Int.zero_add, Int.add_zero, Int.mul_assoc] at hl'
    omega
  have de1 : (3 * (E 14 * E 14) * E 8).natAbs ≤ 9223372036854775808 := by
    have q := hb 8 (by decide) (by decide)
    rw [db3] at q
    exact q
  have dg1 : (3 * (E 14 * E 14) * E 7).natAbs ≤ 9223372036854775808 := by
    have q := hb 7 (by decide) (by decide)
    rw [db3] at q
    exact q
  have de2 : (3 * (E 14 * E 14) * E 2).natAbs ≤ 9223372036854775808 := by
    have q := hb 2 (by decide) (by decide)
    rw [db3] at q
    exact q
  have dm : (3 * (E 14 * E 14) * E 1).natAbs ≤ 9223372036854775808 := by
    have q := hb 1 (by decide) (by decide)
    rw [db3] at q
    exact q
  have dh : (3 * (E 14 * E 14) * E 0).natAbs ≤ 9223372036854775808 := by
    have q := hb 0 (by decide) (by decide)
    rw [db3] at q
    exact q
  obtain ⟨w600, w510, w501, w420, w411, w402, w330, w321, w312, w303, w240, w231, w222, w213, w204, w150, w141, w132, w123, w114, w105, w060, w051, w042, w033, w024, w015, w006⟩ := cu6a X Y W hX hY hW c (E 14) (E 8) (E 7) (E 2) (E 1) (E 0) (G 6 0) (G 5 1) (G 5 0) (G 4 2) (G 4 1) (G 4 0) (G 3 3) (G 3 2) (G 3 1) (G 3 0) (G 2 4) (G 2 3) (G 2 2) (G 2 1) (G 2 0) (G 1 5) (G 1 4) (G 1 3) (G 1 2) (G 1 1) (G 1 0) (G 0 6) (G 0 5) (G 0 4) (G 0 3) (G 0 2) (G 0 1) (G 0 0) hc he  zl t600 t510 t501 t420 t411 t402 t330 t321 t312 t303 t240 t231 t222 t213 t204 t150 t141 t132 t123 t114 t105 t060 t051 t042 t033 t024 t015 t006 de1 dg1 de2 dm dh
  refine env_end3 su (fun a b hab => ?_)
  have g0 : G a b = 0 := by
    have ha : a = 0 ∨ a = 1 ∨ a = 2 ∨ a = 3 ∨ a = 4 ∨ a = 5 ∨ a = 6 := by omega
    have hb : b = 0 ∨ b = 1 ∨ b = 2 ∨ b = 3 ∨ b = 4 ∨ b = 5 ∨ b = 6 := by omega
    clear hH hG hT hv hz
    rcases ha with ha | ha | ha | ha | ha | ha | ha <;> rcases hb with hb | hb | hb | hb | hb | hb | hb <;> subst ha <;> subst hb <;> first | (exfalso; omega) | assumption
  rw [hG a b hab, g0, Int.mul_zero, Int.add_zero]
theorem ev3_33 (X Y W : Nat → Int) (hX : bx7 X) (hY : bx7 Y) (hW : bx7 W) (c : Int) (hc : c ≠ 0) (hp : cont X Y W c) (f E : Nat → Int) (hT : ∀ a b, a + b ≤ 6 → tTf X Y W a b = 27 * c * f (7 * a + b)) (z : zr 3 3 3 f E) : TP 3 f E := by
  obtain ⟨su0, hl, hne, hz, hb, hv, H, pH, hH⟩ := z
  have su1 : SUi E 2 := su0
  have su := su1
  obtain ⟨G, hG⟩ := env_G3 su pH hH
  have hl' : ipw (E 8) 3 = f 24 := hl
  rw [lb3] at hl'
  have he : E 8 ≠ 0 := hne
  have z14 : E 14 = 0 := hz 2 0 (by decide) (by decide)
  have t600 : tT600 X Y W = 27 * c * (E 14 * E 14 * E 14 + 18446744073709551616 * G 6 0) := (hT 6 0 (by decide)).trans (congrArg (fun v => 27 * c * v) (hG 6 0 (by decide)))
  have t510 : tT510 X Y W = 27 * c * (3 * (E 14 * E 14) * E 8 + 18446744073709551616 * G 5 1) := (hT 5 1 (by decide)).trans (congrArg (fun v => 27 * c * v) (hG 5 1 (by decide)))
  have t501 : tT501 X Y W = 27 * c * (3 * (E 14 * E 14) * E 7 + 18446744073709551616 * G 5 0) := (hT 5 0 (by decide)).trans (congrArg (fun v => 27 * c * v) (hG 5 0 (by decide)))
  have t420 : tT420 X Y W = 27 * c * (3 * (E 14 * E 14) * E 2 + 3 * E 14 * (E 8 * E 8) + 18446744073709551616 * G 4 2) := (hT 4 2 (by decide)).trans (congrArg (fun v => 27 * c * v) (hG 4 2 (by decide)))
  have t411 : tT411 X Y W = 27 * c * (3 * (E 14 * E 14) * E 1 + 6 * E 14 * (E 8 * E 7) + 18446744073709551616 * G 4 1) := (hT 4 1 (by decide)).trans (congrArg (fun v => 27 * c * v) (hG 4 1 (by decide)))
  have t402 : tT402 X Y W = 27 * c * (3 * (E 14 * E 14) * E 0 + 3 * E 14 * (E 7 * E 7) + 18446744073709551616 * G 4 0) := (hT 4 0 (by decide)).trans (congrArg (fun v => 27 * c * v) (hG 4 0 (by decide)))
  have t330 : tT330 X Y W = 27 * c * (6 * E 14 * (E 8 * E 2) + E 8 * E 8 * E 8 + 18446744073709551616 * G 3 3) := (hT 3 3 (by decide)).trans (congrArg (fun v => 27 * c * v) (hG 3 3 (by decide)))
  have t321 : tT321 X Y W = 27 * c * (6 * (E 14 * E 1) * E 8 + (3 * (E 8 * E 8) * E 7 + 6 * E 14 * (E 2 * E 7)) + 18446744073709551616 * G 3 2) := (hT 3 2 (by decide)).trans (congrArg (fun v => 27 * c * v) (hG 3 2 (by decide)))
  have t312 : tT312 X Y W = 27 * c * (6 * (E 14 * E 1) * E 7 + (3 * (E 7 * E 7) * E 8 + 6 * E 14 * (E 0 * E 8)) + 18446744073709551616 * G 3 1) := (hT 3 1 (by decide)).trans (congrArg (fun v => 27 * c * v) (hG 3 1 (by decide)))
  have t303 : tT303 X Y W = 27 * c * (6 * E 14 * (E 7 * E 0) + E 7 * E 7 * E 7 + 18446744073709551616 * G 3 0) := (hT 3 0 (by decide)).trans (congrArg (fun v => 27 * c * v) (hG 3 0 (by decide)))
  have t240 : tT240 X Y W = 27 * c * (3 * E 14 * (E 2 * E 2) + 3 * (E 8 * E 8) * E 2 + 18446744073709551616 * G 2 4) := (hT 2 4 (by decide)).trans (congrArg (fun v => 27 * c * v) (hG 2 4 (by decide)))
  have t231 : tT231 X Y W = 27 * c * (6 * (E 14 * E 1) * E 2 + (3 * (E 8 * E 8) * E 1 + 6 * E 8 * (E 2 * E 7)) + 18446744073709551616 * G 2 3) := (hT 2 3 (by decide)).trans (congrArg (fun v => 27 * c * v) (hG 2 3 (by decide)))
  have t222 : tT222 X Y W = 27 * c * (3 * (E 14 * E 1) * E 1 + (6 * E 14 * (E 2 * E 0) + (6 * E 8 * (E 7 * E 1) + (3 * (E 8 * E 8) * E 0 + 3 * (E 7 * E 7) * E 2))) + 18446744073709551616 * G 2 2) := (hT 2 2 (by decide)).trans (congrArg (fun v => 27 * c * v) (hG 2 2 (by decide)))
  have t213 : tT213 X Y W = 27 * c * (6 * (E 14 * E 1) * E 0 + (3 * (E 7 * E 7) * E 1 + 6 * E 7 * (E 0 * E 8)) + 18446744073709551616 * G 2 1) := (hT 2 1 (by decide)).trans (congrArg (fun v => 27 * c * v) (hG 2 1 (by decide)))
  have t204 : tT204 X Y W = 27 * c * (3 * E 14 * (E 0 * E 0) + 3 * (E 7 * E 7) * E 0 + 18446744073709551616 * G 2 0) := (hT 2 0 (by decide)).trans (congrArg (fun v => 27 * c * v) (hG 2 0 (by decide)))
  have t150 : tT150 X Y W = 27 * c * (3 * E 8 * (E 2 * E 2) + 18446744073709551616 * G 1 5) := (hT 1 5 (by decide)).trans (congrArg (fun v => 27 * c * v) (hG 1 5 (by decide)))
  have t141 : tT141 X Y W = 27 * c * (6 * E 8 * (E 2 * E 1) + 3 * (E 2 * E 2) * E 7 + 18446744073709551616 * G 1 4) := (hT 1 4 (by decide)).trans (congrArg (fun v => 27 * c * v) (hG 1 4 (by decide)))
  have t132 : tT132 X Y W = 27 * c * (3 * E 8 * (E 1 * E 1) + (6 * E 8 * (E 2 * E 0) + 6 * E 7 * (E 2 * E 1)) + 18446744073709551616 * G 1 3) := (hT 1 3 (by decide)).trans (congrArg (fun v => 27 * c * v) (hG 1 3 (by decide)))
  have t123 : tT123 X Y W = 27 * c * (3 * E 7 * (E 1 * E 1) + (6 * E 7 * (E 0 * E 2) + 6 * E 8 * (E 0 * E 1)) + 18446744073709551616 * G 1 2) := (hT 1 2 (by decide)).trans (congrArg (fun v => 27 * c * v) (hG 1 2 (by decide)))
  have t114 : tT114 X Y W = 27 * c * (6 * E 7 * (E 0 * E 1) + 3 * (E 0 * E 0) * E 8 + 18446744073709551616 * G 1 1) := (hT 1 1 (by decide)).trans (congrArg (fun v => 27 * c * v) (hG 1 1 (by decide)))
  have t105 : tT105 X Y W = 27 * c * (3 * E 7 * (E 0 * E 0) + 18446744073709551616 * G 1 0) := (hT 1 0 (by decide)).trans (congrArg (fun v => 27 * c * v) (hG 1 0 (by decide)))
  have t060 : tT060 X Y W = 27 * c * (E 2 * E 2 * E 2 + 18446744073709551616 * G 0 6) := (hT 0 6 (by decide)).trans (congrArg (fun v => 27 * c * v) (hG 0 6 (by decide)))
  have t051 : tT051 X Y W = 27 * c * (3 * (E 2 * E 2) * E 1 + 18446744073709551616 * G 0 5) := (hT 0 5 (by decide)).trans (congrArg (fun v => 27 * c * v) (hG 0 5 (by decide)))
  have t042 : tT042 X Y W = 27 * c * (3 * E 2 * (E 1 * E 1) + 3 * (E 2 * E 2) * E 0 + 18446744073709551616 * G 0 4) := (hT 0 4 (by decide)).trans (congrArg (fun v => 27 * c * v) (hG 0 4 (by decide)))
  have t033 : tT033 X Y W = 27 * c * (E 1 * E 1 * E 1 + 6 * E 2 * (E 0 * E 1) + 18446744073709551616 * G 0 3) := (hT 0 3 (by decide)).trans (congrArg (fun v => 27 * c * v) (hG 0 3 (by decide)))
  have t024 : tT024 X Y W = 27 * c * (3 * E 0 * (E 1 * E 1) + 3 * (E 0 * E 0) * E 2 + 18446744073709551616 * G 0 2) := (hT 0 2 (by decide)).trans (congrArg (fun v => 27 * c * v) (hG 0 2 (by decide)))
  have t015 : tT015 X Y W = 27 * c * (3 * (E 0 * E 0) * E 1 + 18446744073709551616 * G 0 1) := (hT 0 1 (by decide)).trans (congrArg (fun v => 27 * c * v) (hG 0 1 (by decide)))
  have t006 : tT006 X Y W = 27 * c * (E 0 * E 0 * E 0 + 18446744073709551616 * G 0 0) := (hT 0 0 (by decide)).trans (congrArg (fun v => 27 * c * v) (hG 0 0 (by decide)))
  have zl : G 3 3 = 0 := by
    have a' : f 24 = 6 * E 14 * (E 8 * E 2) + E 8 * E 8 * E 8 + 18446744073709551616 * G 3 3 := hG 3 3 (by decide)
    rw [z14] at a'
    try simp only [Int.mul_zero, Int.zero_mul, Int.zero_add, Int.add_zero, Int.mul_assoc] at a'
    try simp only [Int.mul_zero, Int.zero_mul, Int.zero_add, Int.add_zero, Int.mul_assoc] at hl'
    omega
  rw [z14] at t600 t510 t501 t420 t411 t402 t330 t321 t312 t303 t240 t231 t222 t213 t204
  have x600 : tT600 X Y W = 0 := (hT 6 0 (by decide)).trans (by rw [hv 6 0 (by decide) (by decide), Int.mul_zero])
  have x510 : tT510 X Y W = 0 := (hT 5 1 (by decide)).trans (by rw [hv 5 1 (by decide) (by decide), Int.mul_zero])
  have x420 : tT420 X Y W = 0 := (hT 4 2 (by decide)).trans (by rw [hv 4 2 (by decide) (by decide), Int.mul_zero])
  have de2 : (3 * (E 8 * E 8) * E 2).natAbs ≤ 9223372036854775808 := by
    have q := hb 2 (by decide) (by decide)
    rw [db3] at q
    exact q
  have dg1 : (3 * (E 8 * E 8) * E 7).natAbs ≤ 9223372036854775808 := by
    have q := hb 7 (by decide) (by decide)
    rw [db3] at q
    exact q
  have dm : (3 * (E 8 * E 8) * E 1).natAbs ≤ 9223372036854775808 := by
    have q := hb 1 (by decide) (by decide)
    rw [db3] at q
    exact q
  have dh : (3 * (E 8 * E 8) * E 0).natAbs ≤ 9223372036854775808 := by
    have q := hb 0 (by decide) (by decide)
    rw [db3] at q
    exact q
  obtain ⟨w600, w510, w501, w420, w411, w402, w330, w321, w312, w303, w240, w231, w222, w213, w204, w150, w141, w132, w123, w114, w105, w060, w051, w042, w033, w024, w015, w006⟩ := cu6b X Y W hX hY hW c (E 8) (E 7) (E 2) (E 1) (E 0) (G 6 0) (G 5 1) (G 5 0) (G 4 2) (G 4 1) (G 4 0) (G 3 3) (G 3 2) (G 3 1) (G 3 0) (G 2 4) (G 2 3) (G 2 2) (G 2 1) (G 2 0) (G 1 5) (G 1 4) (G 1 3) (G 1 2) (G 1 1) (G 1 0) (G 0 6) (G 0 5) (G 0 4) (G 0 3) (G 0 2) (G 0 1) (G 0 0) hc he x600 x510 x420 zl t600 t510 t501 t420 t411 t402 t330 t321 t312 t303 t240 t231 t222 t213 t204 t150 t141 t132 t123 t114 t105 t060 t051 t042 t033 t024 t015 t006 de2 dg1 dm dh
  refine env_end3 su (fun a b hab => ?_)
  have g0 : G a b = 0 := by
    have ha : a = 0 ∨ a = 1 ∨ a = 2 ∨ a = 3 ∨ a = 4 ∨ a = 5 ∨ a = 6 := by omega
    have hb : b = 0 ∨ b = 1 ∨ b = 2 ∨ b = 3 ∨ b = 4 ∨ b = 5 ∨ b = 6 := by omega
    clear hH hG hT hv hz
    rcases ha with ha | ha | ha | ha | ha | ha | ha <;> rcases hb with hb | hb | hb | hb | hb | hb | hb <;> subst ha <;> subst hb <;> first | (exfalso; omega) | assumption
  rw [hG a b hab, g0, Int.mul_zero, Int.add_zero]
theorem ev3_06 (X Y W : Nat → Int) (hX : bx7 X) (hY : bx7 Y) (hW : bx7 W) (c : Int) (hc : c ≠ 0) (hp : cont X Y W c) (f E : Nat → Int) (hT : ∀ a b, a + b ≤ 6 → tTf X Y W a b = 27 * c * f (7 * a + b)) (z : zr 3 0 6 f E) : TP 3 f E := by
  obtain ⟨su0, hl, hne, hz, hb, hv, H, pH, hH⟩ := z
  have su1 : SUi E 2 := su0
  have su := su1
  obtain ⟨G, hG⟩ := env_G3 su pH hH
  have hl' : ipw (E 2) 3 = f 6 := hl
  rw [lb3] at hl'
  have he : E 2 ≠ 0 := hne
  have z14 : E 14 = 0 := hz 2 0 (by decide) (by decide)
  have t600 : tT600 X Y W = 27 * c * (E 14 * E 14 * E 14 + 18446744073709551616 * G 6 0) := (hT 6 0 (by decide)).trans (congrArg (fun v => 27 * c * v) (hG 6 0 (by decide)))
  have t510 : tT510 X Y W = 27 * c * (3 * (E 14 * E 14) * E 8 + 18446744073709551616 * G 5 1) := (hT 5 1 (by decide)).trans (congrArg (fun v => 27 * c * v) (hG 5 1 (by decide)))
  have t501 : tT501 X Y W = 27 * c * (3 * (E 14 * E 14) * E 7 + 18446744073709551616 * G 5 0) := (hT 5 0 (by decide)).trans (congrArg (fun v => 27 * c * v) (hG 5 0 (by decide)))
  have t420 : tT420 X Y W = 27 * c * (3 * (E 14 * E 14) * E 2 + 3 * E 14 * (E 8 * E 8) + 18446744073709551616 * G 4 2) := (hT 4 2 (by decide)).trans (congrArg (fun v => 27 * c * v) (hG 4 2 (by decide)))
  have t411 : tT411 X Y W = 27 * c * (3 * (E 14 * E 14) * E 1 + 6 * E 14 * (E 8 * E 7) + 18446744073709551616 * G 4 1) := (hT 4 1 (by decide)).trans (congrArg (fun v => 27 * c * v) (hG 4 1 (by decide)))
  have t402 : tT402 X Y W = 27 * c * (3 * (E 14 * E 14) * E 0 + 3 * E 14 * (E 7 * E 7) + 18446744073709551616 * G 4 0) := (hT 4 0 (by decide)).trans (congrArg (fun v => 27 * c * v) (hG 4 0 (by decide)))
  have t330 : tT330 X Y W = 27 * c * (6 * E 14 * (E 8 * E 2) + E 8 * E 8 * E 8 + 18446744073709551616 * G 3 3) := (hT 3 3 (by decide)).trans (congrArg (fun v => 27 * c * v) (hG 3 3 (by decide)))
  have t321 : tT321 X Y W = 27 * c * (6 * (E 14 * E 1) * E 8 + (3 * (E 8 * E 8) * E 7 + 6 * E 14 * (E 2 * E 7)) + 18446744073709551616 * G 3 2) := (hT 3 2 (by decide)).trans (congrArg (fun v => 27 * c * v) (hG 3 2 (by decide)))
  have t312 : tT312 X Y W = 27 * c * (6 * (E 14 * E 1) * E 7 + (3 * (E 7 * E 7) * E 8 + 6 * E 14 * (E 0 * E 8)) + 18446744073709551616 * G 3 1) := (hT 3 1 (by decide)).trans (congrArg (fun v => 27 * c * v) (hG 3 1 (by decide)))
  have t303 : tT303 X Y W = 27 * c * (6 * E 14 * (E 7 * E 0) + E 7 * E 7 * E 7 + 18446744073709551616 * G 3 0) := (hT 3 0 (by decide)).trans (congrArg (fun v => 27 * c * v) (hG 3 0 (by decide)))
  have t240 : tT240 X Y W = 27 * c * (3 * E 14 * (E 2 * E 2) + 3 * (E 8 * E 8) * E 2 + 18446744073709551616 * G 2 4) := (hT 2 4 (by decide)).trans (congrArg (fun v => 27 * c * v) (hG 2 4 (by decide)))
  have t231 : tT231 X Y W = 27 * c * (6 * (E 14 * E 1) * E 2 + (3 * (E 8 * E 8) * E 1 + 6 * E 8 * (E 2 * E 7)) + 18446744073709551616 * G 2 3) := (hT 2 3 (by decide)).trans (congrArg (fun v => 27 * c * v) (hG 2 3 (by decide)))
  have t222 : tT222 X Y W = 27 * c * (3 * (E 14 * E 1) * E 1 + (6 * E 14 * (E 2 * E 0) + (6 * E 8 * (E 7 * E 1) + (3 * (E 8 * E 8) * E 0 + 3 * (E 7 * E 7) * E 2))) + 18446744073709551616 * G 2 2) := (hT 2 2 (by decide)).trans (congrArg (fun v => 27 * c * v) (hG 2 2 (by decide)))
  have t213 : tT213 X Y W = 27 * c * (6 * (E 14 * E 1) * E 0 + (3 * (E 7 * E 7) * E 1 + 6 * E 7 * (E 0 * E 8)) + 18446744073709551616 * G 2 1) := (hT 2 1 (by decide)).trans (congrArg (fun v => 27 * c * v) (hG 2 1 (by decide)))
  have t204 : tT204 X Y W = 27 * c * (3 * E 14 * (E 0 * E 0) + 3 * (E 7 * E 7) * E 0 + 18446744073709551616 * G 2 0) := (hT 2 0 (by decide)).trans (congrArg (fun v => 27 * c * v) (hG 2 0 (by decide)))
  have t150 : tT150 X Y W = 27 * c * (3 * E 8 * (E 2 * E 2) + 18446744073709551616 * G 1 5) := (hT 1 5 (by decide)).trans (congrArg (fun v => 27 * c * v) (hG 1 5 (by decide)))
  have t141 : tT141 X Y W = 27 * c * (6 * E 8 * (E 2 * E 1) + 3 * (E 2 * E 2) * E 7 + 18446744073709551616 * G 1 4) := (hT 1 4 (by decide)).trans (congrArg (fun v => 27 * c * v) (hG 1 4 (by decide)))
  have t132 : tT132 X Y W = 27 * c * (3 * E 8 * (E 1 * E 1) + (6 * E 8 * (E 2 * E 0) + 6 * E 7 * (E 2 * E 1)) + 18446744073709551616 * G 1 3) := (hT 1 3 (by decide)).trans (congrArg (fun v => 27 * c * v) (hG 1 3 (by decide)))
  have t123 : tT123 X Y W = 27 * c * (3 * E 7 * (E 1 * E 1) + (6 * E 7 * (E 0 * E 2) + 6 * E 8 * (E 0 * E 1)) + 18446744073709551616 * G 1 2) := (hT 1 2 (by decide)).trans (congrArg (fun v => 27 * c * v) (hG 1 2 (by decide)))
  have t114 : tT114 X Y W = 27 * c * (6 * E 7 * (E 0 * E 1) + 3 * (E 0 * E 0) * E 8 + 18446744073709551616 * G 1 1) := (hT 1 1 (by decide)).trans (congrArg (fun v => 27 * c * v) (hG 1 1 (by decide)))
  have t105 : tT105 X Y W = 27 * c * (3 * E 7 * (E 0 * E 0) + 18446744073709551616 * G 1 0) := (hT 1 0 (by decide)).trans (congrArg (fun v => 27 * c * v) (hG 1 0 (by decide)))
  have t060 : tT060 X Y W = 27 * c * (E 2 * E 2 * E 2 + 18446744073709551616 * G 0 6) := (hT 0 6 (by decide)).trans (congrArg (fun v => 27 * c * v) (hG 0 6 (by decide)))
  have t051 : tT051 X Y W = 27 * c * (3 * (E 2 * E 2) * E 1 + 18446744073709551616 * G 0 5) := (hT 0 5 (by decide)).trans (congrArg (fun v => 27 * c * v) (hG 0 5 (by decide)))
  have t042 : tT042 X Y W = 27 * c * (3 * E 2 * (E 1 * E 1) + 3 * (E 2 * E 2) * E 0 + 18446744073709551616 * G 0 4) := (hT 0 4 (by decide)).trans (congrArg (fun v => 27 * c * v) (hG 0 4 (by decide)))
  have t033 : tT033 X Y W = 27 * c * (E 1 * E 1 * E 1 + 6 * E 2 * (E 0 * E 1) + 18446744073709551616 * G 0 3) := (hT 0 3 (by decide)).trans (congrArg (fun v => 27 * c * v) (hG 0 3 (by decide)))
  have t024 : tT024 X Y W = 27 * c * (3 * E 0 * (E 1 * E 1) + 3 * (E 0 * E 0) * E 2 + 18446744073709551616 * G 0 2) := (hT 0 2 (by decide)).trans (congrArg (fun v => 27 * c * v) (hG 0 2 (by decide)))
  have t015 : tT015 X Y W = 27 * c * (3 * (E 0 * E 0) * E 1 + 18446744073709551616 * G 0 1) := (hT 0 1 (by decide)).trans (congrArg (fun v => 27 * c * v) (hG 0 1 (by decide)))
  have t006 : tT006 X Y W = 27 * c * (E 0 * E 0 * E 0 + 18446744073709551616 * G 0 0) := (hT 0 0 (by decide)).trans (congrArg (fun v => 27 * c * v) (hG 0 0 (by decide)))
  have zl : G 0 6 = 0 := by
    have a' : f 6 = E 2 * E 2 * E 2 + 18446744073709551616 * G 0 6 := hG 0 6 (by decide)
    try simp only [Int.mul_zero, Int.zero_mul, Int.zero_add, Int.add_zero, Int.mul_assoc] at a'
    try simp only [Int.mul_zero, Int.zero_mul, Int.zero_add, Int.add_zero, Int.mul_assoc] at hl'
    omega
  rw [z14] at t600 t510 t501 t420 t411 t402 t330 t321 t312 t303 t240 t231 t222 t213 t204
  have de1 : (3 * (E 2 * E 2) * E 8).natAbs ≤ 9223372036854775808 := by
    have q := hb 8 (by decide) (by decide)
    rw [db3] at q
    exact q
  have dm : (3 * (E 2 * E 2) * E 1).natAbs ≤ 9223372036854775808 := by
    have q := hb 1 (by decide) (by decide)
    rw [db3] at q
    exact q
  have dg1 : (3 * (E 2 * E 2) * E 7).natAbs ≤ 9223372036854775808 := by
    have q := hb 7 (by decide) (by decide)
    rw [db3] at q
    exact q
  have dh : (3 * (E 2 * E 2) * E 0).natAbs ≤ 9223372036854775808 := by
    have q := hb 0 (by decide) (by decide)
    rw [db3] at q
    exact q
  obtain ⟨w600, w510, w501, w420, w411, w402, w330, w321, w312, w303, w240, w231, w222, w213, w204, w150, w141, w132, w123, w114, w105, w060, w051, w042, w033, w024, w015, w006⟩ := cu6c X Y W hX hY hW c (E 8) (E 7) (E 2) (E 1) (E 0) (G 6 0) (G 5 1) (G 5 0) (G 4 2) (G 4 1) (G 4 0) (G 3 3) (G 3 2) (G 3 1) (G 3 0) (G 2 4) (G 2 3) (G 2 2) (G 2 1) (G 2 0) (G 1 5) (G 1 4) (G 1 3) (G 1 2) (G 1 1) (G 1 0) (G 0 6) (G 0 5) (G 0 4) (G 0 3) (G 0 2) (G 0 1) (G 0 0) hc he  zl t600 t510 t501 t420 t411 t402 t330 t321 t312 t303 t240 t231 t222 t213 t204 t150 t141 t132 t123 t114 t105 t060 t051 t042 t033 t024 t015 t006 de1 dm dg1 dh
  refine env_end3 su (fun a b hab => ?_)
  have g0 : G a b = 0 := by
    have ha : a = 0 ∨ a = 1 ∨ a = 2 ∨ a = 3 ∨ a = 4 ∨ a = 5 ∨ a = 6 := by omega
    have hb : b = 0 ∨ b = 1 ∨ b = 2 ∨ b = 3 ∨ b = 4 ∨ b = 5 ∨ b = 6 := by omega
    clear hH hG hT hv hz
    rcases ha with ha | ha | ha | ha | ha | ha | ha <;> rcases hb with hb | hb | hb | hb | hb | hb | hb <;> subst ha <;> subst hb <;> first | (exfalso; omega) | assumption
  rw [hG a b hab, g0, Int.mul_zero, Int.add_zero]
theorem ev3_30 (X Y W : Nat → Int) (hX : bx7 X) (hY : bx7 Y) (hW : bx7 W) (c : Int) (hc : c ≠ 0) (hp : cont X Y W c) (f E : Nat → Int) (hT : ∀ a b, a + b ≤ 6 → tTf X Y W a b = 27 * c * f (7 * a + b)) (z : zr 3 3 0 f E) : TP 3 f E := by
  obtain ⟨su0, hl, hne, hz, hb, hv, H, pH, hH⟩ := z
  have su1 : SUi E 1 := su0
  have su : SUi E 2 := fun a b ha hb' h => su1 a b ha hb' (by omega)
  obtain ⟨G, hG⟩ := env_G3 su pH hH
  have hl' : ipw (E 7) 3 = f 21 := hl
  rw [lb3] at hl'
  have he : E 7 ≠ 0 := hne
  have z14 : E 14 = 0 := su1 2 0 (by decide) (by decide) (by decide)
  have z8 : E 8 = 0 := su1 1 1 (by decide) (by decide) (by decide)
  have z2 : E 2 = 0 := su1 0 2 (by decide) (by decide) (by decide)
  have t600 : tT600 X Y W = 27 * c * (E 14 * E 14 * E 14 + 18446744073709551616 * G 6 0) := (hT 6 0 (by decide)).trans (congrArg (fun v => 27 * c * v) (hG 6 0 (by decide)))
  have t510 : tT510 X Y W = 27 * c * (3 * (E 14 * E 14) * E 8 + 18446744073709551616 * G 5 1) := (hT 5 1 (by decide)).trans (congrArg (fun v => 27 * c * v) (hG 5 1 (by decide)))
  have t501 : tT501 X Y W = 27 * c * (3 * (E 14 * E 14) * E 7 + 18446744073709551616 * G 5 0) := (hT 5 0 (by decide)).trans (congrArg (fun v => 27 * c * v) (hG 5 0 (by decide)))
  have t420 : tT420 X Y W = 27 * c * (3 * (E 14 * E 14) * E 2 + 3 * E 14 * (E 8 * E 8) + 18446744073709551616 * G 4 2) := (hT 4 2 (by decide)).trans (congrArg (fun v => 27 * c * v) (hG 4 2 (by decide)))
  have t411 : tT411 X Y W = 27 * c * (3 * (E 14 * E 14) * E 1 + 6 * E 14 * (E 8 * E 7) + 18446744073709551616 * G 4 1) := (hT 4 1 (by decide)).trans (congrArg (fun v => 27 * c * v) (hG 4 1 (by decide)))
  have t402 : tT402 X Y W = 27 * c * (3 * (E 14 * E 14) * E 0 + 3 * E 14 * (E 7 * E 7) + 18446744073709551616 * G 4 0) := (hT 4 0 (by decide)).trans (congrArg (fun v => 27 * c * v) (hG 4 0 (by decide)))
  have t330 : tT330 X Y W = 27 * c * (6 * E 14 * (E 8 * E 2) + E 8 * E 8 * E 8 + 18446744073709551616 * G 3 3) := (hT 3 3 (by decide)).trans (congrArg (fun v => 27 * c * v) (hG 3 3 (by decide)))
  have t321 : tT321 X Y W = 27 * c * (6 * (E 14 * E 1) * E 8 + (3 * (E 8 * E 8) * E 7 + 6 * E 14 * (E 2 * E 7)) + 18446744073709551616 * G 3 2) := (hT 3 2 (by decide)).trans (congrArg (fun v => 27 * c * v) (hG 3 2 (by decide)))
  have t312 : tT312 X Y W = 27 * c * (6 * (E 14 * E 1) * E 7 + (3 * (E 7 * E 7) * E 8 + 6 * E 14 * (E 0 * E 8)) + 18446744073709551616 * G 3 1) := (hT 3 1 (by decide)).trans (congrArg (fun v => 27 * c * v) (hG 3 1 (by decide)))
  have t303 : tT303 X Y W = 27 * c * (6 * E 14 * (E 7 * E 0) + E 7 * E 7 * E 7 + 18446744073709551616 * G 3 0) := (hT 3 0 (by decide)).trans (congrArg (fun v => 27 * c * v) (hG 3 0 (by decide)))
  have t240 : tT240 X Y W = 27 * c * (3 * E 14 * (E 2 * E 2) + 3 * (E 8 * E 8) * E 2 + 18446744073709551616 * G 2 4) := (hT 2 4 (by decide)).trans (congrArg (fun v => 27 * c * v) (hG 2 4 (by decide)))
  have t231 : tT231 X Y W = 27 * c * (6 * (E 14 * E 1) * E 2 + (3 * (E 8 * E 8) * E 1 + 6 * E 8 * (E 2 * E 7)) + 18446744073709551616 * G 2 3) := (hT 2 3 (by decide)).trans (congrArg (fun v => 27 * c * v) (hG 2 3 (by decide)))
  have t222 : tT222 X Y W = 27 * c * (3 * (E 14 * E 1) * E 1 + (6 * E 14 * (E 2 * E 0) + (6 * E 8 * (E 7 * E 1) + (3 * (E 8 * E 8) * E 0 + 3 * (E 7 * E 7) * E 2))) + 18446744073709551616 * G 2 2) := (hT 2 2 (by decide)).trans (congrArg (fun v => 27 * c * v) (hG 2 2 (by decide)))
  have t213 : tT213 X Y W = 27 * c * (6 * (E 14 * E 1) * E 0 + (3 * (E 7 * E 7) * E 1 + 6 * E 7 * (E 0 * E 8)) + 18446744073709551616 * G 2 1) := (hT 2 1 (by decide)).trans (congrArg (fun v => 27 * c * v) (hG 2 1 (by decide)))
  have t204 : tT204 X Y W = 27 * c * (3 * E 14 * (E 0 * E 0) + 3 * (E 7 * E 7) * E 0 + 18446744073709551616 * G 2 0) := (hT 2 0 (by decide)).trans (congrArg (fun v => 27 * c * v) (hG 2 0 (by decide)))
  have t150 : tT150 X Y W = 27 * c * (3 * E 8 * (E 2 * E 2) + 18446744073709551616 * G 1 5) := (hT 1 5 (by decide)).trans (congrArg (fun v => 27 * c * v) (hG 1 5 (by decide)))
  have t141 : tT141 X Y W = 27 * c * (6 * E 8 * (E 2 * E 1) + 3 * (E 2 * E 2) * E 7 + 18446744073709551616 * G 1 4) := (hT 1 4 (by decide)).trans (congrArg (fun v => 27 * c * v) (hG 1 4 (by decide)))
  have t132 : tT132 X Y W = 27 * c * (3 * E 8 * (E 1 * E 1) + (6 * E 8 * (E 2 * E 0) + 6 * E 7 * (E 2 * E 1)) + 18446744073709551616 * G 1 3) := (hT 1 3 (by decide)).trans (congrArg (fun v => 27 * c * v) (hG 1 3 (by decide)))
  have t123 : tT123 X Y W = 27 * c * (3 * E 7 * (E 1 * E 1) + (6 * E 7 * (E 0 * E 2) + 6 * E 8 * (E 0 * E 1)) + 18446744073709551616 * G 1 2) := (hT 1 2 (by decide)).trans (congrArg (fun v => 27 * c * v) (hG 1 2 (by decide)))
  have t114 : tT114 X Y W = 27 * c * (6 * E 7 * (E 0 * E 1) + 3 * (E 0 * E 0) * E 8 + 18446744073709551616 * G 1 1) := (hT 1 1 (by decide)).trans (congrArg (fun v => 27 * c * v) (hG 1 1 (by decide)))
  have t105 : tT105 X Y W = 27 * c * (3 * E 7 * (E 0 * E 0) + 18446744073709551616 * G 1 0) := (hT 1 0 (by decide)).trans (congrArg (fun v => 27 * c * v) (hG 1 0 (by decide)))
  have t060 : tT060 X Y W = 27 * c * (E 2 * E 2 * E 2 + 18446744073709551616 * G 0 6) := (hT 0 6 (by decide)).trans (congrArg (fun v => 27 * c * v) (hG 0 6 (by decide)))
  have t051 : tT051 X Y W = 27 * c * (3 * (E 2 * E 2) * E 1 + 18446744073709551616 * G 0 5) := (hT 0 5 (by decide)).trans (congrArg (fun v => 27 * c * v) (hG 0 5 (by decide)))
  have t042 : tT042 X Y W = 27 * c * (3 * E 2 * (E 1 * E 1) + 3 * (E 2 * E 2) * E 0 + 18446744073709551616 * G 0 4) := (hT 0 4 (by decide)).trans (congrArg (fun v => 27 * c * v) (hG 0 4 (by decide)))
  have t033 : tT033 X Y W = 27 * c * (E 1 * E 1 * E 1 + 6 * E 2 * (E 0 * E 1) + 18446744073709551616 * G 0 3) := (hT 0 3 (by decide)).trans (congrArg (fun v => 27 * c * v) (hG 0 3 (by decide)))
  have t024 : tT024 X Y W = 27 * c * (3 * E 0 * (E 1 * E 1) + 3 * (E 0 * E 0) * E 2 + 18446744073709551616 * G 0 2) := (hT 0 2 (by decide)).trans (congrArg (fun v => 27 * c * v) (hG 0 2 (by decide)))
  have t015 : tT015 X Y W = 27 * c * (3 * (E 0 * E 0) * E 1 + 18446744073709551616 * G 0 1) := (hT 0 1 (by decide)).trans (congrArg (fun v => 27 * c * v) (hG 0 1 (by decide)))
  have t006 : tT006 X Y W = 27 * c * (E 0 * E 0 * E 0 + 18446744073709551616 * G 0 0) := (hT 0 0 (by decide)).trans (congrArg (fun v => 27 * c * v) (hG 0 0 (by decide)))
  have zl : G 3 0 = 0 := by
    have a' : f 21 = 6 * E 14 * (E 7 * E 0) + E 7 * E 7 * E 7 + 18446744073709551616 * G 3 0 := hG 3 0 (by decide)
    rw [z14] at a'
    try simp only [Int.mul_zero, Int.zero_mul, Int.zero_add, Int.add_zero, Int.mul_assoc] at a'
    try simp only [Int.mul_zero, Int.zero_mul, Int.zero_add, Int.add_zero, Int.mul_assoc] at hl'
    omega
  rw [z14] at t600 t510 t501 t420 t411 t402 t330 t321 t312 t303 t240 t231 t222 t213 t204
  rw [z8] at t510 t420 t411 t330 t321 t312 t240 t231 t222 t213 t150 t141 t132 t123 t114
  rw [z2] at t420 t330 t321 t240 t231 t222 t150 t141 t132 t123 t060 t051 t042 t033 t024
  have x600 : tT600 X Y W = 0 := (hT 6 0 (by decide)).trans (by rw [hv 6 0 (by decide) (by decide), Int.mul_zero])
  have x501 : tT501 X Y W = 0 := (hT 5 0 (by decide)).trans (by rw [hv 5 0 (by decide) (by decide), Int.mul_zero])
  have x402 : tT402 X Y W = 0 := (hT 4 0 (by decide)).trans (by rw [hv 4 0 (by decide) (by decide), Int.mul_zero])
  have dm : (3 * (E 7 * E 7) * E 1).natAbs ≤ 9223372036854775808 := by
    have q := hb 1 (by decide) (by decide)
    rw [db3] at q
    exact q
  have dh : (3 * (E 7 * E 7) * E 0).natAbs ≤ 9223372036854775808 := by
    have q := hb 0 (by decide) (by decide)
    rw [db3] at q
    exact q
  obtain ⟨w600, w510, w501, w420, w411, w402, w330, w321, w312, w303, w240, w231, w222, w213, w204, w150, w141, w132, w123, w114, w105, w060, w051, w042, w033, w024, w015, w006⟩ := cu3x X Y W hX hY hW c (E 7) (E 1) (E 0) (G 6 0) (G 5 1) (G 5 0) (G 4 2) (G 4 1) (G 4 0) (G 3 3) (G 3 2) (G 3 1) (G 3 0) (G 2 4) (G 2 3) (G 2 2) (G 2 1) (G 2 0) (G 1 5) (G 1 4) (G 1 3) (G 1 2) (G 1 1) (G 1 0) (G 0 6) (G 0 5) (G 0 4) (G 0 3) (G 0 2) (G 0 1) (G 0 0) hc he x600 x501 x402 zl t600 t510 t501 t420 t411 t402 t330 t321 t312 t303 t240 t231 t222 t213 t204 t150 t141 t132 t123 t114 t105 t060 t051 t042 t033 t024 t015 t006 dm dh
  refine env_end3 su (fun a b hab => ?_)
  have g0 : G a b = 0 := by
    have ha : a = 0 ∨ a = 1 ∨ a = 2 ∨ a = 3 ∨ a = 4 ∨ a = 5 ∨ a = 6 := by omega
    have hb : b = 0 ∨ b = 1 ∨ b = 2 ∨ b = 3 ∨ b = 4 ∨ b = 5 ∨ b = 6 := by omega
    clear hH hG hT hv hz
    rcases ha with ha | ha | ha | ha | ha | ha | ha <;> rcases hb with hb | hb | hb | hb | hb | hb | hb <;> subst ha <;> subst hb <;> first | (exfalso; omega) | assumption
  rw [hG a b hab, g0, Int.mul_zero, Int.add_zero]
theorem ev3_03 (X Y W : Nat → Int) (hX : bx7 X) (hY : bx7 Y) (hW : bx7 W) (c : Int) (hc : c ≠ 0) (hp : cont X Y W c) (f E : Nat → Int) (hT : ∀ a b, a + b ≤ 6 → tTf X Y W a b = 27 * c * f (7 * a + b)) (z : zr 3 0 3 f E) : TP 3 f E := by
  obtain ⟨su0, hl, hne, hz, hb, hv, H, pH, hH⟩ := z
  have su1 : SUi E 1 := su0
  have su : SUi E 2 := fun a b ha hb' h => su1 a b ha hb' (by omega)
  obtain ⟨G, hG⟩ := env_G3 su pH hH
  have hl' : ipw (E 1) 3 = f 3 := hl
  rw [lb3] at hl'
  have he : E 1 ≠ 0 := hne
  have z14 : E 14 = 0 := su1 2 0 (by decide) (by decide) (by decide)
  have z8 : E 8 = 0 := su1 1 1 (by decide) (by decide) (by decide)
  have z7 : E 7 = 0 := hz 1 0 (by decide) (by decide)
  have z2 : E 2 = 0 := su1 0 2 (by decide) (by decide) (by decide)
  have t600 : tT600 X Y W = 27 * c * (E 14 * E 14 * E 14 + 18446744073709551616 * G 6 0) := (hT 6 0 (by decide)).trans (congrArg (fun v => 27 * c * v) (hG 6 0 (by decide)))
  have t510 : tT510 X Y W = 27 * c * (3 * (E 14 * E 14) * E 8 + 18446744073709551616 * G 5 1) := (hT 5 1 (by decide)).trans (congrArg (fun v => 27 * c * v) (hG 5 1 (by decide)))
  have t501 : tT501 X Y W = 27 * c * (3 * (E 14 * E 14) * E 7 + 18446744073709551616 * G 5 0) := (hT 5 0 (by decide)).trans (congrArg (fun v => 27 * c * v) (hG 5 0 (by decide)))
  have t420 : tT420 X Y W = 27 * c * (3 * (E 14 * E 14) * E 2 + 3 * E 14 * (E 8 * E 8) + 18446744073709551616 * G 4 2) := (hT 4 2 (by decide)).trans (congrArg (fun v => 27 * c * v) (hG 4 2 (by decide)))
  have t411 : tT411 X Y W = 27 * c * (3 * (E 14 * E 14) * E 1 + 6 * E 14 * (E 8 * E 7) + 18446744073709551616 * G 4 1) := (hT 4 1 (by decide)).trans (congrArg (fun v => 27 * c * v) (hG 4 1 (by decide)))
  have t402 : tT402 X Y W = 27 * c * (3 * (E 14 * E 14) * E 0 + 3 * E 14 * (E 7 * E 7) + 18446744073709551616 * G 4 0) := (hT 4 0 (by decide)).trans (congrArg (fun v => 27 * c * v) (hG 4 0 (by decide)))
  have t330 : tT330 X Y W = 27 * c * (6 * E 14 * (E 8 * E 2) + E 8 * E 8 * E 8 + 18446744073709551616 * G 3 3) := (hT 3 3 (by decide)).trans (congrArg (fun v => 27 * c * v) (hG 3 3 (by decide)))
  have t321 : tT321 X Y W = 27 * c * (6 * (E 14 * E 1) * E 8 + (3 * (E 8 * E 8) * E 7 + 6 * E 14 * (E 2 * E 7)) + 18446744073709551616 * G 3 2) := (hT 3 2 (by decide)).trans (congrArg (fun v => 27 * c * v) (hG 3 2 (by decide)))
  have t312 : tT312 X Y W = 27 * c * (6 * (E 14 * E 1) * E 7 + (3 * (E 7 * E 7) * E 8 + 6 * E 14 * (E 0 * E 8)) + 18446744073709551616 * G 3 1) := (hT 3 1 (by decide)).trans (congrArg (fun v => 27 * c * v) (hG 3 1 (by decide)))
  have t303 : tT303 X Y W = 27 * c * (6 * E 14 * (E 7 * E 0) + E 7 * E 7 * E 7 + 18446744073709551616 * G 3 0) := (hT 3 0 (by decide)).trans (congrArg (fun v => 27 * c * v) (hG 3 0 (by decide)))
  have t240 : tT240 X Y W = 27 * c * (3 * E 14 * (E 2 * E 2) + 3 * (E 8 * E 8) * E 2 + 18446744073709551616 * G 2 4) := (hT 2 4 (by decide)).trans (congrArg (fun v => 27 * c * v) (hG 2 4 (by decide)))
  have t231 : tT231 X Y W = 27 * c * (6 * (E 14 * E 1) * E 2 + (3 * (E 8 * E 8) * E 1 + 6 * E 8 * (E 2 * E 7)) + 18446744073709551616 * G 2 3) := (hT 2 3 (by decide)).trans (congrArg (fun v => 27 * c * v) (hG 2 3 (by decide)))
  have t222 : tT222 X Y W = 27 * c * (3 * (E 14 * E 1) * E 1 + (6 * E 14 * (E 2 * E 0) + (6 * E 8 * (E 7 * E 1) + (3 * (E 8 * E 8) * E 0 + 3 * (E 7 * E 7) * E 2))) + 18446744073709551616 * G 2 2) := (hT 2 2 (by decide)).trans (congrArg (fun v => 27 * c * v) (hG 2 2 (by decide)))
  have t213 : tT213 X Y W = 27 * c * (6 * (E 14 * E 1) * E 0 + (3 * (E 7 * E 7) * E 1 + 6 * E 7 * (E 0 * E 8)) + 18446744073709551616 * G 2 1) := (hT 2 1 (by decide)).trans (congrArg (fun v => 27 * c * v) (hG 2 1 (by decide)))
  have t204 : tT204 X Y W = 27 * c * (3 * E 14 * (E 0 * E 0) + 3 * (E 7 * E 7) * E 0 + 18446744073709551616 * G 2 0) := (hT 2 0 (by decide)).trans (congrArg (fun v => 27 * c * v) (hG 2 0 (by decide)))
  have t150 : tT150 X Y W = 27 * c * (3 * E 8 * (E 2 * E 2) + 18446744073709551616 * G 1 5) := (hT 1 5 (by decide)).trans (congrArg (fun v => 27 * c * v) (hG 1 5 (by decide)))
  have t141 : tT141 X Y W = 27 * c * (6 * E 8 * (E 2 * E 1) + 3 * (E 2 * E 2) * E 7 + 18446744073709551616 * G 1 4) := (hT 1 4 (by decide)).trans (congrArg (fun v => 27 * c * v) (hG 1 4 (by decide)))
  have t132 : tT132 X Y W = 27 * c * (3 * E 8 * (E 1 * E 1) + (6 * E 8 * (E 2 * E 0) + 6 * E 7 * (E 2 * E 1)) + 18446744073709551616 * G 1 3) := (hT 1 3 (by decide)).trans (congrArg (fun v => 27 * c * v) (hG 1 3 (by decide)))
  have t123 : tT123 X Y W = 27 * c * (3 * E 7 * (E 1 * E 1) + (6 * E 7 * (E 0 * E 2) + 6 * E 8 * (E 0 * E 1)) + 18446744073709551616 * G 1 2) := (hT 1 2 (by decide)).trans (congrArg (fun v => 27 * c * v) (hG 1 2 (by decide)))
  have t114 : tT114 X Y W = 27 * c * (6 * E 7 * (E 0 * E 1) + 3 * (E 0 * E 0) * E 8 + 18446744073709551616 * G 1 1) := (hT 1 1 (by decide)).trans (congrArg (fun v => 27 * c * v) (hG 1 1 (by decide)))
  have t105 : tT105 X Y W = 27 * c * (3 * E 7 * (E 0 * E 0) + 18446744073709551616 * G 1 0) := (hT 1 0 (by decide)).trans (congrArg (fun v => 27 * c * v) (hG 1 0 (by decide)))
  have t060 : tT060 X Y W = 27 * c * (E 2 * E 2 * E 2 + 18446744073709551616 * G 0 6) := (hT 0 6 (by decide)).trans (congrArg (fun v => 27 * c * v) (hG 0 6 (by decide)))
  have t051 : tT051 X Y W = 27 * c * (3 * (E 2 * E 2) * E 1 + 18446744073709551616 * G 0 5) := (hT 0 5 (by decide)).trans (congrArg (fun v => 27 * c * v) (hG 0 5 (by decide)))
  have t042 : tT042 X Y W = 27 * c * (3 * E 2 * (E 1 * E 1) + 3 * (E 2 * E 2) * E 0 + 18446744073709551616 * G 0 4) := (hT 0 4 (by decide)).trans (congrArg (fun v => 27 * c * v) (hG 0 4 (by decide)))
  have t033 : tT033 X Y W = 27 * c * (E 1 * E 1 * E 1 + 6 * E 2 * (E 0 * E 1) + 18446744073709551616 * G 0 3) := (hT 0 3 (by decide)).trans (congrArg (fun v => 27 * c * v) (hG 0 3 (by decide)))
  have t024 : tT024 X Y W = 27 * c * (3 * E 0 * (E 1 * E 1) + 3 * (E 0 * E 0) * E 2 + 18446744073709551616 * G 0 2) := (hT 0 2 (by decide)).trans (congrArg (fun v => 27 * c * v) (hG 0 2 (by decide)))
  have t015 : tT015 X Y W = 27 * c * (3 * (E 0 * E 0) * E 1 + 18446744073709551616 * G 0 1) := (hT 0 1 (by decide)).trans (congrArg (fun v => 27 * c * v) (hG 0 1 (by decide)))
  have t006 : tT006 X Y W = 27 * c * (E 0 * E 0 * E 0 + 18446744073709551616 * G 0 0) := (hT 0 0 (by decide)).trans (congrArg (fun v => 27 * c * v) (hG 0 0 (by decide)))
  have zl : G 0 3 = 0 := by
    have a' : f 3 = E 1 * E 1 * E 1 + 6 * E 2 * (E 0 * E 1) + 18446744073709551616 * G 0 3 := hG 0 3 (by decide)
    rw [z2] at a'
    try simp only [Int.mul_zero, Int.zero_mul, Int.zero_add, Int.add_zero, Int.mul_assoc] at a'
    try simp only [Int.mul_zero, Int.zero_mul, Int.zero_add, Int.add_zero, Int.mul_assoc] at hl'
    omega
  rw [z14] at t600 t510 t501 t420 t411 t402 t330 t321 t312 t303 t240 t231 t222 t213 t204
  rw [z8] at t510 t420 t411 t330 t321 t312 t240 t231 t222 t213 t150 t141 t132 t123 t114
  rw [z7] at t501 t411 t402 t321 t312 t303 t231 t222 t213 t204 t141 t132 t123 t114 t105
  rw [z2] at t420 t330 t321 t240 t231 t222 t150 t141 t132 t123 t060 t051 t042 t033 t024
  have x060 : tT060 X Y W = 0 := (hT 0 6 (by decide)).trans (by rw [hv 0 6 (by decide) (by decide), Int.mul_zero])
  have x051 : tT051 X Y W = 0 := (hT 0 5 (by decide)).trans (by rw [hv 0 5 (by decide) (by decide), Int.mul_zero])
  have x042 : tT042 X Y W = 0 := (hT 0 4 (by decide)).trans (by rw [hv 0 4 (by decide) (by decide), Int.mul_zero])
  have dh : (3 * (E 1 * E 1) * E 0).natAbs ≤ 9223372036854775808 := by
    have q := hb 0 (by decide) (by decide)
    rw [db3] at q
    exact q
  obtain ⟨w600, w510, w501, w420, w411, w402, w330, w321, w312, w303, w240, w231, w222, w213, w204, w150, w141, w132, w123, w114, w105, w060, w051, w042, w033, w024, w015, w006⟩ := cu3y X Y W hX hY hW c (E 1) (E 0) (G 6 0) (G 5 1) (G 5 0) (G 4 2) (G 4 1) (G 4 0) (G 3 3) (G 3 2) (G 3 1) (G 3 0) (G 2 4) (G 2 3) (G 2 2) (G 2 1) (G 2 0) (G 1 5) (G 1 4) (G 1 3) (G 1 2) (G 1 1) (G 1 0) (G 0 6) (G 0 5) (G 0 4) (G 0 3) (G 0 2) (G 0 1) (G 0 0) hc he x060 x051 x042 zl t600 t510 t501 t420 t411 t402 t330 t321 t312 t303 t240 t231 t222 t213 t204 t150 t141 t132 t123 t114 t105 t060 t051 t042 t033 t024 t015 t006 dh
  refine env_end3 su (fun a b hab => ?_)
  have g0 : G a b = 0 := by
    have ha : a = 0 ∨ a = 1 ∨ a = 2 ∨ a = 3 ∨ a = 4 ∨ a = 5 ∨ a = 6 := by omega
    have hb : b = 0 ∨ b = 1 ∨ b = 2 ∨ b = 3 ∨ b = 4 ∨ b = 5 ∨ b = 6 := by omega
    clear hH hG hT hv hz
    rcases ha with ha | ha | ha | ha | ha | ha | ha <;> rcases hb with hb | hb | hb | hb | hb | hb | hb <;> subst ha <;> subst hb <;> first | (exfalso; omega) | assumption
  rw [hG a b hab, g0, Int.mul_zero, Int.add_zero]
theorem ev6_60 (X Y W : Nat → Int) (hX : bx7 X) (hY : bx7 Y) (hW : bx7 W) (c : Int) (hc : c ≠ 0) (hp : cont X Y W c) (f E : Nat → Int) (hT : ∀ a b, a + b ≤ 6 → tTf X Y W a b = 27 * c * f (7 * a + b)) (z : zr 6 6 0 f E) : TP 6 f E := by
  obtain ⟨su0, hl, hne, hz, hb, hv, H, pH, hH⟩ := z
  have su1 : SUi E 1 := su0
  have su := su1
  obtain ⟨G, hG⟩ := env_G6 su pH hH
  have hl' : ipw (E 7) 6 = f 42 := hl
  rw [lb6] at hl'
  have he : E 7 ≠ 0 := hne
  have t600 : tT600 X Y W = 27 * c * (E 7 * (E 7 * (E 7 * (E 7 * (E 7 * E 7)))) + 18446744073709551616 * G 6 0) := (hT 6 0 (by decide)).trans (congrArg (fun v => 27 * c * v) (hG 6 0 (by decide)))
  have t510 : tT510 X Y W = 27 * c * (6 * (E 7 * (E 7 * (E 7 * (E 7 * (E 7 * E 1))))) + 18446744073709551616 * G 5 1) := (hT 5 1 (by decide)).trans (congrArg (fun v => 27 * c * v) (hG 5 1 (by decide)))
  have t501 : tT501 X Y W = 27 * c * (6 * (E 7 * (E 7 * (E 7 * (E 7 * (E 7 * E 0))))) + 18446744073709551616 * G 5 0) := (hT 5 0 (by decide)).trans (congrArg (fun v => 27 * c * v) (hG 5 0 (by decide)))
  have t420 : tT420 X Y W = 27 * c * (15 * (E 7 * (E 7 * (E 7 * (E 7 * (E 1 * E 1))))) + 18446744073709551616 * G 4 2) := (hT 4 2 (by decide)).trans (congrArg (fun v => 27 * c * v) (hG 4 2 (by decide)))
  have t411 : tT411 X Y W = 27 * c * (30 * (E 7 * (E 7 * (E 7 * (E 7 * (E 1 * E 0))))) + 18446744073709551616 * G 4 1) := (hT 4 1 (by decide)).trans (congrArg (fun v => 27 * c * v) (hG 4 1 (by decide)))
  have t402 : tT402 X Y W = 27 * c * (15 * (E 7 * (E 7 * (E 7 * (E 7 * (E 0 * E 0))))) + 18446744073709551616 * G 4 0) := (hT 4 0 (by decide)).trans (congrArg (fun v => 27 * c * v) (hG 4 0 (by decide)))
  have t330 : tT330 X Y W = 27 * c * (20 * (E 7 * (E 7 * (E 7 * (E 1 * (E 1 * E 1))))) + 18446744073709551616 * G 3 3) := (hT 3 3 (by decide)).trans (congrArg (fun v => 27 * c * v) (hG 3 3 (by decide)))
  have t321 : tT321 X Y W = 27 * c * (60 * (E 7 * (E 7 * (E 7 * (E 1 * (E 1 * E 0))))) + 18446744073709551616 * G 3 2) := (hT 3 2 (by decide)).trans (congrArg (fun v => 27 * c * v) (hG 3 2 (by decide)))
  have t312 : tT312 X Y W = 27 * c * (60 * (E 7 * (E 7 * (E 7 * (E 1 * (E 0 * E 0))))) + 18446744073709551616 * G 3 1) := (hT 3 1 (by decide)).trans (congrArg (fun v => 27 * c * v) (hG 3 1 (by decide)))
  have t303 : tT303 X Y W = 27 * c * (20 * (E 7 * (E 7 * (E 7 * (E 0 * (E 0 * E 0))))) + 18446744073709551616 * G 3 0) := (hT 3 0 (by decide)).trans (congrArg (fun v => 27 * c * v) (hG 3 0 (by decide)))
  have t240 : tT240 X Y W = 27 * c * (15 * (E 7 * (E 7 * (E 1 * (E 1 * (E 1 * E 1))))) + 18446744073709551616 * G 2 4) := (hT 2 4 (by decide)).trans (congrArg (fun v => 27 * c * v) (hG 2 4 (by decide)))
  have t231 : tT231 X Y W = 27 * c * (60 * (E 7 * (E 7 * (E 1 * (E 1 * (E 1 * E 0))))) + 18446744073709551616 * G 2 3) := (hT 2 3 (by decide)).trans (congrArg (fun v => 27 * c * v) (hG 2 3 (by decide)))
  have t222 : tT222 X Y W = 27 * c * (90 * (E 7 * (E 7 * (E 1 * (E 1 * (E 0 * E 0))))) + 18446744073709551616 * G 2 2) := (hT 2 2 (by decide)).trans (congrArg (fun v => 27 * c * v) (hG 2 2 (by decide)))
  have t213 : tT213 X Y W = 27 * c * (60 * (E 7 * (E 7 * (E 1 * (E 0 * (E 0 * E 0))))) + 18446744073709551616 * G 2 1) := (hT 2 1 (by decide)).trans (congrArg (fun v => 27 * c * v) (hG 2 1 (by decide)))
  have t204 : tT204 X Y W = 27 * c * (15 * (E 7 * (E 7 * (E 0 * (E 0 * (E 0 * E 0))))) + 18446744073709551616 * G 2 0) := (hT 2 0 (by decide)).trans (congrArg (fun v => 27 * c * v) (hG 2 0 (by decide)))
  have t150 : tT150 X Y W = 27 * c * (6 * (E 7 * (E 1 * (E 1 * (E 1 * (E 1 * E 1))))) + 18446744073709551616 * G 1 5) := (hT 1 5 (by decide)).trans (congrArg (fun v => 27 * c * v) (hG 1 5 (by decide)))
  have t141 : tT141 X Y W = 27 * c * (30 * (E 7 * (E 1 * (E 1 * (E 1 * (E 1 * E 0))))) + 18446744073709551616 * G 1 4) := (hT 1 4 (by decide)).trans (congrArg (fun v => 27 * c * v) (hG 1 4 (by decide)))
  have t132 : tT132 X Y W = 27 * c * (60 * (E 7 * (E 1 * (E 1 * (E 1 * (E 0 * E 0))))) + 18446744073709551616 * G 1 3) := (hT 1 3 (by decide)).trans (congrArg (fun v => 27 * c * v) (hG 1 3 (by decide)))
  have t123 : tT123 X Y W = 27 * c * (60 * (E 7 * (E 1 * (E 1 * (E 0 * (E 0 * E 0))))) + 18446744073709551616 * G 1 2) := (hT 1 2 (by decide)).trans (congrArg (fun v => 27 * c * v) (hG 1 2 (by decide)))
  have t114 : tT114 X Y W = 27 * c * (30 * (E 7 * (E 1 * (E 0 * (E 0 * (E 0 * E 0))))) + 18446744073709551616 * G 1 1) := (hT 1 1 (by decide)).trans (congrArg (fun v => 27 * c * v) (hG 1 1 (by decide)))
  have t105 : tT105 X Y W = 27 * c * (6 * (E 7 * (E 0 * (E 0 * (E 0 * (E 0 * E 0))))) + 18446744073709551616 * G 1 0) := (hT 1 0 (by decide)).trans (congrArg (fun v => 27 * c * v) (hG 1 0 (by decide)))
  have t060 : tT060 X Y W = 27 * c * (E 1 * (E 1 * (E 1 * (E 1 * (E 1 * E 1)))) + 18446744073709551616 * G 0 6) := (hT 0 6 (by decide)).trans (congrArg (fun v => 27 * c * v) (hG 0 6 (by decide)))
  have t051 : tT051 X Y W = 27 * c * (6 * (E 1 * (E 1 * (E 1 * (E 1 * (E 1 * E 0))))) + 18446744073709551616 * G 0 5) := (hT 0 5 (by decide)).trans (congrArg (fun v => 27 * c * v) (hG 0 5 (by decide)))
  have t042 : tT042 X Y W = 27 * c * (15 * (E 1 * (E 1 * (E 1 * (E 1 * (E 0 * E 0))))) + 18446744073709551616 * G 0 4) := (hT 0 4 (by decide)).trans (congrArg (fun v => 27 * c * v) (hG 0 4 (by decide)))
  have t033 : tT033 X Y W = 27 * c * (20 * (E 1 * (E 1 * (E 1 * (E 0 * (E 0 * E 0))))) + 18446744073709551616 * G 0 3) := (hT 0 3 (by decide)).trans (congrArg (fun v => 27 * c * v) (hG 0 3 (by decide)))
  have t024 : tT024 X Y W = 27 * c * (15 * (E 1 * (E 1 * (E 0 * (E 0 * (E 0 * E 0))))) + 18446744073709551616 * G 0 2) := (hT 0 2 (by decide)).trans (congrArg (fun v => 27 * c * v) (hG 0 2 (by decide)))
  have t015 : tT015 X Y W = 27 * c * (6 * (E 1 * (E 0 * (E 0 * (E 0 * (E 0 * E 0))))) + 18446744073709551616 * G 0 1) := (hT 0 1 (by decide)).trans (congrArg (fun v => 27 * c * v) (hG 0 1 (by decide)))
  have t006 : tT006 X Y W = 27 * c * (E 0 * (E 0 * (E 0 * (E 0 * (E 0 * E 0)))) + 18446744073709551616 * G 0 0) := (hT 0 0 (by decide)).trans (congrArg (fun v => 27 * c * v) (hG 0 0 (by decide)))
  have zl : G 6 0 = 0 := by
    have a' : f 42 = E 7 * (E 7 * (E 7 * (E 7 * (E 7 * E 7)))) + 18446744073709551616 * G 6 0 := hG 6 0 (by decide)
    try simp only [Int.mul_zero, Int.zero_mul, Int.zero_add, Int.add_zero, Int.mul_assoc] at a'
    try simp only [Int.mul_zero, Int.zero_mul, Int.zero_add, Int.add_zero, Int.mul_assoc] at hl'
    omega
  have dg : (6 * (E 7 * (E 7 * (E 7 * (E 7 * (E 7 * (E 1))))))).natAbs ≤ 9223372036854775808 := by
    have q := hb 1 (by decide) (by decide)
    rw [db6] at q
    exact q
  have dh : (6 * (E 7 * (E 7 * (E 7 * (E 7 * (E 7 * (E 0))))))).natAbs ≤ 9223372036854775808 := by
    have q := hb 0 (by decide) (by decide)
    rw [db6] at q
    exact q
  obtain ⟨w600, w510, w501, w420, w411, w402, w330, w321, w312, w303, w240, w231, w222, w213, w204, w150, w141, w132, w123, w114, w105, w060, w051, w042, w033, w024, w015, w006⟩ := ln6x X Y W hX hY hW c (E 7) (E 1) (E 0) (G 6 0) (G 5 1) (G 5 0) (G 4 2) (G 4 1) (G 4 0) (G 3 3) (G 3 2) (G 3 1) (G 3 0) (G 2 4) (G 2 3) (G 2 2) (G 2 1) (G 2 0) (G 1 5) (G 1 4) (G 1 3) (G 1 2) (G 1 1) (G 1 0) (G 0 6) (G 0 5) (G 0 4) (G 0 3) (G 0 2) (G 0 1) (G 0 0) hc he  zl t600 t510 t501 t420 t411 t402 t330 t321 t312 t303 t240 t231 t222 t213 t204 t150 t141 t132 t123 t114 t105 t060 t051 t042 t033 t024 t015 t006 dg dh
  refine env_end6 su (fun a b hab => ?_)
  have g0 : G a b = 0 := by
    have ha : a = 0 ∨ a = 1 ∨ a = 2 ∨ a = 3 ∨ a = 4 ∨ a = 5 ∨ a = 6 := by omega
    have hb : b = 0 ∨ b = 1 ∨ b = 2 ∨ b = 3 ∨ b = 4 ∨ b = 5 ∨ b = 6 := by omega
    clear hH hG hT hv hz
    rcases ha with ha | ha | ha | ha | ha | ha | ha <;> rcases hb with hb | hb | hb | hb | hb | hb | hb <;> subst ha <;> subst hb <;> first | (exfalso; omega) | assumption
  rw [hG a b hab, g0, Int.mul_zero, Int.add_zero]
theorem ev6_06 (X Y W : Nat → Int) (hX : bx7 X) (hY : bx7 Y) (hW : bx7 W) (c : Int) (hc : c ≠ 0) (hp : cont X Y W c) (f E : Nat → Int) (hT : ∀ a b, a + b ≤ 6 → tTf X Y W a b = 27 * c * f (7 * a + b)) (z : zr 6 0 6 f E) : TP 6 f E := by
  obtain ⟨su0, hl, hne, hz, hb, hv, H, pH, hH⟩ := z
  have su1 : SUi E 1 := su0
  have su := su1
  obtain ⟨G, hG⟩ := env_G6 su pH hH
  have hl' : ipw (E 1) 6 = f 6 := hl
  rw [lb6] at hl'
  have he : E 1 ≠ 0 := hne
  have z7 : E 7 = 0 := hz 1 0 (by decide) (by decide)
  have t600 : tT600 X Y W = 27 * c * (E 7 * (E 7 * (E 7 * (E 7 * (E 7 * E 7)))) + 18446744073709551616 * G 6 0) := (hT 6 0 (by decide)).trans (congrArg (fun v => 27 * c * v) (hG 6 0 (by decide)))
  have t510 : tT510 X Y W = 27 * c * (6 * (E 7 * (E 7 * (E 7 * (E 7 * (E 7 * E 1))))) + 18446744073709551616 * G 5 1) := (hT 5 1 (by decide)).trans (congrArg (fun v => 27 * c * v) (hG 5 1 (by decide)))
  have t501 : tT501 X Y W = 27 * c * (6 * (E 7 * (E 7 * (E 7 * (E 7 * (E 7 * E 0))))) + 18446744073709551616 * G 5 0) := (hT 5 0 (by decide)).trans (congrArg (fun v => 27 * c * v) (hG 5 0 (by decide)))
  have t420 : tT420 X Y W = 27 * c * (15 * (E 7 * (E 7 * (E 7 * (E 7 * (E 1 * E 1))))) + 18446744073709551616 * G 4 2) := (hT 4 2 (by decide)).trans (congrArg (fun v => 27 * c * v) (hG 4 2 (by decide)))
  have t411 : tT411 X Y W = 27 * c * (30 * (E 7 * (E 7 * (E 7 * (E 7 * (E 1 * E 0))))) + 18446744073709551616 * G 4 1) := (hT 4 1 (by decide)).trans (congrArg (fun v => 27 * c * v) (hG 4 1 (by decide)))
  have t402 : tT402 X Y W = 27 * c * (15 * (E 7 * (E 7 * (E 7 * (E 7 * (E 0 * E 0))))) + 18446744073709551616 * G 4 0) := (hT 4 0 (by decide)).trans (congrArg (fun v => 27 * c * v) (hG 4 0 (by decide)))
  have t330 : tT330 X Y W = 27 * c * (20 * (E 7 * (E 7 * (E 7 * (E 1 * (E 1 * E 1))))) + 18446744073709551616 * G 3 3) := (hT 3 3 (by decide)).trans (congrArg (fun v => 27 * c * v) (hG 3 3 (by decide)))
  have t321 : tT321 X Y W = 27 * c * (60 * (E 7 * (E 7 * (E 7 * (E 1 * (E 1 * E 0))))) + 18446744073709551616 * G 3 2) := (hT 3 2 (by decide)).trans (congrArg (fun v => 27 * c * v) (hG 3 2 (by decide)))
  have t312 : tT312 X Y W = 27 * c * (60 * (E 7 * (E 7 * (E 7 * (E 1 * (E 0 * E 0))))) + 18446744073709551616 * G 3 1) := (hT 3 1 (by decide)).trans (congrArg (fun v => 27 * c * v) (hG 3 1 (by decide)))
  have t303 : tT303 X Y W = 27 * c * (20 * (E 7 * (E 7 * (E 7 * (E 0 * (E 0 * E 0))))) + 18446744073709551616 * G 3 0) := (hT 3 0 (by decide)).trans (congrArg (fun v => 27 * c * v) (hG 3 0 (by decide)))
  have t240 : tT240 X Y W = 27 * c * (15 * (E 7 * (E 7 * (E 1 * (E 1 * (E 1 * E 1))))) + 18446744073709551616 * G 2 4) := (hT 2 4 (by decide)).trans (congrArg (fun v => 27 * c * v) (hG 2 4 (by decide)))
  have t231 : tT231 X Y W = 27 * c * (60 * (E 7 * (E 7 * (E 1 * (E 1 * (E 1 * E 0))))) + 18446744073709551616 * G 2 3) := (hT 2 3 (by decide)).trans (congrArg (fun v => 27 * c * v) (hG 2 3 (by decide)))
  have t222 : tT222 X Y W = 27 * c * (90 * (E 7 * (E 7 * (E 1 * (E 1 * (E 0 * E 0))))) + 18446744073709551616 * G 2 2) := (hT 2 2 (by decide)).trans (congrArg (fun v => 27 * c * v) (hG 2 2 (by decide)))
  have t213 : tT213 X Y W = 27 * c * (60 * (E 7 * (E 7 * (E 1 * (E 0 * (E 0 * E 0))))) + 18446744073709551616 * G 2 1) := (hT 2 1 (by decide)).trans (congrArg (fun v => 27 * c * v) (hG 2 1 (by decide)))
  have t204 : tT204 X Y W = 27 * c * (15 * (E 7 * (E 7 * (E 0 * (E 0 * (E 0 * E 0))))) + 18446744073709551616 * G 2 0) := (hT 2 0 (by decide)).trans (congrArg (fun v => 27 * c * v) (hG 2 0 (by decide)))
  have t150 : tT150 X Y W = 27 * c * (6 * (E 7 * (E 1 * (E 1 * (E 1 * (E 1 * E 1))))) + 18446744073709551616 * G 1 5) := (hT 1 5 (by decide)).trans (congrArg (fun v => 27 * c * v) (hG 1 5 (by decide)))
  have t141 : tT141 X Y W = 27 * c * (30 * (E 7 * (E 1 * (E 1 * (E 1 * (E 1 * E 0))))) + 18446744073709551616 * G 1 4) := (hT 1 4 (by decide)).trans (congrArg (fun v => 27 * c * v) (hG 1 4 (by decide)))
  have t132 : tT132 X Y W = 27 * c * (60 * (E 7 * (E 1 * (E 1 * (E 1 * (E 0 * E 0))))) + 18446744073709551616 * G 1 3) := (hT 1 3 (by decide)).trans (congrArg (fun v => 27 * c * v) (hG 1 3 (by decide)))
  have t123 : tT123 X Y W = 27 * c * (60 * (E 7 * (E 1 * (E 1 * (E 0 * (E 0 * E 0))))) + 18446744073709551616 * G 1 2) := (hT 1 2 (by decide)).trans (congrArg (fun v => 27 * c * v) (hG 1 2 (by decide)))
  have t114 : tT114 X Y W = 27 * c * (30 * (E 7 * (E 1 * (E 0 * (E 0 * (E 0 * E 0))))) + 18446744073709551616 * G 1 1) := (hT 1 1 (by decide)).trans (congrArg (fun v => 27 * c * v) (hG 1 1 (by decide)))
  have t105 : tT105 X Y W = 27 * c * (6 * (E 7 * (E 0 * (E 0 * (E 0 * (E 0 * E 0))))) + 18446744073709551616 * G 1 0) := (hT 1 0 (by decide)).trans (congrArg (fun v => 27 * c * v) (hG 1 0 (by decide)))
  have t060 : tT060 X Y W = 27 * c * (E 1 * (E 1 * (E 1 * (E 1 * (E 1 * E 1)))) + 18446744073709551616 * G 0 6) := (hT 0 6 (by decide)).trans (congrArg (fun v => 27 * c * v) (hG 0 6 (by decide)))
  have t051 : tT051 X Y W = 27 * c * (6 * (E 1 * (E 1 * (E 1 * (E 1 * (E 1 * E 0))))) + 18446744073709551616 * G 0 5) := (hT 0 5 (by decide)).trans (congrArg (fun v => 27 * c * v) (hG 0 5 (by decide)))
  have t042 : tT042 X Y W = 27 * c * (15 * (E 1 * (E 1 * (E 1 * (E 1 * (E 0 * E 0))))) + 18446744073709551616 * G 0 4) := (hT 0 4 (by decide)).trans (congrArg (fun v => 27 * c * v) (hG 0 4 (by decide)))
  have t033 : tT033 X Y W = 27 * c * (20 * (E 1 * (E 1 * (E 1 * (E 0 * (E 0 * E 0))))) + 18446744073709551616 * G 0 3) := (hT 0 3 (by decide)).trans (congrArg (fun v => 27 * c * v) (hG 0 3 (by decide)))
  have t024 : tT024 X Y W = 27 * c * (15 * (E 1 * (E 1 * (E 0 * (E 0 * (E 0 * E 0))))) + 18446744073709551616 * G 0 2) := (hT 0 2 (by decide)).trans (congrArg (fun v => 27 * c * v) (hG 0 2 (by decide)))
  have t015 : tT015 X Y W = 27 * c * (6 * (E 1 * (E 0 * (E 0 * (E 0 * (E 0 * E 0))))) + 18446744073709551616 * G 0 1) := (hT 0 1 (by decide)).trans (congrArg (fun v => 27 * c * v) (hG 0 1 (by decide)))
  have t006 : tT006 X Y W = 27 * c * (E 0 * (E 0 * (E 0 * (E 0 * (E 0 * E 0)))) + 18446744073709551616 * G 0 0) := (hT 0 0 (by decide)).trans (congrArg (fun v => 27 * c * v) (hG 0 0 (by decide)))
  have zl : G 0 6 = 0 := by
    have a' : f 6 = E 1 * (E 1 * (E 1 * (E 1 * (E 1 * E 1)))) + 18446744073709551616 * G 0 6 := hG 0 6 (by decide)
    try simp only [Int.mul_zero, Int.zero_mul, Int.zero_add, Int.add_zero, Int.mul_assoc] at a'
    try simp only [Int.mul_zero, Int.zero_mul, Int.zero_add, Int.add_zero, Int.mul_assoc] at hl'
    omega
  rw [z7] at t600 t510 t501 t420 t411 t402 t330 t321 t312 t303 t240 t231 t222 t213 t204 t150 t141 t132 t123 t114 t105
  have dh : (6 * (E 1 * (E 1 * (E 1 * (E 1 * (E 1 * (E 0))))))).natAbs ≤ 9223372036854775808 := by
    have q := hb 0 (by decide) (by decide)
    rw [db6] at q
    exact q
  obtain ⟨w600, w510, w501, w420, w411, w402, w330, w321, w312, w303, w240, w231, w222, w213, w204, w150, w141, w132, w123, w114, w105, w060, w051, w042, w033, w024, w015, w006⟩ := ln6y X Y W hX hY hW c (E 1) (E 0) (G 6 0) (G 5 1) (G 5 0) (G 4 2) (G 4 1) (G 4 0) (G 3 3) (G 3 2) (G 3 1) (G 3 0) (G 2 4) (G 2 3) (G 2 2) (G 2 1) (G 2 0) (G 1 5) (G 1 4) (G 1 3) (G 1 2) (G 1 1) (G 1 0) (G 0 6) (G 0 5) (G 0 4) (G 0 3) (G 0 2) (G 0 1) (G 0 0) hc he  zl (t600.trans (congrArg (fun v => 27 * c * v) (rl6_600 (E 1) (E 0) (G 6 0)))) (t510.trans (congrArg (fun v => 27 * c * v) (rl6_510 (E 1) (E 0) (G 5 1)))) (t501.trans (congrArg (fun v => 27 * c * v) (rl6_501 (E 1) (E 0) (G 5 0)))) (t420.trans (congrArg (fun v => 27 * c * v) (rl6_420 (E 1) (E 0) (G 4 2)))) (t411.trans (congrArg (fun v => 27 * c * v) (rl6_411 (E 1) (E 0) (G 4 1)))) (t402.trans (congrArg (fun v => 27 * c * v) (rl6_402 (E 1) (E 0) (G 4 0)))) (t330.trans (congrArg (fun v => 27 * c * v) (rl6_330 (E 1) (E 0) (G 3 3)))) (t321.trans (congrArg (fun v => 27 * c * v) (rl6_321 (E 1) (E 0) (G 3 2)))) (t312.trans (congrArg (fun v => 27 * c * v) (rl6_312 (E 1) (E 0) (G 3 1)))) (t303.trans (congrArg (fun v => 27 * c * v) (rl6_303 (E 1) (E 0) (G 3 0)))) (t240.trans (congrArg (fun v => 27 * c * v) (rl6_240 (E 1) (E 0) (G 2 4)))) (t231.trans (congrArg (fun v => 27 * c * v) (rl6_231 (E 1) (E 0) (G 2 3)))) (t222.trans (congrArg (fun v => 27 * c * v) (rl6_222 (E 1) (E 0) (G 2 2)))) (t213.trans (congrArg (fun v => 27 * c * v) (rl6_213 (E 1) (E 0) (G 2 1)))) (t204.trans (congrArg (fun v => 27 * c * v) (rl6_204 (E 1) (E 0) (G 2 0)))) (t150.trans (congrArg (fun v => 27 * c * v) (rl6_150 (E 1) (E 0) (G 1 5)))) (t141.trans (congrArg (fun v => 27 * c * v) (rl6_141 (E 1) (E 0) (G 1 4)))) (t132.trans (congrArg (fun v => 27 * c * v) (rl6_132 (E 1) (E 0) (G 1 3)))) (t123.trans (congrArg (fun v => 27 * c * v) (rl6_123 (E 1) (E 0) (G 1 2)))) (t114.trans (congrArg (fun v => 27 * c * v) (rl6_114 (E 1) (E 0) (G 1 1)))) (t105.trans (congrArg (fun v => 27 * c * v) (rl6_105 (E 1) (E 0) (G 1 0)))) (t060.trans (congrArg (fun v => 27 * c * v) (rl6_060 (E 1) (E 0) (G 0 6)))) (t051.trans (congrArg (fun v => 27 * c * v) (rl6_051 (E 1) (E 0) (G 0 5)))) (t042.trans (congrArg (fun v => 27 * c * v) (rl6_042 (E 1) (E 0) (G 0 4)))) (t033.trans (congrArg (fun v => 27 * c * v) (rl6_033 (E 1) (E 0) (G 0 3)))) (t024.trans (congrArg (fun v => 27 * c * v) (rl6_024 (E 1) (E 0) (G 0 2)))) (t015.trans (congrArg (fun v => 27 * c * v) (rl6_015 (E 1) (E 0) (G 0 1)))) (t006.trans (congrArg (fun v => 27 * c * v) (rl6_006 (E 1) (E 0) (G 0 0)))) dh
  refine env_end6 su (fun a b hab => ?_)
  have g0 : G a b = 0 := by
    have ha : a = 0 ∨ a = 1 ∨ a = 2 ∨ a = 3 ∨ a = 4 ∨ a = 5 ∨ a = 6 := by omega
    have hb : b = 0 ∨ b = 1 ∨ b = 2 ∨ b = 3 ∨ b = 4 ∨ b = 5 ∨ b = 6 := by omega
    clear hH hG hT hv hz
    rcases ha with ha | ha | ha | ha | ha | ha | ha <;> rcases hb with hb | hb | hb | hb | hb | hb | hb <;> subst ha <;> subst hb <;> first | (exfalso; omega) | assumption
  rw [hG a b hab, g0, Int.mul_zero, Int.add_zero]
theorem ev5_50 (X Y W : Nat → Int) (hX : bx7 X) (hY : bx7 Y) (hW : bx7 W) (c : Int) (hc : c ≠ 0) (hp : cont X Y W c) (f E : Nat → Int) (hT : ∀ a b, a + b ≤ 6 → tTf X Y W a b = 27 * c * f (7 * a + b)) (z : zr 5 5 0 f E) : TP 5 f E := by
  obtain ⟨su0, hl, hne, hz, hb, hv, H, pH, hH⟩ := z
  have su1 : SUi E 1 := su0
  have su := su1
  obtain ⟨G, hG⟩ := env_G5 su pH hH
  have hl' : ipw (E 7) 5 = f 35 := hl
  rw [lb5] at hl'
  have he : E 7 ≠ 0 := hne
  have t600 : tT600 X Y W = 27 * c * (0 + 18446744073709551616 * G 6 0) := (hT 6 0 (by decide)).trans (congrArg (fun v => 27 * c * v) (hG 6 0 (by decide)))
  have t510 : tT510 X Y W = 27 * c * (0 + 18446744073709551616 * G 5 1) := (hT 5 1 (by decide)).trans (congrArg (fun v => 27 * c * v) (hG 5 1 (by decide)))
  have t501 : tT501 X Y W = 27 * c * (E 7 * (E 7 * (E 7 * (E 7 * E 7))) + 18446744073709551616 * G 5 0) := (hT 5 0 (by decide)).trans (congrArg (fun v => 27 * c * v) (hG 5 0 (by decide)))
  have t420 : tT420 X Y W = 27 * c * (0 + 18446744073709551616 * G 4 2) := (hT 4 2 (by decide)).trans (congrArg (fun v => 27 * c * v) (hG 4 2 (by decide)))
  have t411 : tT411 X Y W = 27 * c * (5 * (E 7 * (E 7 * (E 7 * (E 7 * E 1)))) + 18446744073709551616 * G 4 1) := (hT 4 1 (by decide)).trans (congrArg (fun v => 27 * c * v) (hG 4 1 (by decide)))
  have t402 : tT402 X Y W = 27 * c * (5 * (E 7 * (E 7 * (E 7 * (E 7 * E 0)))) + 18446744073709551616 * G 4 0) := (hT 4 0 (by decide)).trans (congrArg (fun v => 27 * c * v) (hG 4 0 (by decide)))
  have t330 : tT330 X Y W = 27 * c * (0 + 18446744073709551616 * G 3 3) := (hT 3 3 (by decide)).trans (congrArg (fun v => 27 * c * v) (hG 3 3 (by decide)))
  have t321 : tT321 X Y W = 27 * c * (10 * (E 7 * (E 7 * (E 7 * (E 1 * E 1)))) + 18446744073709551616 * G 3 2) := (hT 3 2 (by decide)).trans (congrArg (fun v => 27 * c * v) (hG 3 2 (by decide)))
  have t312 : tT312 X Y W = 27 * c * (20 * (E 7 * (E 7 * (E 7 * (E 1 * E 0)))) + 18446744073709551616 * G 3 1) := (hT 3 1 (by decide)).trans (congrArg (fun v => 27 * c * v) (hG 3 1 (by decide)))
  have t303 : tT303 X Y W = 27 * c * (10 * (E 7 * (E 7 * (E 7 * (E 0 * E 0)))) + 18446744073709551616 * G 3 0) := (hT 3 0 (by decide)).trans (congrArg (fun v => 27 * c * v) (hG 3 0 (by decide)))
  have t240 : tT240 X Y W = 27 * c * (0 + 18446744073709551616 * G 2 4) := (hT 2 4 (by decide)).trans (congrArg (fun v => 27 * c * v) (hG 2 4 (by decide)))
  have t231 : tT231 X Y W = 27 * c * (10 * (E 7 * (E 7 * (E 1 * (E 1 * E 1)))) + 18446744073709551616 * G 2 3) := (hT 2 3 (by decide)).trans (congrArg (fun v => 27 * c * v) (hG 2 3 (by decide)))
  have t222 : tT222 X Y W = 27 * c * (30 * (E 7 * (E 7 * (E 1 * (E 1 * E 0)))) + 18446744073709551616 * G 2 2) := (hT 2 2 (by decide)).trans (congrArg (fun v => 27 * c * v) (hG 2 2 (by decide)))
  have t213 : tT213 X Y W = 27 * c * (30 * (E 7 * (E 7 * (E 1 * (E 0 * E 0)))) + 18446744073709551616 * G 2 1) := (hT 2 1 (by decide)).trans (congrArg (fun v => 27 * c * v) (hG 2 1 (by decide)))
  have t204 : tT204 X Y W = 27 * c * (10 * (E 7 * (E 7 * (E 0 * (E 0 * E 0)))) + 18446744073709551616 * G 2 0) := (hT 2 0 (by decide)).trans (congrArg (fun v => 27 * c * v) (hG 2 0 (by decide)))
  have t150 : tT150 X Y W = 27 * c * (0 + 18446744073709551616 * G 1 5) := (hT 1 5 (by decide)).trans (congrArg (fun v => 27 * c * v) (hG 1 5 (by decide)))
  have t141 : tT141 X Y W = 27 * c * (5 * (E 7 * (E 1 * (E 1 * (E 1 * E 1)))) + 18446744073709551616 * G 1 4) := (hT 1 4 (by decide)).trans (congrArg (fun v => 27 * c * v) (hG 1 4 (by decide)))
  have t132 : tT132 X Y W = 27 * c * (20 * (E 7 * (E 1 * (E 1 * (E 1 * E 0)))) + 18446744073709551616 * G 1 3) := (hT 1 3 (by decide)).trans (congrArg (fun v => 27 * c * v) (hG 1 3 (by decide)))
  have t123 : tT123 X Y W = 27 * c * (30 * (E 7 * (E 1 * (E 1 * (E 0 * E 0)))) + 18446744073709551616 * G 1 2) := (hT 1 2 (by decide)).trans (congrArg (fun v => 27 * c * v) (hG 1 2 (by decide)))
  have t114 : tT114 X Y W = 27 * c * (20 * (E 7 * (E 1 * (E 0 * (E 0 * E 0)))) + 18446744073709551616 * G 1 1) := (hT 1 1 (by decide)).trans (congrArg (fun v => 27 * c * v) (hG 1 1 (by decide)))
  have t105 : tT105 X Y W = 27 * c * (5 * (E 7 * (E 0 * (E 0 * (E 0 * E 0)))) + 18446744073709551616 * G 1 0) := (hT 1 0 (by decide)).trans (congrArg (fun v => 27 * c * v) (hG 1 0 (by decide)))
  have t060 : tT060 X Y W = 27 * c * (0 + 18446744073709551616 * G 0 6) := (hT 0 6 (by decide)).trans (congrArg (fun v => 27 * c * v) (hG 0 6 (by decide)))
  have t051 : tT051 X Y W = 27 * c * (E 1 * (E 1 * (E 1 * (E 1 * E 1))) + 18446744073709551616 * G 0 5) := (hT 0 5 (by decide)).trans (congrArg (fun v => 27 * c * v) (hG 0 5 (by decide)))
  have t042 : tT042 X Y W = 27 * c * (5 * (E 1 * (E 1 * (E 1 * (E 1 * E 0)))) + 18446744073709551616 * G 0 4) := (hT 0 4 (by decide)).trans (congrArg (fun v => 27 * c * v) (hG 0 4 (by decide)))
  have t033 : tT033 X Y W = 27 * c * (10 * (E 1 * (E 1 * (E 1 * (E 0 * E 0)))) + 18446744073709551616 * G 0 3) := (hT 0 3 (by decide)).trans (congrArg (fun v => 27 * c * v) (hG 0 3 (by decide)))
  have t024 : tT024 X Y W = 27 * c * (10 * (E 1 * (E 1 * (E 0 * (E 0 * E 0)))) + 18446744073709551616 * G 0 2) := (hT 0 2 (by decide)).trans (congrArg (fun v => 27 * c * v) (hG 0 2 (by decide)))
  have t015 : tT015 X Y W = 27 * c * (5 * (E 1 * (E 0 * (E 0 * (E 0 * E 0)))) + 18446744073709551616 * G 0 1) := (hT 0 1 (by decide)).trans (congrArg (fun v => 27 * c * v) (hG 0 1 (by decide)))
  have t006 : tT006 X Y W = 27 * c * (E 0 * (E 0 * (E 0 * (E 0 * E 0))) + 18446744073709551616 * G 0 0) := (hT 0 0 (by decide)).trans (congrArg (fun v => 27 * c * v) (hG 0 0 (by decide)))
  have zl : G 5 0 = 0 := by
    have a' : f 35 = E 7 * (E 7 * (E 7 * (E 7 * E 7))) + 18446744073709551616 * G 5 0 := hG 5 0 (by decide)
    try simp only [Int.mul_zero, Int.zero_mul, Int.zero_add, Int.add_zero, Int.mul_assoc] at a'
    try simp only [Int.mul_zero, Int.zero_mul, Int.zero_add, Int.add_zero, Int.mul_assoc] at hl'
    omega
  have dg : (5 * (E 7 * (E 7 * (E 7 * (E 7 * (E 1)))))).natAbs ≤ 9223372036854775808 := by
    have q := hb 1 (by decide) (by decide)
    rw [db5] at q
    exact q
  have dh : (5 * (E 7 * (E 7 * (E 7 * (E 7 * (E 0)))))).natAbs ≤ 9223372036854775808 := by
    have q := hb 0 (by decide) (by decide)
    rw [db5] at q
    exact q
  obtain ⟨w600, w510, w501, w420, w411, w402, w330, w321, w312, w303, w240, w231, w222, w213, w204, w150, w141, w132, w123, w114, w105, w060, w051, w042, w033, w024, w015, w006⟩ := ln5x X Y W hX hY hW c (E 7) (E 1) (E 0) (G 6 0) (G 5 1) (G 5 0) (G 4 2) (G 4 1) (G 4 0) (G 3 3) (G 3 2) (G 3 1) (G 3 0) (G 2 4) (G 2 3) (G 2 2) (G 2 1) (G 2 0) (G 1 5) (G 1 4) (G 1 3) (G 1 2) (G 1 1) (G 1 0) (G 0 6) (G 0 5) (G 0 4) (G 0 3) (G 0 2) (G 0 1) (G 0 0) hc he  zl t600 t510 t501 t420 t411 t402 t330 t321 t312 t303 t240 t231 t222 t213 t204 t150 t141 t132 t123 t114 t105 t060 t051 t042 t033 t024 t015 t006 dg dh
  refine env_end5 su (fun a b hab => ?_)
  have g0 : G a b = 0 := by
    have ha : a = 0 ∨ a = 1 ∨ a = 2 ∨ a = 3 ∨ a = 4 ∨ a = 5 ∨ a = 6 := by omega
    have hb : b = 0 ∨ b = 1 ∨ b = 2 ∨ b = 3 ∨ b = 4 ∨ b = 5 ∨ b = 6 := by omega
    clear hH hG hT hv hz
    rcases ha with ha | ha | ha | ha | ha | ha | ha <;> rcases hb with hb | hb | hb | hb | hb | hb | hb <;> subst ha <;> subst hb <;> first | (exfalso; omega) | assumption
  rw [hG a b hab, g0, Int.mul_zero, Int.add_zero]
theorem ev5_05 (X Y W : Nat → Int) (hX : bx7 X) (hY : bx7 Y) (hW : bx7 W) (c : Int) (hc : c ≠ 0) (hp : cont X Y W c) (f E : Nat → Int) (hT : ∀ a b, a + b ≤ 6 → tTf X Y W a b = 27 * c * f (7 * a + b)) (z : zr 5 0 5 f E) : TP 5 f E := by
  obtain ⟨su0, hl, hne, hz, hb, hv, H, pH, hH⟩ := z
  have su1 : SUi E 1 := su0
  have su := su1
  obtain ⟨G, hG⟩ := env_G5 su pH hH
  have hl' : ipw (E 1) 5 = f 5 := hl
  rw [lb5] at hl'
  have he : E 1 ≠ 0 := hne
  have z7 : E 7 = 0 := hz 1 0 (by decide) (by decide)
  have t600 : tT600 X Y W = 27 * c * (0 + 18446744073709551616 * G 6 0) := (hT 6 0 (by decide)).trans (congrArg (fun v => 27 * c * v) (hG 6 0 (by decide)))
  have t510 : tT510 X Y W = 27 * c * (0 + 18446744073709551616 * G 5 1) := (hT 5 1 (by decide)).trans (congrArg (fun v => 27 * c * v) (hG 5 1 (by decide)))
  have t501 : tT501 X Y W = 27 * c * (E 7 * (E 7 * (E 7 * (E 7 * E 7))) + 18446744073709551616 * G 5 0) := (hT 5 0 (by decide)).trans (congrArg (fun v => 27 * c * v) (hG 5 0 (by decide)))
  have t420 : tT420 X Y W = 27 * c * (0 + 18446744073709551616 * G 4 2) := (hT 4 2 (by decide)).trans (congrArg (fun v => 27 * c * v) (hG 4 2 (by decide)))
  have t411 : tT411 X Y W = 27 * c * (5 * (E 7 * (E 7 * (E 7 * (E 7 * E 1)))) + 18446744073709551616 * G 4 1) := (hT 4 1 (by decide)).trans (congrArg (fun v => 27 * c * v) (hG 4 1 (by decide)))
  have t402 : tT402 X Y W = 27 * c * (5 * (E 7 * (E 7 * (E 7 * (E 7 * E 0)))) + 18446744073709551616 * G 4 0) := (hT 4 0 (by decide)).trans (congrArg (fun v => 27 * c * v) (hG 4 0 (by decide)))
  have t330 : tT330 X Y W = 27 * c * (0 + 18446744073709551616 * G 3 3) := (hT 3 3 (by decide)).trans (congrArg (fun v => 27 * c * v) (hG 3 3 (by decide)))
  have t321 : tT321 X Y W = 27 * c * (10 * (E 7 * (E 7 * (E 7 * (E 1 * E 1)))) + 18446744073709551616 * G 3 2) := (hT 3 2 (by decide)).trans (congrArg (fun v => 27 * c * v) (hG 3 2 (by decide)))
  have t312 : tT312 X Y W = 27 * c * (20 * (E 7 * (E 7 * (E 7 * (E 1 * E 0)))) + 18446744073709551616 * G 3 1) := (hT 3 1 (by decide)).trans (congrArg (fun v => 27 * c * v) (hG 3 1 (by decide)))
  have t303 : tT303 X Y W = 27 * c * (10 * (E 7 * (E 7 * (E 7 * (E 0 * E 0)))) + 18446744073709551616 * G 3 0) := (hT 3 0 (by decide)).trans (congrArg (fun v => 27 * c * v) (hG 3 0 (by decide)))
  have t240 : tT240 X Y W = 27 * c * (0 + 18446744073709551616 * G 2 4) := (hT 2 4 (by decide)).trans (congrArg (fun v => 27 * c * v) (hG 2 4 (by decide)))
  have t231 : tT231 X Y W = 27 * c * (10 * (E 7 * (E 7 * (E 1 * (E 1 * E 1)))) + 18446744073709551616 * G 2 3) := (hT 2 3 (by decide)).trans (congrArg (fun v => 27 * c * v) (hG 2 3 (by decide)))
  have t222 : tT222 X Y W = 27 * c * (30 * (E 7 * (E 7 * (E 1 * (E 1 * E 0)))) + 18446744073709551616 * G 2 2) := (hT 2 2 (by decide)).trans (congrArg (fun v => 27 * c * v) (hG 2 2 (by decide)))
  have t213 : tT213 X Y W = 27 * c * (30 * (E 7 * (E 7 * (E 1 * (E 0 * E 0)))) + 18446744073709551616 * G 2 1) := (hT 2 1 (by decide)).trans (congrArg (fun v => 27 * c * v) (hG 2 1 (by decide)))
  have t204 : tT204 X Y W = 27 * c * (10 * (E 7 * (E 7 * (E 0 * (E 0 * E 0)))) + 18446744073709551616 * G 2 0) := (hT 2 0 (by decide)).trans (congrArg (fun v => 27 * c * v) (hG 2 0 (by decide)))
  have t150 : tT150 X Y W = 27 * c * (0 + 18446744073709551616 * G 1 5) := (hT 1 5 (by decide)).trans (congrArg (fun v => 27 * c * v) (hG 1 5 (by decide)))
  have t141 : tT141 X Y W = 27 * c * (5 * (E 7 * (E 1 * (E 1 * (E 1 * E 1)))) + 18446744073709551616 * G 1 4) := (hT 1 4 (by decide)).trans (congrArg (fun v => 27 * c * v) (hG 1 4 (by decide)))
  have t132 : tT132 X Y W = 27 * c * (20 * (E 7 * (E 1 * (E 1 * (E 1 * E 0)))) + 18446744073709551616 * G 1 3) := (hT 1 3 (by decide)).trans (congrArg (fun v => 27 * c * v) (hG 1 3 (by decide)))
  have t123 : tT123 X Y W = 27 * c * (30 * (E 7 * (E 1 * (E 1 * (E 0 * E 0)))) + 18446744073709551616 * G 1 2) := (hT 1 2 (by decide)).trans (congrArg (fun v => 27 * c * v) (hG 1 2 (by decide)))
  have t114 : tT114 X Y W = 27 * c * (20 * (E 7 * (E 1 * (E 0 * (E 0 * E 0)))) + 18446744073709551616 * G 1 1) := (hT 1 1 (by decide)).trans (congrArg (fun v => 27 * c * v) (hG 1 1 (by decide)))
  have t105 : tT105 X Y W = 27 * c * (5 * (E 7 * (E 0 * (E 0 * (E 0 * E 0)))) + 18446744073709551616 * G 1 0) := (hT 1 0 (by decide)).trans (congrArg (fun v => 27 * c * v) (hG 1 0 (by decide)))
  have t060 : tT060 X Y W = 27 * c * (0 + 18446744073709551616 * G 0 6) := (hT 0 6 (by decide)).trans (congrArg (fun v => 27 * c * v) (hG 0 6 (by decide)))
  have t051 : tT051 X Y W = 27 * c * (E 1 * (E 1 * (E 1 * (E 1 * E 1))) + 18446744073709551616 * G 0 5) := (hT 0 5 (by decide)).trans (congrArg (fun v => 27 * c * v) (hG 0 5 (by decide)))
  have t042 : tT042 X Y W = 27 * c * (5 * (E 1 * (E 1 * (E 1 * (E 1 * E 0)))) + 18446744073709551616 * G 0 4) := (hT 0 4 (by decide)).trans (congrArg (fun v => 27 * c * v) (hG 0 4 (by decide)))
  have t033 : tT033 X Y W = 27 * c * (10 * (E 1 * (E 1 * (E 1 * (E 0 * E 0)))) + 18446744073709551616 * G 0 3) := (hT 0 3 (by decide)).trans (congrArg (fun v => 27 * c * v) (hG 0 3 (by decide)))
  have t024 : tT024 X Y W = 27 * c * (10 * (E 1 * (E 1 * (E 0 * (E 0 * E 0)))) + 18446744073709551616 * G 0 2) := (hT 0 2 (by decide)).trans (congrArg (fun v => 27 * c * v) (hG 0 2 (by decide)))
  have t015 : tT015 X Y W = 27 * c * (5 * (E 1 * (E 0 * (E 0 * (E 0 * E 0)))) + 18446744073709551616 * G 0 1) := (hT 0 1 (by decide)).trans (congrArg (fun v => 27 * c * v) (hG 0 1 (by decide)))
  have t006 : tT006 X Y W = 27 * c * (E 0 * (E 0 * (E 0 * (E 0 * E 0))) + 18446744073709551616 * G 0 0) := (hT 0 0 (by decide)).trans (congrArg (fun v => 27 * c * v) (hG 0 0 (by decide)))
  have zl : G 0 5 = 0 := by
    have a' : f 5 = E 1 * (E 1 * (E 1 * (E 1 * E 1))) + 18446744073709551616 * G 0 5 := hG 0 5 (by decide)
    try simp only [Int.mul_zero, Int.zero_mul, Int.zero_add, Int.add_zero, Int.mul_assoc] at a'
    try simp only [Int.mul_zero, Int.zero_mul, Int.zero_add, Int.add_zero, Int.mul_assoc] at hl'
    omega
  rw [z7] at t501 t411 t402 t321 t312 t303 t231 t222 t213 t204 t141 t132 t123 t114 t105
  have dh : (5 * (E 1 * (E 1 * (E 1 * (E 1 * (E 0)))))).natAbs ≤ 9223372036854775808 := by
    have q := hb 0 (by decide) (by decide)
    rw [db5] at q
    exact q
  obtain ⟨w600, w510, w501, w420, w411, w402, w330, w321, w312, w303, w240, w231, w222, w213, w204, w150, w141, w132, w123, w114, w105, w060, w051, w042, w033, w024, w015, w006⟩ := ln5y X Y W hX hY hW c (E 1) (E 0) (G 6 0) (G 5 1) (G 5 0) (G 4 2) (G 4 1) (G 4 0) (G 3 3) (G 3 2) (G 3 1) (G 3 0) (G 2 4) (G 2 3) (G 2 2) (G 2 1) (G 2 0) (G 1 5) (G 1 4) (G 1 3) (G 1 2) (G 1 1) (G 1 0) (G 0 6) (G 0 5) (G 0 4) (G 0 3) (G 0 2) (G 0 1) (G 0 0) hc he  zl (t600.trans (congrArg (fun v => 27 * c * v) (rl5_600 (E 1) (E 0) (G 6 0)))) (t510.trans (congrArg (fun v => 27 * c * v) (rl5_510 (E 1) (E 0) (G 5 1)))) (t501.trans (congrArg (fun v => 27 * c * v) (rl5_501 (E 1) (E 0) (G 5 0)))) (t420.trans (congrArg (fun v => 27 * c * v) (rl5_420 (E 1) (E 0) (G 4 2)))) (t411.trans (congrArg (fun v => 27 * c * v) (rl5_411 (E 1) (E 0) (G 4 1)))) (t402.trans (congrArg (fun v => 27 * c * v) (rl5_402 (E 1) (E 0) (G 4 0)))) (t330.trans (congrArg (fun v => 27 * c * v) (rl5_330 (E 1) (E 0) (G 3 3)))) (t321.trans (congrArg (fun v => 27 * c * v) (rl5_321 (E 1) (E 0) (G 3 2)))) (t312.trans (congrArg (fun v => 27 * c * v) (rl5_312 (E 1) (E 0) (G 3 1)))) (t303.trans (congrArg (fun v => 27 * c * v) (rl5_303 (E 1) (E 0) (G 3 0)))) (t240.trans (congrArg (fun v => 27 * c * v) (rl5_240 (E 1) (E 0) (G 2 4)))) (t231.trans (congrArg (fun v => 27 * c * v) (rl5_231 (E 1) (E 0) (G 2 3)))) (t222.trans (congrArg (fun v => 27 * c * v) (rl5_222 (E 1) (E 0) (G 2 2)))) (t213.trans (congrArg (fun v => 27 * c * v) (rl5_213 (E 1) (E 0) (G 2 1)))) (t204.trans (congrArg (fun v => 27 * c * v) (rl5_204 (E 1) (E 0) (G 2 0)))) (t150.trans (congrArg (fun v => 27 * c * v) (rl5_150 (E 1) (E 0) (G 1 5)))) (t141.trans (congrArg (fun v => 27 * c * v) (rl5_141 (E 1) (E 0) (G 1 4)))) (t132.trans (congrArg (fun v => 27 * c * v) (rl5_132 (E 1) (E 0) (G 1 3)))) (t123.trans (congrArg (fun v => 27 * c * v) (rl5_123 (E 1) (E 0) (G 1 2)))) (t114.trans (congrArg (fun v => 27 * c * v) (rl5_114 (E 1) (E 0) (G 1 1)))) (t105.trans (congrArg (fun v => 27 * c * v) (rl5_105 (E 1) (E 0) (G 1 0)))) (t060.trans (congrArg (fun v => 27 * c * v) (rl5_060 (E 1) (E 0) (G 0 6)))) (t051.trans (congrArg (fun v => 27 * c * v) (rl5_051 (E 1) (E 0) (G 0 5)))) (t042.trans (congrArg (fun v => 27 * c * v) (rl5_042 (E 1) (E 0) (G 0 4)))) (t033.trans (congrArg (fun v => 27 * c * v) (rl5_033 (E 1) (E 0) (G 0 3)))) (t024.trans (congrArg (fun v => 27 * c * v) (rl5_024 (E 1) (E 0) (G 0 2)))) (t015.trans (congrArg (fun v => 27 * c * v) (rl5_015 (E 1) (E 0) (G 0 1)))) (t006.trans (congrArg (fun v => 27 * c * v) (rl5_006 (E 1) (E 0) (G 0 0)))) dh
  refine env_end5 su (fun a b hab => ?_)
  have g0 : G a b = 0 := by
    have ha : a = 0 ∨ a = 1 ∨ a = 2 ∨ a = 3 ∨ a = 4 ∨ a = 5 ∨ a = 6 := by omega
    have hb : b = 0 ∨ b = 1 ∨ b = 2 ∨ b = 3 ∨ b = 4 ∨ b = 5 ∨ b = 6 := by omega
    clear hH hG hT hv hz
    rcases ha with ha | ha | ha | ha | ha | ha | ha <;> rcases hb with hb | hb | hb | hb | hb | hb | hb <;> subst ha <;> subst hb <;> first | (exfalso; omega) | assumption
  rw [hG a b hab, g0, Int.mul_zero, Int.add_zero]
theorem ev4_40 (X Y W : Nat → Int) (hX : bx7 X) (hY : bx7 Y) (hW : bx7 W) (c : Int) (hc : c ≠ 0) (hp : cont X Y W c) (f E : Nat → Int) (hT : ∀ a b, a + b ≤ 6 → tTf X Y W a b = 27 * c * f (7 * a + b)) (z : zr 4 4 0 f E) : TP 4 f E := by
  obtain ⟨su0, hl, hne, hz, hb, hv, H, pH, hH⟩ := z
  have su1 : SUi E 1 := su0
  have su := su1
  obtain ⟨G, hG⟩ := env_G4 su pH hH
  have hl' : ipw (E 7) 4 = f 28 := hl
  rw [lb4] at hl'
  have he : E 7 ≠ 0 := hne
  have t600 : tT600 X Y W = 27 * c * (0 + 18446744073709551616 * G 6 0) := (hT 6 0 (by decide)).trans (congrArg (fun v => 27 * c * v) (hG 6 0 (by decide)))
  have t510 : tT510 X Y W = 27 * c * (0 + 18446744073709551616 * G 5 1) := (hT 5 1 (by decide)).trans (congrArg (fun v => 27 * c * v) (hG 5 1 (by decide)))
  have t501 : tT501 X Y W = 27 * c * (0 + 18446744073709551616 * G 5 0) := (hT 5 0 (by decide)).trans (congrArg (fun v => 27 * c * v) (hG 5 0 (by decide)))
  have t420 : tT420 X Y W = 27 * c * (0 + 18446744073709551616 * G 4 2) := (hT 4 2 (by decide)).trans (congrArg (fun v => 27 * c * v) (hG 4 2 (by decide)))
  have t411 : tT411 X Y W = 27 * c * (0 + 18446744073709551616 * G 4 1) := (hT 4 1 (by decide)).trans (congrArg (fun v => 27 * c * v) (hG 4 1 (by decide)))
  have t402 : tT402 X Y W = 27 * c * (E 7 * (E 7 * (E 7 * E 7)) + 18446744073709551616 * G 4 0) := (hT 4 0 (by decide)).trans (congrArg (fun v => 27 * c * v) (hG 4 0 (by decide)))
  have t330 : tT330 X Y W = 27 * c * (0 + 18446744073709551616 * G 3 3) := (hT 3 3 (by decide)).trans (congrArg (fun v => 27 * c * v) (hG 3 3 (by decide)))
  have t321 : tT321 X Y W = 27 * c * (0 + 18446744073709551616 * G 3 2) := (hT 3 2 (by decide)).trans (congrArg (fun v => 27 * c * v) (hG 3 2 (by decide)))
  have t312 : tT312 X Y W = 27 * c * (4 * (E 7 * (E 7 * (E 7 * E 1))) + 18446744073709551616 * G 3 1) := (hT 3 1 (by decide)).trans (congrArg (fun v => 27 * c * v) (hG 3 1 (by decide)))
  have t303 : tT303 X Y W = 27 * c * (4 * (E 7 * (E 7 * (E 7 * E 0))) + 18446744073709551616 * G 3 0) := (hT 3 0 (by decide)).trans (congrArg (fun v => 27 * c * v) (hG 3 0 (by decide)))
  have t240 : tT240 X Y W = 27 * c * (0 + 18446744073709551616 * G 2 4) := (hT 2 4 (by decide)).trans (congrArg (fun v => 27 * c * v) (hG 2 4 (by decide)))
  have t231 : tT231 X Y W = 27 * c * (0 + 18446744073709551616 * G 2 3) := (hT 2 3 (by decide)).trans (congrArg (fun v => 27 * c * v) (hG 2 3 (by decide)))
  have t222 : tT222 X Y W = 27 * c * (6 * (E 7 * (E 7 * (E 1 * E 1))) + 18446744073709551616 * G 2 2) := (hT 2 2 (by decide)).trans (congrArg (fun v => 27 * c * v) (hG 2 2 (by decide)))
  have t213 : tT213 X Y W = 27 * c * (12 * (E 7 * (E 7 * (E 1 * E 0))) + 18446744073709551616 * G 2 1) := (hT 2 1 (by decide)).trans (congrArg (fun v => 27 * c * v) (hG 2 1 (by decide)))
  have t204 : tT204 X Y W = 27 * c * (6 * (E 7 * (E 7 * (E 0 * E 0))) + 18446744073709551616 * G 2 0) := (hT 2 0 (by decide)).trans (congrArg (fun v => 27 * c * v) (hG 2 0 (by decide)))
  have t150 : tT150 X Y W = 27 * c * (0 + 18446744073709551616 * G 1 5) := (hT 1 5 (by decide)).trans (congrArg (fun v => 27 * c * v) (hG 1 5 (by decide)))
  have t141 : tT141 X Y W = 27 * c * (0 + 18446744073709551616 * G 1 4) := (hT 1 4 (by decide)).trans (congrArg (fun v => 27 * c * v) (hG 1 4 (by decide)))
  have t132 : tT132 X Y W = 27 * c * (4 * (E 7 * (E 1 * (E 1 * E 1))) + 18446744073709551616 * G 1 3) := (hT 1 3 (by decide)).trans (congrArg (fun v => 27 * c * v) (hG 1 3 (by decide)))
  have t123 : tT123 X Y W = 27 * c * (12 * (E 7 * (E 1 * (E 1 * E 0))) + 18446744073709551616 * G 1 2) := (hT 1 2 (by decide)).trans (congrArg (fun v => 27 * c * v) (hG 1 2 (by decide)))
  have t114 : tT114 X Y W = 27 * c * (12 * (E 7 * (E 1 * (E 0 * E 0))) + 18446744073709551616 * G 1 1) := (hT 1 1 (by decide)).trans (congrArg (fun v => 27 * c * v) (hG 1 1 (by decide)))
  have t105 : tT105 X Y W = 27 * c * (4 * (E 7 * (E 0 * (E 0 * E 0))) + 18446744073709551616 * G 1 0) := (hT 1 0 (by decide)).trans (congrArg (fun v => 27 * c * v) (hG 1 0 (by decide)))
  have t060 : tT060 X Y W = 27 * c * (0 + 18446744073709551616 * G 0 6) := (hT 0 6 (by decide)).trans (congrArg (fun v => 27 * c * v) (hG 0 6 (by decide)))
  have t051 : tT051 X Y W = 27 * c * (0 + 18446744073709551616 * G 0 5) := (hT 0 5 (by decide)).trans (congrArg (fun v => 27 * c * v) (hG 0 5 (by decide)))
  have t042 : tT042 X Y W = 27 * c * (E 1 * (E 1 * (E 1 * E 1)) + 18446744073709551616 * G 0 4) := (hT 0 4 (by decide)).trans (congrArg (fun v => 27 * c * v) (hG 0 4 (by decide)))
  have t033 : tT033 X Y W = 27 * c * (4 * (E 1 * (E 1 * (E 1 * E 0))) + 18446744073709551616 * G 0 3) := (hT 0 3 (by decide)).trans (congrArg (fun v => 27 * c * v) (hG 0 3 (by decide)))
  have t024 : tT024 X Y W = 27 * c * (6 * (E 1 * (E 1 * (E 0 * E 0))) + 18446744073709551616 * G 0 2) := (hT 0 2 (by decide)).trans (congrArg (fun v => 27 * c * v) (hG 0 2 (by decide)))
  have t015 : tT015 X Y W = 27 * c * (4 * (E 1 * (E 0 * (E 0 * E 0))) + 18446744073709551616 * G 0 1) := (hT 0 1 (by decide)).trans (congrArg (fun v => 27 * c * v) (hG 0 1 (by decide)))
  have t006 : tT006 X Y W = 27 * c * (E 0 * (E 0 * (E 0 * E 0)) + 18446744073709551616 * G 0 0) := (hT 0 0 (by decide)).trans (congrArg (fun v => 27 * c * v) (hG 0 0 (by decide)))
  have zl : G 4 0 = 0 := by
    have a' : f 28 = E 7 * (E 7 * (E 7 * E 7)) + 18446744073709551616 * G 4 0 := hG 4 0 (by decide)
    try simp only [Int.mul_zero, Int.zero_mul, Int.zero_add, Int.add_zero, Int.mul_assoc] at a'
    try simp only [Int.mul_zero, Int.zero_mul, Int.zero_add, Int.add_zero, Int.mul_assoc] at hl'
    omega
  have dg : (4 * (E 7 * (E 7 * (E 7 * (E 1))))).natAbs ≤ 9223372036854775808 := by
    have q := hb 1 (by decide) (by decide)
    rw [db4] at q
    exact q
  have dh : (4 * (E 7 * (E 7 * (E 7 * (E 0))))).natAbs ≤ 9223372036854775808 := by
    have q := hb 0 (by decide) (by decide)
    rw [db4] at q
    exact q
  obtain ⟨w600, w510, w501, w420, w411, w402, w330, w321, w312, w303, w240, w231, w222, w213, w204, w150, w141, w132, w123, w114, w105, w060, w051, w042, w033, w024, w015, w006⟩ := ln4x X Y W hX hY hW c (E 7) (E 1) (E 0) (G 6 0) (G 5 1) (G 5 0) (G 4 2) (G 4 1) (G 4 0) (G 3 3) (G 3 2) (G 3 1) (G 3 0) (G 2 4) (G 2 3) (G 2 2) (G 2 1) (G 2 0) (G 1 5) (G 1 4) (G 1 3) (G 1 2) (G 1 1) (G 1 0) (G 0 6) (G 0 5) (G 0 4) (G 0 3) (G 0 2) (G 0 1) (G 0 0) hc he  zl t600 t510 t501 t420 t411 t402 t330 t321 t312 t303 t240 t231 t222 t213 t204 t150 t141 t132 t123 t114 t105 t060 t051 t042 t033 t024 t015 t006 dg dh
  refine env_end4 su (fun a b hab => ?_)
  have g0 : G a b = 0 := by
    have ha : a = 0 ∨ a = 1 ∨ a = 2 ∨ a = 3 ∨ a = 4 ∨ a = 5 ∨ a = 6 := by omega
    have hb : b = 0 ∨ b = 1 ∨ b = 2 ∨ b = 3 ∨ b = 4 ∨ b = 5 ∨ b = 6 := by omega
    clear hH hG hT hv hz
    rcases ha with ha | ha | ha | ha | ha | ha | ha <;> rcases hb with hb | hb | hb | hb | hb | hb | hb <;> subst ha <;> subst hb <;> first | (exfalso; omega) | assumption
  rw [hG a b hab, g0, Int.mul_zero, Int.add_zero]
theorem ev4_04 (X Y W : Nat → Int) (hX : bx7 X) (hY : bx7 Y) (hW : bx7 W) (c : Int) (hc : c ≠ 0) (hp : cont X Y W c) (f E : Nat → Int) (hT : ∀ a b, a + b ≤ 6 → tTf X Y W a b = 27 * c * f (7 * a + b)) (z : zr 4 0 4 f E) : TP 4 f E := by
  obtain ⟨su0, hl, hne, hz, hb, hv, H, pH, hH⟩ := z
  have su1 : SUi E 1 := su0
  have su := su1
  obtain ⟨G, hG⟩ := env_G4 su pH hH
  have hl' : ipw (E 1) 4 = f 4 := hl
  rw [lb4] at hl'
  have he : E 1 ≠ 0 := hne
  have z7 : E 7 = 0 := hz 1 0 (by decide) (by decide)
  have t600 : tT600 X Y W = 27 * c * (0 + 18446744073709551616 * G 6 0) := (hT 6 0 (by decide)).trans (congrArg (fun v => 27 * c * v) (hG 6 0 (by decide)))
  have t510 : tT510 X Y W = 27 * c * (0 + 18446744073709551616 * G 5 1) := (hT 5 1 (by decide)).trans (congrArg (fun v => 27 * c * v) (hG 5 1 (by decide)))
  have t501 : tT501 X Y W = 27 * c * (0 + 18446744073709551616 * G 5 0) := (hT 5 0 (by decide)).trans (congrArg (fun v => 27 * c * v) (hG 5 0 (by decide)))
  have t420 : tT420 X Y W = 27 * c * (0 + 18446744073709551616 * G 4 2) := (hT 4 2 (by decide)).trans (congrArg (fun v => 27 * c * v) (hG 4 2 (by decide)))
  have t411 : tT411 X Y W = 27 * c * (0 + 18446744073709551616 * G 4 1) := (hT 4 1 (by decide)).trans (congrArg (fun v => 27 * c * v) (hG 4 1 (by decide)))
  have t402 : tT402 X Y W = 27 * c * (E 7 * (E 7 * (E 7 * E 7)) + 18446744073709551616 * G 4 0) := (hT 4 0 (by decide)).trans (congrArg (fun v => 27 * c * v) (hG 4 0 (by decide)))
  have t330 : tT330 X Y W = 27 * c * (0 + 18446744073709551616 * G 3 3) := (hT 3 3 (by decide)).trans (congrArg (fun v => 27 * c * v) (hG 3 3 (by decide)))
  have t321 : tT321 X Y W = 27 * c * (0 + 18446744073709551616 * G 3 2) := (hT 3 2 (by decide)).trans (congrArg (fun v => 27 * c * v) (hG 3 2 (by decide)))
  have t312 : tT312 X Y W = 27 * c * (4 * (E 7 * (E 7 * (E 7 * E 1))) + 18446744073709551616 * G 3 1) := (hT 3 1 (by decide)).trans (congrArg (fun v => 27 * c * v) (hG 3 1 (by decide)))
  have t303 : tT303 X Y W = 27 * c * (4 * (E 7 * (E 7 * (E 7 * E 0))) + 18446744073709551616 * G 3 0) := (hT 3 0 (by decide)).trans (congrArg (fun v => 27 * c * v) (hG 3 0 (by decide)))
  have t240 : tT240 X Y W = 27 * c * (0 + 18446744073709551616 * G 2 4) := (hT 2 4 (by decide)).trans (congrArg (fun v => 27 * c * v) (hG 2 4 (by decide)))
  have t231 : tT231 X Y W = 27 * c * (0 + 18446744073709551616 * G 2 3) := (hT 2 3 (by decide)).trans (congrArg (fun v => 27 * c * v) (hG 2 3 (by decide)))
  have t222 : tT222 X Y W = 27 * c * (6 * (E 7 * (E 7 * (E 1 * E 1))) + 18446744073709551616 * G 2 2) := (hT 2 2 (by decide)).trans (congrArg (fun v => 27 * c * v) (hG 2 2 (by decide)))
  have t213 : tT213 X Y W = 27 * c * (12 * (E 7 * (E 7 * (E 1 * E 0))) + 18446744073709551616 * G 2 1) := (hT 2 1 (by decide)).trans (congrArg (fun v => 27 * c * v) (hG 2 1 (by decide)))
  have t204 : tT204 X Y W = 27 * c * (6 * (E 7 * (E 7 * (E 0 * E 0))) + 18446744073709551616 * G 2 0) := (hT 2 0 (by decide)).trans (congrArg (fun v => 27 * c * v) (hG 2 0 (by decide)))
  have t150 : tT150 X Y W = 27 * c * (0 + 18446744073709551616 * G 1 5) := (hT 1 5 (by decide)).trans (congrArg (fun v => 27 * c * v) (hG 1 5 (by decide)))
  have t141 : tT141 X Y W = 27 * c * (0 + 18446744073709551616 * G 1 4) := (hT 1 4 (by decide)).trans (congrArg (fun v => 27 * c * v) (hG 1 4 (by decide)))
  have t132 : tT132 X Y W = 27 * c * (4 * (E 7 * (E 1 * (E 1 * E 1))) + 18446744073709551616 * G 1 3) := (hT 1 3 (by decide)).trans (congrArg (fun v => 27 * c * v) (hG 1 3 (by decide)))
  have t123 : tT123 X Y W = 27 * c * (12 * (E 7 * (E 1 * (E 1 * E 0))) + 18446744073709551616 * G 1 2) := (hT 1 2 (by decide)).trans (congrArg (fun v => 27 * c * v) (hG 1 2 (by decide)))
  have t114 : tT114 X Y W = 27 * c * (12 * (E 7 * (E 1 * (E 0 * E 0))) + 18446744073709551616 * G 1 1) := (hT 1 1 (by decide)).trans (congrArg (fun v => 27 * c * v) (hG 1 1 (by decide)))
  have t105 : tT105 X Y W = 27 * c * (4 * (E 7 * (E 0 * (E 0 * E 0))) + 18446744073709551616 * G 1 0) := (hT 1 0 (by decide)).trans (congrArg (fun v => 27 * c * v) (hG 1 0 (by decide)))
  have t060 : tT060 X Y W = 27 * c * (0 + 18446744073709551616 * G 0 6) := (hT 0 6 (by decide)).trans (congrArg (fun v => 27 * c * v) (hG 0 6 (by decide)))
  have t051 : tT051 X Y W = 27 * c * (0 + 18446744073709551616 * G 0 5) := (hT 0 5 (by decide)).trans (congrArg (fun v => 27 * c * v) (hG 0 5 (by decide)))
  have t042 : tT042 X Y W = 27 * c * (E 1 * (E 1 * (E 1 * E 1)) + 18446744073709551616 * G 0 4) := (hT 0 4 (by decide)).trans (congrArg (fun v => 27 * c * v) (hG 0 4 (by decide)))
  have t033 : tT033 X Y W = 27 * c * (4 * (E 1 * (E 1 * (E 1 * E 0))) + 18446744073709551616 * G 0 3) := (hT 0 3 (by decide)).trans (congrArg (fun v => 27 * c * v) (hG 0 3 (by decide)))
  have t024 : tT024 X Y W = 27 * c * (6 * (E 1 * (E 1 * (E 0 * E 0))) + 18446744073709551616 * G 0 2) := (hT 0 2 (by decide)).trans (congrArg (fun v => 27 * c * v) (hG 0 2 (by decide)))
  have t015 : tT015 X Y W = 27 * c * (4 * (E 1 * (E 0 * (E 0 * E 0))) + 18446744073709551616 * G 0 1) := (hT 0 1 (by decide)).trans (congrArg (fun v => 27 * c * v) (hG 0 1 (by decide)))
  have t006 : tT006 X Y W = 27 * c * (E 0 * (E 0 * (E 0 * E 0)) + 18446744073709551616 * G 0 0) := (hT 0 0 (by decide)).trans (congrArg (fun v => 27 * c * v) (hG 0 0 (by decide)))
  have zl : G 0 4 = 0 := by
    have a' : f 4 = E 1 * (E 1 * (E 1 * E 1)) + 18446744073709551616 * G 0 4 := hG 0 4 (by decide)
    try simp only [Int.mul_zero, Int.zero_mul, Int.zero_add, Int.add_zero, Int.mul_assoc] at a'
    try simp only [Int.mul_zero, Int.zero_mul, Int.zero_add, Int.add_zero, Int.mul_assoc] at hl'
    omega
  rw [z7] at t402 t312 t303 t222 t213 t204 t132 t123 t114 t105
  have dh : (4 * (E 1 * (E 1 * (E 1 * (E 0))))).natAbs ≤ 9223372036854775808 := by
    have q := hb 0 (by decide) (by decide)
    rw [db4] at q
    exact q
  obtain ⟨w600, w510, w501, w420, w411, w402, w330, w321, w312, w303, w240, w231, w222, w213, w204, w150, w141, w132, w123, w114, w105, w060, w051, w042, w033, w024, w015, w006⟩ := ln4y X Y W hX hY hW c (E 1) (E 0) (G 6 0) (G 5 1) (G 5 0) (G 4 2) (G 4 1) (G 4 0) (G 3 3) (G 3 2) (G 3 1) (G 3 0) (G 2 4) (G 2 3) (G 2 2) (G 2 1) (G 2 0) (G 1 5) (G 1 4) (G 1 3) (G 1 2) (G 1 1) (G 1 0) (G 0 6) (G 0 5) (G 0 4) (G 0 3) (G 0 2) (G 0 1) (G 0 0) hc he  zl (t600.trans (congrArg (fun v => 27 * c * v) (rl4_600 (E 1) (E 0) (G 6 0)))) (t510.trans (congrArg (fun v => 27 * c * v) (rl4_510 (E 1) (E 0) (G 5 1)))) (t501.trans (congrArg (fun v => 27 * c * v) (rl4_501 (E 1) (E 0) (G 5 0)))) (t420.trans (congrArg (fun v => 27 * c * v) (rl4_420 (E 1) (E 0) (G 4 2)))) (t411.trans (congrArg (fun v => 27 * c * v) (rl4_411 (E 1) (E 0) (G 4 1)))) (t402.trans (congrArg (fun v => 27 * c * v) (rl4_402 (E 1) (E 0) (G 4 0)))) (t330.trans (congrArg (fun v => 27 * c * v) (rl4_330 (E 1) (E 0) (G 3 3)))) (t321.trans (congrArg (fun v => 27 * c * v) (rl4_321 (E 1) (E 0) (G 3 2)))) (t312.trans (congrArg (fun v => 27 * c * v) (rl4_312 (E 1) (E 0) (G 3 1)))) (t303.trans (congrArg (fun v => 27 * c * v) (rl4_303 (E 1) (E 0) (G 3 0)))) (t240.trans (congrArg (fun v => 27 * c * v) (rl4_240 (E 1) (E 0) (G 2 4)))) (t231.trans (congrArg (fun v => 27 * c * v) (rl4_231 (E 1) (E 0) (G 2 3)))) (t222.trans (congrArg (fun v => 27 * c * v) (rl4_222 (E 1) (E 0) (G 2 2)))) (t213.trans (congrArg (fun v => 27 * c * v) (rl4_213 (E 1) (E 0) (G 2 1)))) (t204.trans (congrArg (fun v => 27 * c * v) (rl4_204 (E 1) (E 0) (G 2 0)))) (t150.trans (congrArg (fun v => 27 * c * v) (rl4_150 (E 1) (E 0) (G 1 5)))) (t141.trans (congrArg (fun v => 27 * c * v) (rl4_141 (E 1) (E 0) (G 1 4)))) (t132.trans (congrArg (fun v => 27 * c * v) (rl4_132 (E 1) (E 0) (G 1 3)))) (t123.trans (congrArg (fun v => 27 * c * v) (rl4_123 (E 1) (E 0) (G 1 2)))) (t114.trans (congrArg (fun v => 27 * c * v) (rl4_114 (E 1) (E 0) (G 1 1)))) (t105.trans (congrArg (fun v => 27 * c * v) (rl4_105 (E 1) (E 0) (G 1 0)))) (t060.trans (congrArg (fun v => 27 * c * v) (rl4_060 (E 1) (E 0) (G 0 6)))) (t051.trans (congrArg (fun v => 27 * c * v) (rl4_051 (E 1) (E 0) (G 0 5)))) (t042.trans (congrArg (fun v => 27 * c * v) (rl4_042 (E 1) (E 0) (G 0 4)))) (t033.trans (congrArg (fun v => 27 * c * v) (rl4_033 (E 1) (E 0) (G 0 3)))) (t024.trans (congrArg (fun v => 27 * c * v) (rl4_024 (E 1) (E 0) (G 0 2)))) (t015.trans (congrArg (fun v => 27 * c * v) (rl4_015 (E 1) (E 0) (G 0 1)))) (t006.trans (congrArg (fun v => 27 * c * v) (rl4_006 (E 1) (E 0) (G 0 0)))) dh
  refine env_end4 su (fun a b hab => ?_)
  have g0 : G a b = 0 := by
    have ha : a = 0 ∨ a = 1 ∨ a = 2 ∨ a = 3 ∨ a = 4 ∨ a = 5 ∨ a = 6 := by omega
    have hb : b = 0 ∨ b = 1 ∨ b = 2 ∨ b = 3 ∨ b = 4 ∨ b = 5 ∨ b = 6 := by omega
    clear hH hG hT hv hz
    rcases ha with ha | ha | ha | ha | ha | ha | ha <;> rcases hb with hb | hb | hb | hb | hb | hb | hb <;> subst ha <;> subst hb <;> first | (exfalso; omega) | assumption
  rw [hG a b hab, g0, Int.mul_zero, Int.add_zero]
