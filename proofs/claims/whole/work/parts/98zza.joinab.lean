/-! cubics within 7, the join for the roots +-2, +-1/2 -/
def bc7 (c : Nat → Int) : Prop := (c 0).natAbs ≤ 7 ∧ (c 1).natAbs ≤ 7 ∧ (c 2).natAbs ≤ 7 ∧ (c 3).natAbs ≤ 7
theorem dc_le7 (a : Nat → Int) (ha : bc7 a) : (dc a).natAbs ≤ 129654 := by
  obtain ⟨ha0, ha1, ha2, ha3⟩ := ha
  have e : dc a = -27 * (a 0 * a 0 * a 3 * a 3) + 18 * (a 0 * a 1 * a 2 * a 3) - 4 * (a 0 * a 2 * a 2 * a 2) - 4 * (a 1 * a 1 * a 1 * a 3) + 1 * (a 1 * a 1 * a 2 * a 2) := by
    unfold dc
    clear ha0 ha1 ha2 ha3
    grind
  rw [e]
  exact na_le (ns_le (ns_le (na_le (nmul_le (show (-27 : Int).natAbs ≤ 27 by decide) (nmul_le (nmul_le (nmul_le (ha0) (ha0)) (ha3)) (ha3))) (nmul_le (show (18 : Int).natAbs ≤ 18 by decide) (nmul_le (nmul_le (nmul_le (ha0) (ha1)) (ha2)) (ha3)))) (nmul_le (show (4 : Int).natAbs ≤ 4 by decide) (nmul_le (nmul_le (nmul_le (ha0) (ha2)) (ha2)) (ha2)))) (nmul_le (show (4 : Int).natAbs ≤ 4 by decide) (nmul_le (nmul_le (nmul_le (ha1) (ha1)) (ha1)) (ha3)))) (nmul_le (show (1 : Int).natAbs ≤ 1 by decide) (nmul_le (nmul_le (nmul_le (ha1) (ha1)) (ha2)) (ha2)))
theorem dp_le7 (a b : Nat → Int) (ha : bc7 a) (hb : bc7 b) : (dp a b).natAbs ≤ 518616 := by
  obtain ⟨ha0, ha1, ha2, ha3⟩ := ha
  obtain ⟨hb0, hb1, hb2, hb3⟩ := hb
  exact ns_le (na_le (na_le (ns_le (na_le (ns_le (ns_le (na_le (ns_le (na_le (na_le (nmul_le (show (-54 : Int).natAbs ≤ 54 by decide) (nmul_le (nmul_le (nmul_le (ha0) (ha0)) (ha3)) (hb3))) (nmul_le (show (18 : Int).natAbs ≤ 18 by decide) (nmul_le (nmul_le (nmul_le (ha0) (ha1)) (ha2)) (hb3)))) (nmul_le (show (18 : Int).natAbs ≤ 18 by decide) (nmul_le (nmul_le (nmul_le (ha0) (ha1)) (ha3)) (hb2)))) (nmul_le (show (12 : Int).natAbs ≤ 12 by decide) (nmul_le (nmul_le (nmul_le (ha0) (ha2)) (ha2)) (hb2)))) (nmul_le (show (18 : Int).natAbs ≤ 18 by decide) (nmul_le (nmul_le (nmul_le (ha0) (ha2)) (ha3)) (hb1)))) (nmul_le (show (54 : Int).natAbs ≤ 54 by decide) (nmul_le (nmul_le (nmul_le (ha0) (ha3)) (ha3)) (hb0)))) (nmul_le (show (4 : Int).natAbs ≤ 4 by decide) (nmul_le (nmul_le (nmul_le (ha1) (ha1)) (ha1)) (hb3)))) (nmul_le (show (2 : Int).natAbs ≤ 2 by decide) (nmul_le (nmul_le (nmul_le (ha1) (ha1)) (ha2)) (hb2)))) (nmul_le (show (12 : Int).natAbs ≤ 12 by decide) (nmul_le (nmul_le (nmul_le (ha1) (ha1)) (ha3)) (hb1)))) (nmul_le (show (2 : Int).natAbs ≤ 2 by decide) (nmul_le (nmul_le (nmul_le (ha1) (ha2)) (ha2)) (hb1)))) (nmul_le (show (18 : Int).natAbs ≤ 18 by decide) (nmul_le (nmul_le (nmul_le (ha1) (ha2)) (ha3)) (hb0)))) (nmul_le (show (4 : Int).natAbs ≤ 4 by decide) (nmul_le (nmul_le (nmul_le (ha2) (ha2)) (ha2)) (hb0)))
theorem dr_le7 (a b : Nat → Int) (ha : bc7 a) (hb : bc7 b) : (dr a b).natAbs ≤ 777924 := by
  obtain ⟨ha0, ha1, ha2, ha3⟩ := ha
  obtain ⟨hb0, hb1, hb2, hb3⟩ := hb
  exact ns_le (na_le (na_le (ns_le (ns_le (na_le (na_le (na_le (na_le (ns_le (na_le (ns_le (ns_le (na_le (na_le (nmul_le (show (-27 : Int).natAbs ≤ 27 by decide) (nmul_le (nmul_le (nmul_le (ha0) (ha0)) (hb3)) (hb3))) (nmul_le (show (18 : Int).natAbs ≤ 18 by decide) (nmul_le (nmul_le (nmul_le (ha0) (ha1)) (hb2)) (hb3)))) (nmul_le (show (18 : Int).natAbs ≤ 18 by decide) (nmul_le (nmul_le (nmul_le (ha0) (ha2)) (hb1)) (hb3)))) (nmul_le (show (12 : Int).natAbs ≤ 12 by decide) (nmul_le (nmul_le (nmul_le (ha0) (ha2)) (hb2)) (hb2)))) (nmul_le (show (108 : Int).natAbs ≤ 108 by decide) (nmul_le (nmul_le (nmul_le (ha0) (ha3)) (hb0)) (hb3)))) (nmul_le (show (18 : Int).natAbs ≤ 18 by decide) (nmul_le (nmul_le (nmul_le (ha0) (ha3)) (hb1)) (hb2)))) (nmul_le (show (12 : Int).natAbs ≤ 12 by decide) (nmul_le (nmul_le (nmul_le (ha1) (ha1)) (hb1)) (hb3)))) (nmul_le (show (1 : Int).natAbs ≤ 1 by decide) (nmul_le (nmul_le (nmul_le (ha1) (ha1)) (hb2)) (hb2)))) (nmul_le (show (18 : Int).natAbs ≤ 18 by decide) (nmul_le (nmul_le (nmul_le (ha1) (ha2)) (hb0)) (hb3)))) (nmul_le (show (4 : Int).natAbs ≤ 4 by decide) (nmul_le (nmul_le (nmul_le (ha1) (ha2)) (hb1)) (hb2)))) (nmul_le (show (18 : Int).natAbs ≤ 18 by decide) (nmul_le (nmul_le (nmul_le (ha1) (ha3)) (hb0)) (hb2)))) (nmul_le (show (12 : Int).natAbs ≤ 12 by decide) (nmul_le (nmul_le (nmul_le (ha1) (ha3)) (hb1)) (hb1)))) (nmul_le (show (12 : Int).natAbs ≤ 12 by decide) (nmul_le (nmul_le (nmul_le (ha2) (ha2)) (hb0)) (hb2)))) (nmul_le (show (1 : Int).natAbs ≤ 1 by decide) (nmul_le (nmul_le (nmul_le (ha2) (ha2)) (hb1)) (hb1)))) (nmul_le (show (18 : Int).natAbs ≤ 18 by decide) (nmul_le (nmul_le (nmul_le (ha2) (ha3)) (hb0)) (hb1)))) (nmul_le (show (27 : Int).natAbs ≤ 27 by decide) (nmul_le (nmul_le (nmul_le (ha3) (ha3)) (hb0)) (hb0)))
theorem dt_le7 (a b d : Nat → Int) (ha : bc7 a) (hb : bc7 b) (hd : bc7 d) : (dt a b d).natAbs ≤ 1555848 := by
  obtain ⟨ha0, ha1, ha2, ha3⟩ := ha
  obtain ⟨hb0, hb1, hb2, hb3⟩ := hb
  obtain ⟨hd0, hd1, hd2, hd3⟩ := hd
  exact ns_le (na_le (na_le (ns_le (na_le (ns_le (na_le (ns_le (na_le (na_le (na_le (na_le (na_le (ns_le (na_le (ns_le (ns_le (na_le (na_le (ns_le (na_le (ns_le (na_le (na_le (na_le (nmul_le (show (-54 : Int).natAbs ≤ 54 by decide) (nmul_le (nmul_le (nmul_le (ha0) (ha0)) (hb3)) (hd3))) (nmul_le (show (18 : Int).natAbs ≤ 18 by decide) (nmul_le (nmul_le (nmul_le (ha0) (ha1)) (hb2)) (hd3)))) (nmul_le (show (18 : Int).natAbs ≤ 18 by decide) (nmul_le (nmul_le (nmul_le (ha0) (ha1)) (hb3)) (hd2)))) (nmul_le (show (18 : Int).natAbs ≤ 18 by decide) (nmul_le (nmul_le (nmul_le (ha0) (ha2)) (hb1)) (hd3)))) (nmul_le (show (24 : Int).natAbs ≤ 24 by decide) (nmul_le (nmul_le (nmul_le (ha0) (ha2)) (hb2)) (hd2)))) (nmul_le (show (18 : Int).natAbs ≤ 18 by decide) (nmul_le (nmul_le (nmul_le (ha0) (ha2)) (hb3)) (hd1)))) (nmul_le (show (108 : Int).natAbs ≤ 108 by decide) (nmul_le (nmul_le (nmul_le (ha0) (ha3)) (hb0)) (hd3)))) (nmul_le (show (18 : Int).natAbs ≤ 18 by decide) (nmul_le (nmul_le (nmul_le (ha0) (ha3)) (hb1)) (hd2)))) (nmul_le (show (18 : Int).natAbs ≤ 18 by decide) (nmul_le (nmul_le (nmul_le (ha0) (ha3)) (hb2)) (hd1)))) (nmul_le (show (108 : Int).natAbs ≤ 108 by decide) (nmul_le (nmul_le (nmul_le (ha0) (ha3)) (hb3)) (hd0)))) (nmul_le (show (12 : Int).natAbs ≤ 12 by decide) (nmul_le (nmul_le (nmul_le (ha1) (ha1)) (hb1)) (hd3)))) (nmul_le (show (2 : Int).natAbs ≤ 2 by decide) (nmul_le (nmul_le (nmul_le (ha1) (ha1)) (hb2)) (hd2)))) (nmul_le (show (12 : Int).natAbs ≤ 12 by decide) (nmul_le (nmul_le (nmul_le (ha1) (ha1)) (hb3)) (hd1)))) (nmul_le (show (18 : Int).natAbs ≤ 18 by decide) (nmul_le (nmul_le (nmul_le (ha1) (ha2)) (hb0)) (hd3)))) (nmul_le (show (4 : Int).natAbs ≤ 4 by decide) (nmul_le (nmul_le (nmul_le (ha1) (ha2)) (hb1)) (hd2)))) (nmul_le (show (4 : Int).natAbs ≤ 4 by decide) (nmul_le (nmul_le (nmul_le (ha1) (ha2)) (hb2)) (hd1)))) (nmul_le (show (18 : Int).natAbs ≤ 18 by decide) (nmul_le (nmul_le (nmul_le (ha1) (ha2)) (hb3)) (hd0)))) (nmul_le (show (18 : Int).natAbs ≤ 18 by decide) (nmul_le (nmul_le (nmul_le (ha1) (ha3)) (hb0)) (hd2)))) (nmul_le (show (24 : Int).natAbs ≤ 24 by decide) (nmul_le (nmul_le (nmul_le (ha1) (ha3)) (hb1)) (hd1)))) (nmul_le (show (18 : Int).natAbs ≤ 18 by decide) (nmul_le (nmul_le (nmul_le (ha1) (ha3)) (hb2)) (hd0)))) (nmul_le (show (12 : Int).natAbs ≤ 12 by decide) (nmul_le (nmul_le (nmul_le (ha2) (ha2)) (hb0)) (hd2)))) (nmul_le (show (2 : Int).natAbs ≤ 2 by decide) (nmul_le (nmul_le (nmul_le (ha2) (ha2)) (hb1)) (hd1)))) (nmul_le (show (12 : Int).natAbs ≤ 12 by decide) (nmul_le (nmul_le (nmul_le (ha2) (ha2)) (hb2)) (hd0)))) (nmul_le (show (18 : Int).natAbs ≤ 18 by decide) (nmul_le (nmul_le (nmul_le (ha2) (ha3)) (hb0)) (hd1)))) (nmul_le (show (18 : Int).natAbs ≤ 18 by decide) (nmul_le (nmul_le (nmul_le (ha2) (ha3)) (hb1)) (hd0)))) (nmul_le (show (54 : Int).natAbs ≤ 54 by decide) (nmul_le (nmul_le (nmul_le (ha3) (ha3)) (hb0)) (hd0)))
theorem rcb5 (Z c : Nat → Int) (h : bx7 Z) (ha : agr 1 2 Z c) : (rc 1 2 c).natAbs ≤ 100 := by
  have h0 := h 0
  have h1 := h 1
  have h2 := h 2
  have h3 := h 3
  have h4 := h 4
  obtain ⟨a0, a1, a2, a3, a4⟩ := ha
  unfold rc
  omega
theorem rcb6 (Z c : Nat → Int) (h : bx7 Z) (ha : agr 1 (-2) Z c) : (rc 1 (-2) c).natAbs ≤ 100 := by
  have h0 := h 0
  have h1 := h 1
  have h2 := h 2
  have h3 := h 3
  have h4 := h 4
  obtain ⟨a0, a1, a2, a3, a4⟩ := ha
  unfold rc
  omega
theorem rcb7 (Z c : Nat → Int) (h : bx7 Z) (ha : agr 2 1 Z c) : (rc 2 1 c).natAbs ≤ 100 := by
  have h0 := h 0
  have h1 := h 1
  have h2 := h 2
  have h3 := h 3
  have h4 := h 4
  obtain ⟨a0, a1, a2, a3, a4⟩ := ha
  unfold rc
  omega
theorem rcb8 (Z c : Nat → Int) (h : bx7 Z) (ha : agr 2 (-1) Z c) : (rc 2 (-1) c).natAbs ≤ 100 := by
  have h0 := h 0
  have h1 := h 1
  have h2 := h 2
  have h3 := h 3
  have h4 := h 4
  obtain ⟨a0, a1, a2, a3, a4⟩ := ha
  unfold rc
  omega
theorem joinAb (p q : Int) (X Y W a b d : Nat → Int) (ha : agr p q X a) (hb : agr p q Y b) (hd : agr p q W d) (ba : bcn 7 a) (bb : bcn 7 b) (bd : bcn 7 d) (hr : rc p q a = 0) (be : (rc p q b).natAbs ≤ 100) (bo : (rc p q d).natAbs ≤ 100) (c e1 g1 e2 m h1 e3 n1 n2 k0 H411 H402 H330 H321 H312 H303 H240 H231 H222 H213 H204 H150 H141 H132 H123 H114 H105 H060 H051 H042 H033 H024 H015 H006 : Int) (he : e1 ≠ 0) (hc : c ≠ 0) (hp : ∀ n : Int, 27 * n ∣ tT420 X Y W → 27 * n ∣ tT411 X Y W → 27 * n ∣ tT402 X Y W → 27 * n ∣ tT330 X Y W → 27 * n ∣ tT321 X Y W → 27 * n ∣ tT312 X Y W → 27 * n ∣ tT303 X Y W → 27 * n ∣ tT240 X Y W → 27 * n ∣ tT231 X Y W → 27 * n ∣ tT222 X Y W → 27 * n ∣ tT213 X Y W → 27 * n ∣ tT204 X Y W → 27 * n ∣ tT150 X Y W → 27 * n ∣ tT141 X Y W → 27 * n ∣ tT132 X Y W → 27 * n ∣ tT123 X Y W → 27 * n ∣ tT114 X Y W → 27 * n ∣ tT105 X Y W → 27 * n ∣ tT060 X Y W → 27 * n ∣ tT051 X Y W → 27 * n ∣ tT042 X Y W → 27 * n ∣ tT033 X Y W → 27 * n ∣ tT024 X Y W → 27 * n ∣ tT015 X Y W → 27 * n ∣ tT006 X Y W → n ∣ c) (t420 : tT420 X Y W = 27 * c * (e1 * e1)) (t411 : tT411 X Y W = 27 * c * (2 * e1 * g1 + 18446744073709551616 * H411)) (t402 : tT402 X Y W = 27 * c * (g1 * g1 + 18446744073709551616 * H402)) (t330 : tT330 X Y W = 27 * c * (2 * e1 * e2 + 18446744073709551616 * H330)) (t321 : tT321 X Y W = 27 * c * (2 * e1 * m + 2 * g1 * e2 + 18446744073709551616 * H321)) (t312 : tT312 X Y W = 27 * c * (2 * e1 * h1 + 2 * g1 * m + 18446744073709551616 * H312)) (t303 : tT303 X Y W = 27 * c * (2 * g1 * h1 + 18446744073709551616 * H303)) (t240 : tT240 X Y W = 27 * c * (2 * e1 * e3 + e2 * e2 + 18446744073709551616 * H240)) (t231 : tT231 X Y W = 27 * c * (2 * e1 * n1 + (2 * g1 * e3 + 2 * e2 * m) + 18446744073709551616 * H231)) (t222 : tT222 X Y W = 27 * c * (2 * e1 * n2 + (2 * g1 * n1 + (m * m + 2 * e2 * h1)) + 18446744073709551616 * H222)) (t213 : tT213 X Y W = 27 * c * (2 * e1 * k0 + (2 * g1 * n2 + 2 * m * h1) + 18446744073709551616 * H213)) (t204 : tT204 X Y W = 27 * c * (2 * g1 * k0 + h1 * h1 + 18446744073709551616 * H204)) (t150 : tT150 X Y W = 27 * c * (2 * e2 * e3 + 18446744073709551616 * H150)) (t141 : tT141 X Y W = 27 * c * (2 * e2 * n1 + 2 * m * e3 + 18446744073709551616 * H141)) (t132 : tT132 X Y W = 27 * c * (2 * e2 * n2 + (2 * m * n1 + 2 * h1 * e3) + 18446744073709551616 * H132)) (t123 : tT123 X Y W = 27 * c * (2 * h1 * n1 + (2 * m * n2 + 2 * e2 * k0) + 18446744073709551616 * H123)) (t114 : tT114 X Y W = 27 * c * (2 * h1 * n2 + 2 * m * k0 + 18446744073709551616 * H114)) (t105 : tT105 X Y W = 27 * c * (2 * h1 * k0 + 18446744073709551616 * H105)) (t060 : tT060 X Y W = 27 * c * (e3 * e3 + 18446744073709551616 * H060)) (t051 : tT051 X Y W = 27 * c * (2 * e3 * n1 + 18446744073709551616 * H051)) (t042 : tT042 X Y W = 27 * c * (n1 * n1 + 2 * e3 * n2 + 18446744073709551616 * H042)) (t033 : tT033 X Y W = 27 * c * (2 * e3 * k0 + 2 * n1 * n2 + 18446744073709551616 * H033)) (t024 : tT024 X Y W = 27 * c * (n2 * n2 + 2 * k0 * n1 + 18446744073709551616 * H024)) (t015 : tT015 X Y W = 27 * c * (2 * k0 * n2 + 18446744073709551616 * H015)) (t006 : tT006 X Y W = 27 * c * (k0 * k0 + 18446744073709551616 * H006)) (d411 : (2 * e1 * g1).natAbs ≤ 2 ^ 63) (d330 : (2 * e1 * e2).natAbs ≤ 2 ^ 63) (d321 : (2 * e1 * m).natAbs ≤ 2 ^ 63) (d312 : (2 * e1 * h1).natAbs ≤ 2 ^ 63) (d240 : (2 * e1 * e3).natAbs ≤ 2 ^ 63) (d231 : (2 * e1 * n1).natAbs ≤ 2 ^ 63) (d222 : (2 * e1 * n2).natAbs ≤ 2 ^ 63) (d213 : (2 * e1 * k0).natAbs ≤ 2 ^ 63) :
    (H411 = 0 ∧ H402 = 0 ∧ H330 = 0 ∧ H321 = 0 ∧ H312 = 0 ∧ H303 = 0 ∧ H240 = 0 ∧ H231 = 0 ∧ H222 = 0 ∧ H213 = 0 ∧ H204 = 0) ∧ (H150 = 0 ∧ H141 = 0 ∧ H132 = 0 ∧ H123 = 0 ∧ H114 = 0 ∧ H105 = 0) ∧ H060 = 0 ∧ H051 = 0 ∧ H042 = 0 ∧ H033 = 0 ∧ H024 = 0 ∧ H015 = 0 ∧ H006 = 0 := by
  have Ba : bc7 a := ba
  have Bb : bc7 b := bb
  have Bd : bc7 d := bd
  have key : ∀ i j, i + j ≤ 6 → tTf X Y W i j = 27 * sSf (rc p q b) (rc p q d) a b d i j := by
    intro i j hij
    rw [tT_v5, agr_lc p q X a ha, agr_lc p q Y b hb, agr_lc p q W d hd]
    exact tT_lc p q a b d hr i j hij
  generalize rc p q b = et at *
  generalize rc p q d = om at *
  have s420 := key 4 2 (by decide)
  have s411 := key 4 1 (by decide)
  have s402 := key 4 0 (by decide)
  have s330 := key 3 3 (by decide)
  have s321 := key 3 2 (by decide)
  have s312 := key 3 1 (by decide)
  have s303 := key 3 0 (by decide)
  have s240 := key 2 4 (by decide)
  have s231 := key 2 3 (by decide)
  have s222 := key 2 2 (by decide)
  have s213 := key 2 1 (by decide)
  have s204 := key 2 0 (by decide)
  have s150 := key 1 5 (by decide)
  have s141 := key 1 4 (by decide)
  have s132 := key 1 3 (by decide)
  have s123 := key 1 2 (by decide)
  have s114 := key 1 1 (by decide)
  have s105 := key 1 0 (by decide)
  have s060 := key 0 6 (by decide)
  have s051 := key 0 5 (by decide)
  have s042 := key 0 4 (by decide)
  have s033 := key 0 3 (by decide)
  have s024 := key 0 2 (by decide)
  have s015 := key 0 1 (by decide)
  have s006 := key 0 0 (by decide)
  simp only [tTf, sSf] at s420 s411 s402 s330 s321 s312 s303 s240 s231 s222 s213 s204 s150 s141 s132 s123 s114 s105 s060 s051 s042 s033 s024 s015 s006
  have cn : ∀ T c f S : Int, T = 27 * c * f → T = 27 * S → c * f = S := by
    intro T c f S h1 h2
    rw [h2, Int.mul_assoc] at h1
    exact (cnl (by decide) h1).symm
  have het : et ≠ 0 := by
    intro z
    have w := cn _ _ _ _ t420 s420
    rw [z, Int.zero_mul, Int.zero_mul] at w
    rcases Int.mul_eq_zero.mp w with r | r
    · exact hc r
    · rcases Int.mul_eq_zero.mp r with r | r <;> exact he r
  have hD : dc a ≠ 0 := by
    intro z
    have w := cn _ _ _ _ t420 s420
    rw [z, Int.mul_zero] at w
    rcases Int.mul_eq_zero.mp w with r | r
    · exact hc r
    · rcases Int.mul_eq_zero.mp r with r | r <;> exact he r
  obtain ⟨mu, al, bl, g0, g1', g2, g3⟩ := two_pw et.natAbs et om (Nat.le_refl _) het
  have dA : ∀ x : Int, mu * mu ∣ et * et * x := fun x => ⟨al * al * x, by rw [g1']; clear g1' g2 key; grind⟩
  have dB : ∀ x : Int, mu * mu ∣ 2 * et * om * x := fun x => ⟨2 * al * bl * x, by rw [g1', g2]; clear g1' g2 key; grind⟩
  have dC : ∀ x : Int, mu * mu ∣ om * om * x := fun x => ⟨bl * bl * x, by rw [g2]; clear g1' g2 key; grind⟩
  have hmc : mu * mu ∣ c := by
    apply hp
    · rw [s420]; exact Int.mul_dvd_mul_left 27 (dA _)
    · rw [s411]; exact Int.mul_dvd_mul_left 27 (dB _)
    · rw [s402]; exact Int.mul_dvd_mul_left 27 (dC _)
    · rw [s330]; exact Int.mul_dvd_mul_left 27 (dA _)
    · rw [s321]; exact Int.mul_dvd_mul_left 27 (Int.dvd_add (dA _) (dB _))
    · rw [s312]; exact Int.mul_dvd_mul_left 27 (Int.dvd_add (dB _) (dC _))
    · rw [s303]; exact Int.mul_dvd_mul_left 27 (dC _)
    · rw [s240]; exact Int.mul_dvd_mul_left 27 (dA _)
    · rw [s231]; exact Int.mul_dvd_mul_left 27 (Int.dvd_add (dA _) (dB _))
    · rw [s222]; exact Int.mul_dvd_mul_left 27 (Int.dvd_add (Int.dvd_add (dA _) (dB _)) (dC _))
    · rw [s213]; exact Int.mul_dvd_mul_left 27 (Int.dvd_add (dB _) (dC _))
    · rw [s204]; exact Int.mul_dvd_mul_left 27 (dC _)
    · rw [s150]; exact Int.mul_dvd_mul_left 27 (dA _)
    · rw [s141]; exact Int.mul_dvd_mul_left 27 (Int.dvd_add (dA _) (dB _))
    · rw [s132]; exact Int.mul_dvd_mul_left 27 (Int.dvd_add (Int.dvd_add (dA _) (dB _)) (dC _))
    · rw [s123]; exact Int.mul_dvd_mul_left 27 (Int.dvd_add (Int.dvd_add (dA _) (dB _)) (dC _))
    · rw [s114]; exact Int.mul_dvd_mul_left 27 (Int.dvd_add (dB _) (dC _))
    · rw [s105]; exact Int.mul_dvd_mul_left 27 (dC _)
    · rw [s060]; exact Int.mul_dvd_mul_left 27 (dA _)
    · rw [s051]; exact Int.mul_dvd_mul_left 27 (Int.dvd_add (dA _) (dB _))
    · rw [s042]; exact Int.mul_dvd_mul_left 27 (Int.dvd_add (Int.dvd_add (dA _) (dB _)) (dC _))
    · rw [s033]; exact Int.mul_dvd_mul_left 27 (Int.dvd_add (Int.dvd_add (dA _) (dB _)) (dC _))
    · rw [s024]; exact Int.mul_dvd_mul_left 27 (Int.dvd_add (Int.dvd_add (dA _) (dB _)) (dC _))
    · rw [s015]; exact Int.mul_dvd_mul_left 27 (Int.dvd_add (dB _) (dC _))
    · rw [s006]; exact Int.mul_dvd_mul_left 27 (dC _)
  obtain ⟨c3, hc3⟩ := hmc
  exact typeAb c c3 mu et om al bl (dc a) (dp a b) (dp a d) (dr a b) (dt a b d) (dr a d) (dp b a) (dt b a d) (dt d a b) (dp d a) (dc b) (dp b d) (dr b d) (dp d b) (dc d) e1 g1 e2 m h1 e3 n1 n2 k0 H411 H402 H330 H321 H312 H303 H240 H231 H222 H213 H204 H150 H141 H132 H123 H114 H105 H060 H051 H042 H033 H024 H015 H006 hc hD he het g0 hc3 g1' g2 g3 be bo (dc_le7 a Ba) (dp_le7 a b Ba Bb) (dp_le7 a d Ba Bd) (Nat.le_trans (dr_le7 a b Ba Bb) (by decide)) (dt_le7 a b d Ba Bb Bd) (Nat.le_trans (dr_le7 a d Ba Bd) (by decide)) (dp_le7 b a Bb Ba) (dt_le7 b a d Bb Ba Bd) (dt_le7 d a b Bd Ba Bb) (dp_le7 d a Bd Ba) (Nat.le_trans (dc_le7 b Bb) (by decide)) (Nat.le_trans (dp_le7 b d Bb Bd) (by decide)) (Nat.le_trans (dr_le7 b d Bb Bd) (by decide)) (Nat.le_trans (dp_le7 d b Bd Bb) (by decide)) (Nat.le_trans (dc_le7 d Bd) (by decide)) (cn _ _ _ _ t420 s420) (cn _ _ _ _ t411 s411) d411 (cn _ _ _ _ t402 s402) (cn _ _ _ _ t330 s330) d330 (cn _ _ _ _ t321 s321) d321 (cn _ _ _ _ t312 s312) d312 (cn _ _ _ _ t303 s303) (cn _ _ _ _ t240 s240) d240 (cn _ _ _ _ t231 s231) d231 (cn _ _ _ _ t222 s222) d222 (cn _ _ _ _ t213 s213) d213 (cn _ _ _ _ t204 s204) (cn _ _ _ _ t150 s150) (cn _ _ _ _ t141 s141) (cn _ _ _ _ t132 s132) (cn _ _ _ _ t123 s123) (cn _ _ _ _ t114 s114) (cn _ _ _ _ t105 s105) (cn _ _ _ _ t060 s060) (cn _ _ _ _ t051 s051) (cn _ _ _ _ t042 s042) (cn _ _ _ _ t033 s033) (cn _ _ _ _ t024 s024) (cn _ _ _ _ t015 s015) (cn _ _ _ _ t006 s006)
