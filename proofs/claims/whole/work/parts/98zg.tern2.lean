/-- the lowest digit that is not 0 bounds the next letter's digit -/
theorem low_dig (e0 e1 e2 e3 g1 m n f321 f231 f141 f051 : Int) (B Mb : Nat) (t : Nat) (ht : 1 ≤ t) (h0 : t ≤ e0.natAbs) (hm : m.natAbs ≤ Mb)
    (q1 : f321 = 2 * e0 * n + (2 * e1 * m + 2 * e2 * g1)) (q2 : f231 = 2 * e1 * n + (2 * e2 * m + 2 * e3 * g1)) (q3 : f141 = 2 * e2 * n + 2 * e3 * m) (q4 : f051 = 2 * e3 * n)
    (b1 : f321.natAbs ≤ 60 * B) (b2 : f231.natAbs ≤ 60 * B) (b3 : f141.natAbs ≤ 30 * B) (b4 : f051.natAbs ≤ 6 * B) : n.natAbs ≤ 30 * B ∧ (n.natAbs ≤ 15 * B ∨ 2 * t * n.natAbs ≤ 60 * B + 2 * Mb) := by
  by_cases r3 : e3 = 0
  · subst r3
    by_cases r2 : e2 = 0
    · subst r2
      by_cases r1 : e1 = 0
      · subst r1
        have a : (2 * e0 * n).natAbs ≤ 60 * B := by
          have : 2 * e0 * n = f321 := by omega
          rw [this]; exact b1
        have a2 := div_two e0 n t _ a h0
        have a3 : 2 * 1 * n.natAbs ≤ 2 * t * n.natAbs := Nat.mul_le_mul (Nat.mul_le_mul (Nat.le_refl 2) ht) (Nat.le_refl _)
        refine ⟨by omega, Or.inr (by omega)⟩
      · have a : (2 * e1 * n).natAbs ≤ 60 * B := by
          have : 2 * e1 * n = f231 := by omega
          rw [this]; exact b2
        rcases Nat.lt_or_ge e1.natAbs 2 with s | s
        · have a2 := div_two e1 n 1 _ a (by omega)
          refine ⟨by omega, Or.inr ?_⟩
          have a3 : (2 * e0 * n).natAbs ≤ 60 * B + 2 * Mb := by
            have : 2 * e0 * n = f321 - 2 * e1 * m := by omega
            rw [this]
            refine ns_le b1 ?_
            rw [Int.natAbs_mul, Int.natAbs_mul]
            have : (2 : Int).natAbs * e1.natAbs ≤ 2 := by
              show 2 * e1.natAbs ≤ 2
              omega
            exact Nat.mul_le_mul this hm
          exact div_two e0 n t _ a3 h0
        · have a2 := div_two e1 n 2 _ a s
          exact ⟨by omega, Or.inl (by omega)⟩
    · have a : (2 * e2 * n).natAbs ≤ 30 * B := by
        have : 2 * e2 * n = f141 := by omega
        rw [this]; exact b3
      have a2 := div_two e2 n 1 _ a (by omega)
      exact ⟨by omega, Or.inl (by omega)⟩
  · have a2 := div_two e3 n 1 _ (by rw [← q4]; exact b4) (by omega)
    exact ⟨by omega, Or.inl (by omega)⟩
/-- THREE LETTERS: all the mixed numbers are true -/
theorem tern2 (e0 e1 e2 e3 g1 h1 k0 m n1 n2 f411 f321 f312 f231 f222 f213 f141 f132 f123 f114 f051 f042 f033 f024 f015 H411 H321 H312 H231 H222 H213 H141 H132 H123 H114 H051 H042 H033 H024 H015 : Int) (B P E Mb Nb t : Nat)
    (a0 : e0.natAbs ≤ P) (a1 : e1.natAbs ≤ E) (a2 : e2.natAbs ≤ E) (a3 : e3.natAbs ≤ P) (b1 : g1.natAbs ≤ E) (b2 : h1.natAbs ≤ E) (b3 : k0.natAbs ≤ P) (ht : 1 ≤ t) (ht0 : t ≤ e0.natAbs)
    (hB : B ≤ 153174641) (hBt : B ≤ 76587321 * t) (hP : P ≤ 12377) (hE : E ≤ 61900) (hPE : P ≤ E) (hMb : Mb ≤ 3070000000)
    (c1 : 30 * B + 2 * E * E ≤ 2 * t * Mb) (c2 : 60 * B + (2 * E * Mb + 2 * E * E) ≤ 2 * t * Nb) (c3 : 60 * B + (2 * E * Nb + (2 * E * Mb + 2 * P * E)) < 18446744073709551616)
    (q411 : f411 = 2 * e0 * m + 2 * e1 * g1 + 18446744073709551616 * H411) (d1 : (2 * e0 * m).natAbs ≤ 2 ^ 63)
    (q321 : f321 = 2 * e0 * n1 + (2 * e1 * m + 2 * e2 * g1) + 18446744073709551616 * H321) (d2 : (2 * e0 * n1).natAbs ≤ 2 ^ 63)
    (q312 : f312 = 2 * e0 * n2 + (2 * g1 * m + 2 * h1 * e1) + 18446744073709551616 * H312) (d3 : (2 * e0 * n2).natAbs ≤ 2 ^ 63)
    (q231 : f231 = 2 * e1 * n1 + (2 * e2 * m + 2 * e3 * g1) + 18446744073709551616 * H231)
    (q222 : f222 = m * m + (2 * e1 * n2 + (2 * g1 * n1 + 2 * e2 * h1)) + 18446744073709551616 * H222)
    (q213 : f213 = 2 * g1 * n2 + (2 * h1 * m + 2 * k0 * e1) + 18446744073709551616 * H213)
    (q141 : f141 = 2 * e2 * n1 + 2 * e3 * m + 18446744073709551616 * H141)
    (q132 : f132 = 2 * e2 * n2 + (2 * m * n1 + 2 * h1 * e3) + 18446744073709551616 * H132)
    (q123 : f123 = 2 * h1 * n1 + (2 * m * n2 + 2 * e2 * k0) + 18446744073709551616 * H123)
    (q114 : f114 = 2 * h1 * n2 + 2 * k0 * m + 18446744073709551616 * H114)
    (q051 : f051 = 2 * e3 * n1 + 18446744073709551616 * H051)
    (q042 : f042 = n1 * n1 + 2 * e3 * n2 + 18446744073709551616 * H042)
    (q033 : f033 = 2 * e3 * k0 + 2 * n1 * n2 + 18446744073709551616 * H033)
    (q024 : f024 = n2 * n2 + 2 * k0 * n1 + 18446744073709551616 * H024)
    (q015 : f015 = 2 * k0 * n2 + 18446744073709551616 * H015)
    (u411 : f411.natAbs ≤ 30 * B) (u321 : f321.natAbs ≤ 60 * B) (u312 : f312.natAbs ≤ 60 * B) (u231 : f231.natAbs ≤ 60 * B) (u222 : f222.natAbs ≤ 90 * B) (u213 : f213.natAbs ≤ 60 * B) (u141 : f141.natAbs ≤ 30 * B) (u132 : f132.natAbs ≤ 60 * B) (u123 : f123.natAbs ≤ 60 * B) (u114 : f114.natAbs ≤ 30 * B) (u051 : f051.natAbs ≤ 6 * B) (u042 : f042.natAbs ≤ 15 * B) (u033 : f033.natAbs ≤ 20 * B) (u024 : f024.natAbs ≤ 15 * B) (u015 : f015.natAbs ≤ 6 * B) :
    H411 = 0 ∧ H321 = 0 ∧ H312 = 0 ∧ H231 = 0 ∧ H222 = 0 ∧ H213 = 0 ∧ H141 = 0 ∧ H132 = 0 ∧ H123 = 0 ∧ H114 = 0 ∧ H051 = 0 ∧ H042 = 0 ∧ H033 = 0 ∧ H024 = 0 ∧ H015 = 0 := by
  have two : ∀ {x y : Int} {p q : Nat}, x.natAbs ≤ p → y.natAbs ≤ q → (2 * x * y).natAbs ≤ 2 * p * q := fun h1 h2 => nmul_le (nmul_le k2 h1) h2
  have EE : E * E ≤ 61900 * 61900 := Nat.mul_le_mul hE hE
  have EM : E * Mb ≤ 61900 * 3070000000 := Nat.mul_le_mul hE hMb
  have PE : P * E ≤ 12377 * 61900 := Nat.mul_le_mul hP hE
  have PM : P * Mb ≤ 12377 * 3070000000 := Nat.mul_le_mul hP hMb
  have PP : P * P ≤ 12377 * 12377 := Nat.mul_le_mul hP hP
  have e63 : (2 : Nat) ^ 63 = 9223372036854775808 := by decide +kernel
  have r1 : 2 * E * E = 2 * (E * E) := Nat.mul_assoc _ _ _
  have r2 : 2 * E * Mb = 2 * (E * Mb) := Nat.mul_assoc _ _ _
  have r3 : 2 * P * E = 2 * (P * E) := Nat.mul_assoc _ _ _
  have r4 : 2 * E * Nb = 2 * (E * Nb) := Nat.mul_assoc _ _ _
  have r5 : 2 * P * Mb = 2 * (P * Mb) := Nat.mul_assoc _ _ _
  have r6 : 2 * P * P = 2 * (P * P) := Nat.mul_assoc _ _ _
  have PN : P * Nb ≤ E * Nb := Nat.mul_le_mul hPE (Nat.le_refl _)
  have PM' : P * Mb ≤ E * Mb := Nat.mul_le_mul hPE (Nat.le_refl _)
  have r7 : 2 * P * Nb = 2 * (P * Nb) := Nat.mul_assoc _ _ _
  -- the digits
  obtain ⟨z411, s1⟩ := dig_true e0 m f411 (2 * e1 * g1) H411 (30 * B) (2 * E * E) q411 u411 (two a1 b1) d1 (by rw [e63]; omega)
  have vm : m.natAbs ≤ Mb := by
    have w := div_two e0 m t _ (Nat.le_trans s1 c1) ht0
    exact Nat.le_of_mul_le_mul_left w (Nat.mul_pos (by decide) ht)
  obtain ⟨z321, s2⟩ := dig_true e0 n1 f321 _ H321 (60 * B) (2 * E * Mb + 2 * E * E) q321 u321 (na_le (two a1 vm) (two a2 b1)) d2 (by rw [e63]; omega)
  have v1 : n1.natAbs ≤ Nb := by
    have w := div_two e0 n1 t _ (Nat.le_trans s2 c2) ht0
    exact Nat.le_of_mul_le_mul_left w (Nat.mul_pos (by decide) ht)
  obtain ⟨z312, s3⟩ := dig_true e0 n2 f312 _ H312 (60 * B) (2 * E * Mb + 2 * E * E) q312 u312 (na_le (two b1 vm) (two b2 a1)) d3 (by rw [e63]; omega)
  have v2 : n2.natAbs ≤ Nb := by
    have w := div_two e0 n2 t _ (Nat.le_trans s3 c2) ht0
    exact Nat.le_of_mul_le_mul_left w (Nat.mul_pos (by decide) ht)
  clear s1 s2 s3 d1 d2 d3
  -- linear in the third letter
  have z231 := num_true f231 _ H231 (60 * B) (2 * E * Nb + (2 * E * Mb + 2 * P * E)) q231 u231 (na_le (two a1 v1) (na_le (two a2 vm) (two a3 b1))) c3
  have z141 := num_true f141 _ H141 (30 * B) (2 * E * Nb + 2 * P * Mb) q141 u141 (na_le (two a2 v1) (two a3 vm)) (by omega)
  have z051 := num_true f051 _ H051 (6 * B) (2 * P * Nb) q051 u051 (two a3 v1) (by omega)
  have z213 := num_true f213 _ H213 (60 * B) (2 * E * Nb + (2 * E * Mb + 2 * P * E)) q213 u213 (na_le (two b1 v2) (na_le (two b2 vm) (two b3 a1))) c3
  have z114 := num_true f114 _ H114 (30 * B) (2 * E * Nb + 2 * P * Mb) q114 u114 (na_le (two b2 v2) (two b3 vm)) (by omega)
  have z015 := num_true f015 _ H015 (6 * B) (2 * P * Nb) q015 u015 (two b3 v2) (by omega)
  rw [z321, Int.mul_zero, Int.add_zero] at q321
  rw [z312, Int.mul_zero, Int.add_zero] at q312
  rw [z231, Int.mul_zero, Int.add_zero] at q231
  rw [z141, Int.mul_zero, Int.add_zero] at q141
  rw [z051, Int.mul_zero, Int.add_zero] at q051
  rw [z213, Int.mul_zero, Int.add_zero] at q213
  rw [z114, Int.mul_zero, Int.add_zero] at q114
  rw [z015, Int.mul_zero, Int.add_zero] at q015
  have q312' : f312 = 2 * e0 * n2 + (2 * g1 * m + 2 * h1 * e1) := q312
  have L1 := low_dig e0 e1 e2 e3 g1 m n1 f321 f231 f141 f051 B Mb t ht ht0 vm q321 q231 q141 q051 u321 u231 u141 u051
  have L2 := low_dig e0 g1 h1 k0 e1 m n2 f312 f213 f114 f015 B Mb t ht ht0 vm q312' q213 q114 q015 u312 u213 u114 u015
  have N0 : n1.natAbs ≤ 4595239230 := by omega
  have N0' : n2.natAbs ≤ 4595239230 := by omega
  have EL : E ≤ 61900 := hE
  have t1 : (2 * e1 * n2).natAbs ≤ 2 * 61900 * 4595239230 := two (Nat.le_trans a1 hE) N0'
  have t2 : (2 * g1 * n1).natAbs ≤ 2 * 61900 * 4595239230 := two (Nat.le_trans b1 hE) N0
  have t3 : (2 * e2 * h1).natAbs ≤ 2 * 61900 * 61900 := two (Nat.le_trans a2 hE) (Nat.le_trans b2 hE)
  have t4 : (m * m).natAbs ≤ 3070000000 * 3070000000 := nmul_le (Nat.le_trans vm hMb) (Nat.le_trans vm hMb)
  have z222 := num_true f222 _ H222 (90 * B) (3070000000 * 3070000000 + (2 * 61900 * 4595239230 + (2 * 61900 * 4595239230 + 2 * 61900 * 61900))) q222 u222 (na_le t4 (na_le t1 (na_le t2 t3))) (by omega)
  have vm2 : m.natAbs ≤ 34000000 := by
    apply nsq_le
    have : m * m = f222 - (2 * e1 * n2 + (2 * g1 * n1 + 2 * e2 * h1)) := by
      rw [z222, Int.mul_zero, Int.add_zero] at q222
      omega
    rw [this]
    refine Nat.le_trans (ns_le u222 (na_le t1 (na_le t2 t3))) ?_
    omega
  have L3 := low_dig e0 e1 e2 e3 g1 m n1 f321 f231 f141 f051 B 34000000 t ht ht0 vm2 q321 q231 q141 q051 u321 u231 u141 u051
  have L4 := low_dig e0 g1 h1 k0 e1 m n2 f312 f213 f114 f015 B 34000000 t ht ht0 vm2 q312' q213 q114 q015 u312 u213 u114 u015
  have fin : ∀ n : Nat, (n ≤ 15 * B ∨ 2 * t * n ≤ 60 * B + 2 * 34000000) → n ≤ 2331619630 := by
    intro n h
    rcases h with h | h
    · omega
    · have w : 2 * t * n ≤ t * 4663239260 := by omega
      have w2 : 2 * t * n = t * (2 * n) := by grind
      rw [w2] at w
      have := Nat.le_of_mul_le_mul_left w ht
      omega
  have N1 : n1.natAbs ≤ 2331619630 := fin _ L3.2
  have N2 : n2.natAbs ≤ 2331619630 := fin _ L4.2
  have s1 : (2 * e2 * n2).natAbs ≤ 2 * 61900 * 2331619630 := two (Nat.le_trans a2 hE) N2
  have s2 : (2 * m * n1).natAbs ≤ 2 * 34000000 * 2331619630 := two vm2 N1
  have s3 : (2 * h1 * e3).natAbs ≤ 2 * 61900 * 12377 := two (Nat.le_trans b2 hE) (Nat.le_trans a3 hP)
  have z132 := num_true f132 _ H132 (60 * B) (2 * 61900 * 2331619630 + (2 * 34000000 * 2331619630 + 2 * 61900 * 12377)) q132 u132 (na_le s1 (na_le s2 s3)) (by omega)
  have s4 : (2 * h1 * n1).natAbs ≤ 2 * 61900 * 2331619630 := two (Nat.le_trans b2 hE) N1
  have s5 : (2 * m * n2).natAbs ≤ 2 * 34000000 * 2331619630 := two vm2 N2
  have s6 : (2 * e2 * k0).natAbs ≤ 2 * 61900 * 12377 := two (Nat.le_trans a2 hE) (Nat.le_trans b3 hP)
  have z123 := num_true f123 _ H123 (60 * B) (2 * 61900 * 2331619630 + (2 * 34000000 * 2331619630 + 2 * 61900 * 12377)) q123 u123 (na_le s4 (na_le s5 s6)) (by omega)
  have s7 : (2 * e3 * n2).natAbs ≤ 2 * 12377 * 2331619630 := two (Nat.le_trans a3 hP) N2
  have s8 : (2 * k0 * n1).natAbs ≤ 2 * 12377 * 2331619630 := two (Nat.le_trans b3 hP) N1
  have z042 := num_true f042 _ H042 (15 * B) (2331619630 * 2331619630 + 2 * 12377 * 2331619630) q042 u042 (na_le (nmul_le N1 N1) s7) (by omega)
  have z024 := num_true f024 _ H024 (15 * B) (2331619630 * 2331619630 + 2 * 12377 * 2331619630) q024 u024 (na_le (nmul_le N2 N2) s8) (by omega)
  have w1 : n1.natAbs ≤ 7600000 := by
    apply nsq_le
    have : n1 * n1 = f042 - 2 * e3 * n2 := by
      rw [z042, Int.mul_zero, Int.add_zero] at q042
      omega
    rw [this]
    refine Nat.le_trans (ns_le u042 s7) ?_
    omega
  have w2 : n2.natAbs ≤ 7600000 := by
    apply nsq_le
    have : n2 * n2 = f024 - 2 * k0 * n1 := by
      rw [z024, Int.mul_zero, Int.add_zero] at q024
      omega
    rw [this]
    refine Nat.le_trans (ns_le u024 s8) ?_
    omega
  have z033 := num_true f033 _ H033 (20 * B) (2 * 12377 * 12377 + 2 * 7600000 * 7600000) q033 u033 (na_le (two (Nat.le_trans a3 hP) (Nat.le_trans b3 hP)) (two w1 w2)) (by omega)
  exact ⟨z411, z321, z312, z231, z222, z213, z141, z132, z123, z114, z051, z042, z033, z024, z015⟩
