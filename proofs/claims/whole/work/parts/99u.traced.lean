/-! traced, mod a number -/
def mo (md a : Int64) (z : Int) : Prop := 0 ≤ a.toInt ∧ a.toInt < md.toInt ∧ ∃ m : Int, a.toInt = z + md.toInt * m
theorem mp_0 {md : Int64} (h : 1 ≤ md.toInt) : mo md 0 0 := ⟨by decide, by show (0 : Int) < _; omega, 0, by rw [Int.mul_zero]; rfl⟩
theorem mo_r {md a : Int64} {z : Int} (h : 1 ≤ md.toInt) (h0 : 0 ≤ a.toInt) (ha : ∃ m : Int, a.toInt = z + md.toInt * m) : mo md (a - a / md * md) z := by
  obtain ⟨m, hm⟩ := ha
  unfold mo
  rw [l_rem, Int.tmod_eq_emod_of_nonneg h0]
  refine ⟨Int.emod_nonneg _ (by omega), Int.emod_lt_of_pos _ (by omega), m - a.toInt / md.toInt, ?_⟩
  have := Int.mul_ediv_add_emod a.toInt md.toInt
  rw [Int.mul_sub]
  omega
theorem mo_rest {md v : Int64} (h : 1 ≤ md.toInt ∧ md.toInt ≤ 2147483647) : mo md ((v - v / md * md + md) - (v - v / md * md + md) / md * md) v.toInt := by
  have e := l_rem v md
  have h1 : v.toInt.tmod md.toInt < md.toInt := Int.tmod_lt_of_pos _ (by omega)
  have h2 : -md.toInt < v.toInt.tmod md.toInt := by
    have := Int.lt_tmod_of_pos v.toInt (show 0 < md.toInt by omega)
    omega
  have e2 : (v - v / md * md + md).toInt = v.toInt.tmod md.toInt + md.toInt := by
    rw [Int64.toInt_add, e]
    exact Int.bmod_eq_of_le (by omega) (by omega)
  refine mo_r h.1 (by omega) ⟨1 - v.toInt.tdiv md.toInt, ?_⟩
  rw [e2]
  have := Int.mul_tdiv_add_tmod v.toInt md.toInt
  rw [Int.mul_sub]
  omega
theorem mo_mul {md a b : Int64} {x y : Int} (h : 1 ≤ md.toInt ∧ md.toInt ≤ 2147483647) (ha : mo md a x) (hb : mo md b y) : mo md (a * b - a * b / md * md) (x * y) := by
  obtain ⟨a1, a2, m, a3⟩ := ha
  obtain ⟨b1, b2, n, b3⟩ := hb
  have p0 : 0 ≤ a.toInt * b.toInt := Int.mul_nonneg a1 b1
  have p1 : a.toInt * b.toInt ≤ 2147483647 * 2147483647 := Int.mul_le_mul (by omega) (by omega) b1 (by decide)
  have e : (a * b).toInt = a.toInt * b.toInt := by
    rw [Int64.toInt_mul]
    exact Int.bmod_eq_of_le (by omega) (by omega)
  refine mo_r h.1 (by omega) ⟨x * n + m * y + md.toInt * (m * n), ?_⟩
  rw [e, a3, b3]
  clear a1 a2 a3 b1 b2 b3 p0 p1 e
  grind
theorem mo_add {md a b : Int64} {x y : Int} (h : 1 ≤ md.toInt ∧ md.toInt ≤ 2147483647) (ha : mo md a x) (hb : mo md b y) : mo md (a + b - (a + b) / md * md) (x + y) := by
  obtain ⟨a1, a2, m, a3⟩ := ha
  obtain ⟨b1, b2, n, b3⟩ := hb
  have e : (a + b).toInt = a.toInt + b.toInt := by
    rw [Int64.toInt_add]
    exact Int.bmod_eq_of_le (by omega) (by omega)
  refine mo_r h.1 (by omega) ⟨m + n, ?_⟩
  rw [e, a3, b3, Int.mul_add]
  omega
theorem mo_z {md a : Int64} {z : Int} (h : mo md a z) (hz : z = 0) : a = 0 := by
  obtain ⟨a1, a2, m, a3⟩ := h
  rw [hz, Int.zero_add] at a3
  apply i64_z
  have m0 : m = 0 := by
    rcases Int.lt_trichotomy m 0 with q | q | q
    · have := Int.mul_le_mul_of_nonneg_left (show m ≤ -1 by omega) (show 0 ≤ md.toInt by omega)
      omega
    · exact q
    · have := Int.mul_le_mul_of_nonneg_left (show 1 ≤ m by omega) (show 0 ≤ md.toInt by omega)
      omega
  rw [a3, m0, Int.mul_zero]
def pf (i j : Nat) (x y w : Int) : Nat → Int
  | 0 => 1
  | k + 1 => pf i j x y w k * (if k < i then x else if k < i + j then y else w)
def ts (f : Nat → Int64) (D : Nat) (x y w : Int) : Nat → Int
  | 0 => 0
  | N + 1 => ts f D x y w N + (if N / 7 + N % 7 ≤ D then (f N).toInt * pf (N / 7) (N % 7) x y w D else 0)
theorem pf_s {md mm r : Int64} {i j k : Int} {e x y w : Int} {vv : Int} (hi : 0 ≤ i) (hj : 0 ≤ j) (hk : 0 ≤ k) (hm : 1 ≤ md.toInt ∧ md.toInt ≤ 2147483647) (h : mo md mm (e * pf i.toNat j.toNat x y w k.toNat)) (hv : vv = if k < i then x else if k < i + j then y else w) (hr : mo md r vv) : mo md (mm * r - mm * r / md * md) (e * pf i.toNat j.toNat x y w (k + 1).toNat) := by
  have h2 := mo_mul hm h hr
  have e1 : e * pf i.toNat j.toNat x y w k.toNat * vv = e * pf i.toNat j.toNat x y w (k + 1).toNat := by
    rw [show (k + 1).toNat = k.toNat + 1 by omega, Int.mul_assoc]
    congr 1
    show _ = pf i.toNat j.toNat x y w k.toNat * (if k.toNat < i.toNat then x else if k.toNat < i.toNat + j.toNat then y else w)
    congr 1
    rw [hv]
    by_cases q : k < i
    · rw [if_pos q, if_pos (by omega)]
    · rw [if_neg q, if_neg (show ¬ k.toNat < i.toNat by omega)]
      by_cases q2 : k < i + j
      · rw [if_pos q2, if_pos (show k.toNat < i.toNat + j.toNat by omega)]
      · rw [if_neg q2, if_neg (show ¬ k.toNat < i.toNat + j.toNat by omega)]
  rw [e1] at h2
  exact h2
theorem ts_s {f : Nat → Int64} {md al mm : Int64} {D i j k : Int} {x y w : Int} (hi : 0 ≤ i ∧ i < 7) (hj : 0 ≤ j ∧ j < 7) (hm : 1 ≤ md.toInt ∧ md.toInt ≤ 2147483647) (hD : 0 ≤ D) (hs : SU f D) (hne : ¬ f (7 * i + j).toNat = 0) (hk : k = D) (h : mo md al (ts f D.toNat x y w (7 * i + j).toNat)) (h2 : mo md mm ((f (7 * i + j).toNat).toInt * pf i.toNat j.toNat x y w k.toNat)) : mo md (al + mm - (al + mm) / md * md) (ts f D.toNat x y w (7 * i + (j + 1)).toNat) := by
  have h3 := mo_add hm h h2
  have hd := SU_le hs (q := 7 * i + j) (by omega) (by omega) hne
  rw [show (7 * i + (j + 1)).toNat = (7 * i + j).toNat + 1 by omega]
  show mo _ _ (ts f D.toNat x y w (7 * i + j).toNat + (if (7 * i + j).toNat / 7 + (7 * i + j).toNat % 7 ≤ D.toNat then _ else 0))
  rw [if_pos (by omega), show (7 * i + j).toNat / 7 = i.toNat by omega, show (7 * i + j).toNat % 7 = j.toNat by omega, ← hk]
  rw [← hk] at h3
  exact h3
theorem ts_z {f : Nat → Int64} {md al : Int64} {D i j : Int} {x y w : Int} (hi : 0 ≤ i) (hj : 0 ≤ j) (h0 : f (7 * i + j).toNat = 0) (h : mo md al (ts f D.toNat x y w (7 * i + j).toNat)) : mo md al (ts f D.toNat x y w (7 * i + (j + 1)).toNat) := by
  rw [show (7 * i + (j + 1)).toNat = (7 * i + j).toNat + 1 by omega]
  show mo _ _ (ts f D.toNat x y w (7 * i + j).toNat + (if (7 * i + j).toNat / 7 + (7 * i + j).toNat % 7 ≤ D.toNat then (f (7 * i + j).toNat).toInt * _ else 0))
  rw [h0, show (0 : Int64).toInt = 0 from rfl, Int.zero_mul]
  by_cases q : (7 * i + j).toNat / 7 + (7 * i + j).toNat % 7 ≤ D.toNat
  · rw [if_pos q, Int.add_zero]
    exact h
  · rw [if_neg q, Int.add_zero]
    exact h
theorem ts_qg {f : Nat → Int64} {D : Nat} (hD : D ≤ 4) (hs : SU f D) (x y w : Int) : w ^ (4 - D) * ts f D x y w 49 = qg (c15 (fun i => (f i).toInt)) x y w := by
  have k : ∀ i, i < 49 → D < i / 7 + i % 7 → (f i).toInt = 0 := fun i hi hd => by
    have := hs (i : Int) (by omega) (by omega) (by omega)
    rw [Int.toNat_natCast] at this
    rw [this]
    rfl
  have : D = 0 ∨ D = 1 ∨ D = 2 ∨ D = 3 ∨ D = 4 := by omega
  unfold qg c15
  simp only [ix15]
  rcases this with rfl | rfl | rfl | rfl | rfl
  · rw [k 28 (by decide) (by decide), k 22 (by decide) (by decide), k 16 (by decide) (by decide), k 10 (by decide) (by decide), k 4 (by decide) (by decide), k 21 (by decide) (by decide), k 15 (by decide) (by decide), k 9 (by decide) (by decide), k 3 (by decide) (by decide), k 14 (by decide) (by decide), k 8 (by decide) (by decide), k 2 (by decide) (by decide), k 7 (by decide) (by decide), k 1 (by decide) (by decide)]
    simp [ts, pf]
    clear k hs
    grind
  · rw [k 28 (by decide) (by decide), k 22 (by decide) (by decide), k 16 (by decide) (by decide), k 10 (by decide) (by decide), k 4 (by decide) (by decide), k 21 (by decide) (by decide), k 15 (by decide) (by decide), k 9 (by decide) (by decide), k 3 (by decide) (by decide), k 14 (by decide) (by decide), k 8 (by decide) (by decide), k 2 (by decide) (by decide)]
    simp [ts, pf]
    clear k hs
    grind
  · rw [k 28 (by decide) (by decide), k 22 (by decide) (by decide), k 16 (by decide) (by decide), k 10 (by decide) (by decide), k 4 (by decide) (by decide), k 21 (by decide) (by decide), k 15 (by decide) (by decide), k 9 (by decide) (by decide), k 3 (by decide) (by decide)]
    simp [ts, pf]
    clear k hs
    grind
  · rw [k 28 (by decide) (by decide), k 22 (by decide) (by decide), k 16 (by decide) (by decide), k 10 (by decide) (by decide), k 4 (by decide) (by decide)]
    simp [ts, pf]
    clear k hs
    grind
  · simp [ts, pf]
    clear k hs
    grind
