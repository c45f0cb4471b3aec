/-! the test of a quartic by its numbers -/
def crL (n : Nat) (f : Nat → Bool) : Bool := Nat.rec true (fun m r => bif f m then r else false) n
theorem crL_at (f : Nat → Bool) : ∀ n, crL n f = true → ∀ k, k < n → f k = true
  | 0, _, k, h => absurd h (Nat.not_lt_zero k)
  | n + 1, h, k, hk => by
    have h' : (bif f n then crL n f else false) = true := h
    cases q : f n with
    | false =>
      rw [q] at h'
      exact absurd (show false = true from h') (by decide)
    | true =>
      rw [q] at h'
      by_cases e : k = n
      · rw [e]; exact q
      · exact crL_at f n h' k (by omega)
def crG (I J : Nat) : Nat := Nat.add (Nat.mul 12 (Nat.mul I (Nat.mul I 1568))) (Nat.mul 2 (Nat.mul J 140973))
def crB (I J : Nat) : Nat := Nat.add (Nat.add (Nat.add (Nat.mul 12 (Nat.mul I (Nat.mul I 784))) (Nat.mul 12 (Nat.mul I 2458624))) (Nat.mul 2 (Nat.mul J 140973))) 19873386729
def crB2 (I J i1 j1 j2 : Nat) : Nat := Nat.add (Nat.add (Nat.add (Nat.mul 12 (Nat.mul I (Nat.mul I 784))) (Nat.mul 12 (Nat.mul I (Nat.mul i1 i1)))) (Nat.mul 2 (Nat.mul J j2))) (Nat.mul j1 j1)
def crB3 (I J i1 j1 j2 : Nat) : Nat := Nat.add (Nat.add (Nat.add (Nat.mul 24 (Nat.mul I (Nat.mul i1 784))) (Nat.mul 4 (Nat.mul i1 (Nat.mul i1 i1)))) (Nat.mul 2 (Nat.mul J 46991))) (Nat.mul 2 (Nat.mul j1 j2))
def crB4 (I i1 j1 j2 : Nat) : Nat := Nat.add (Nat.add (Nat.add (Nat.mul 12 (Nat.mul 784 (Nat.mul 784 I))) (Nat.mul 12 (Nat.mul 784 (Nat.mul i1 i1)))) (Nat.mul 2 (Nat.mul 46991 j1))) (Nat.mul j2 j2)
def crE (A g b2 b3 b4 D : Nat) : Bool := crL (Nat.pow 2 (Nat.add (Nat.div (Nat.log2 D) 2) 1)) (fun k => bif Nat.beq (Nat.mod D (Nat.mul (Nat.succ k) (Nat.succ k))) 0 then full2 A g b2 b3 b4 (Nat.mul (Nat.succ k) (Nat.succ k)) else true)
def crS (A g b2 b3 b4 : Nat) : Bool := full2 A g b2 b3 b4 (Nat.div A 27) || crE A g b2 b3 b4 (Nat.div A 27)
def crN (I J A g i1 j1 j2 : Nat) : Bool := full2 A (crG I J) (crB I J) 82714305940 62035729455 (Nat.div A 27) || crS A g (crB2 I J i1 j1 j2) (crB3 I J i1 j1 j2) (crB4 I i1 j1 j2)
def gs (X : Nat → Int) : Nat := 7 * ((qgr X 0).natAbs + (qgr X 1).natAbs + (qgr X 2).natAbs + (qgr X 3).natAbs + (qgr X 4).natAbs)
def is1 (X : Nat → Int) : Nat := 7 * (12 * (X 4).natAbs + 3 * (X 3).natAbs + 2 * (X 2).natAbs + 3 * (X 1).natAbs + 12 * (X 0).natAbs)
def js1 (X : Nat → Int) : Nat := 7 * ((qJd X 0).natAbs + (qJd X 1).natAbs + (qJd X 2).natAbs + (qJd X 3).natAbs + (qJd X 4).natAbs)
def js2 (X : Nat → Int) : Nat := 4851 * (X 0).natAbs + 3087 * (X 1).natAbs + 4263 * (X 2).natAbs + 3087 * (X 3).natAbs + 4851 * (X 4).natAbs
def crX (X : Nat → Int) : Bool := crN (qI X).natAbs (qJ X).natAbs (qD X).natAbs (gs X) (is1 X) (js1 X) (js2 X)
theorem is1_le (X : Nat → Int) (h : bx7 X) : is1 X ≤ 1568 := by
  have a := h 0
  have b := h 1
  have c := h 2
  have d := h 3
  have e := h 4
  unfold is1
  generalize (X 0).natAbs = p at *
  generalize (X 1).natAbs = q at *
  generalize (X 2).natAbs = r at *
  generalize (X 3).natAbs = s at *
  generalize (X 4).natAbs = t at *
  omega
theorem js1_le (X : Nat → Int) (h : bx7 X) : js1 X ≤ 140973 := by
  obtain ⟨a, b, c, d, e⟩ := bJd X h
  unfold js1
  generalize (qJd X 0).natAbs = p at *
  generalize (qJd X 1).natAbs = q at *
  generalize (qJd X 2).natAbs = r at *
  generalize (qJd X 3).natAbs = s at *
  generalize (qJd X 4).natAbs = t at *
  omega
theorem js2_le (X : Nat → Int) (h : bx7 X) : js2 X ≤ 140973 := by
  have a := h 0
  have b := h 1
  have c := h 2
  have d := h 3
  have e := h 4
  unfold js2
  generalize (X 0).natAbs = p at *
  generalize (X 1).natAbs = q at *
  generalize (X 2).natAbs = r at *
  generalize (X 3).natAbs = s at *
  generalize (X 4).natAbs = t at *
  omega
theorem crB3_le (I J i1 j1 j2 : Nat) (h1 : I ≤ 784) (h2 : J ≤ 46991) (h3 : i1 ≤ 1568) (h4 : j1 ≤ 140973) (h5 : j2 ≤ 140973) : crB3 I J i1 j1 j2 ≤ 82714305940 := by
  refine Nat.le_trans (Nat.add_le_add (Nat.add_le_add (Nat.add_le_add (Nat.mul_le_mul (Nat.le_refl 24) (Nat.mul_le_mul h1 (Nat.mul_le_mul h3 (Nat.le_refl 784)))) (Nat.mul_le_mul (Nat.le_refl 4) (Nat.mul_le_mul h3 (Nat.mul_le_mul h3 h3)))) (Nat.mul_le_mul (Nat.le_refl 2) (Nat.mul_le_mul h2 (Nat.le_refl 46991)))) (Nat.mul_le_mul (Nat.le_refl 2) (Nat.mul_le_mul h4 h5))) ?_
  decide +kernel
theorem crE_at (A g b2 b3 b4 D n e : Nat) (hD : D = n * (e * e)) (hn : 1 ≤ n) (he : 1 ≤ e) (hc : crE A g b2 b3 b4 D = true) : full2 A g b2 b3 b4 (e * e) = true := by
  unfold crE at hc
  have hle : e * e ≤ D := by
    rw [hD]
    exact Nat.le_mul_of_pos_left _ hn
  have hpos : D ≠ 0 := by
    have := Nat.mul_pos he he
    omega
  have l1 := (Nat.log2_lt hpos).mp (Nat.lt_succ_self _)
  have l2 : e < 2 ^ (Nat.log2 D / 2 + 1) := by
    apply sq_lt
    rw [← Nat.pow_add]
    refine Nat.lt_of_le_of_lt hle (Nat.lt_of_lt_of_le l1 (Nat.pow_le_pow_right (by decide) ?_))
    omega
  have hs : Nat.succ (e - 1) = e := by omega
  have hx := crL_at _ _ hc (e - 1) (show e - 1 < 2 ^ (Nat.log2 D / 2 + 1) by omega)
  have hm : Nat.beq (Nat.mod D (Nat.mul e e)) 0 = true := by
    have : D % (e * e) = 0 := by
      rw [hD]
      exact Nat.mul_mod_left _ _
    show Nat.beq (D % (e * e)) 0 = true
    rw [this]
    rfl
  simp only [hs] at hx
  rw [hm] at hx
  exact hx
/-- THE PENCIL'S SQUARE: where the test says yes, a root mod 2^64 with true first digits is a true one -/
theorem crX_true (X Z : Nat → Int) (hX : bx7 X) (hZ : bx7 Z) (hD : qD X ≠ 0) (hc : crX X = true) (c e0 e1 e2 e3 h3 h4 h5 h6 : Int) (q0 : qG X Z 0 = 27 * c * (e0 * e0)) (q1 : qG X Z 1 = 27 * c * (2 * e0 * e1)) (q2 : qG X Z 2 = 27 * c * (2 * e0 * e2 + e1 * e1)) (q3 : qG X Z 3 = 27 * c * (2 * e0 * e3 + 2 * e1 * e2 + 18446744073709551616 * h3)) (q4 : qG X Z 4 = 27 * c * (2 * e1 * e3 + e2 * e2 + 18446744073709551616 * h4)) (q5 : qG X Z 5 = 27 * c * (2 * e2 * e3 + 18446744073709551616 * h5)) (q6 : qG X Z 6 = 27 * c * (e3 * e3 + 18446744073709551616 * h6)) (hd : (2 * e0 * e3).natAbs ≤ 2 ^ 63) : h3 = 0 ∧ h4 = 0 ∧ h5 = 0 ∧ h6 = 0 := by
  have h0 : qG X Z 0 = qD X := by
    unfold qG qD
    rfl
  have hA : (qD X).natAbs = 27 * (c.natAbs * (e0.natAbs * e0.natAbs)) := by
    rw [← h0, q0, Int.natAbs_mul, Int.natAbs_mul, Int.natAbs_mul]
    exact Nat.mul_assoc _ _ _
  have he : e0 ≠ 0 := by
    intro q
    rw [h0, q, Int.zero_mul, Int.mul_zero] at q0
    exact hD q0
  have hcn : c ≠ 0 := by
    intro q
    rw [h0, q, Int.mul_zero, Int.zero_mul] at q0
    exact hD q0
  have hc1 : 1 ≤ c.natAbs := Int.natAbs_pos.mpr hcn
  have he1 : 1 ≤ e0.natAbs := Int.natAbs_pos.mpr he
  have hS : e0.natAbs * e0.natAbs ≤ (qD X).natAbs / 27 := by
    rw [hA, Nat.mul_div_cancel_left _ (by decide)]
    exact Nat.le_mul_of_pos_left _ hc1
  have q0' : qD X = 27 * c * (e0 * e0) := by rw [← h0]; exact q0
  have hc27 : 27 ≤ (27 * c).natAbs := by
    rw [Int.natAbs_mul]
    exact Nat.le_mul_of_pos_right 27 hc1
  have bi := bI X hX
  have bj := bJ X hX
  have bi1 := bI1x X Z hZ
  have bj1 := bJ1x X Z hZ
  have bj2 := bJ2x X Z hZ
  have F : ∀ g b2 b3 b4 S : Nat, (qG X Z 1).natAbs ≤ g → (qG X Z 2).natAbs ≤ b2 → (qG X Z 3).natAbs ≤ b3 → (qG X Z 4).natAbs ≤ b4 → b3 < 27 * 4294967296 → e0.natAbs * e0.natAbs ≤ S → full2 (qD X).natAbs g b2 b3 b4 S = true → h3 = 0 ∧ h4 = 0 ∧ h5 = 0 ∧ h6 = 0 := by
    intro g b2 b3 b4 S a1 a2 a3 a4 a5 a6 a7
    exact full2_true (27 * c) e0 e1 e2 e3 h3 h4 h5 h6 (qD X) (qG X Z 1) (qG X Z 2) (qG X Z 3) (qG X Z 4) (qG X Z 5) (qG X Z 6) (qD X).natAbs g b2 b3 b4 S q0' q1 q2 q3 q4 q5 q6 rfl a1 a2 a3 a4 (bG5 X Z hX hZ) (bG6 X Z hZ) a6 he hc27 hd a5 a7
  have B3 := bG3 X Z hZ _ _ _ _ _ (Nat.le_refl _) bi1 (Nat.le_refl _) bj1 bj2
  have B3' : (qG X Z 3).natAbs ≤ crB3 (qI X).natAbs (qJ X).natAbs (is1 X) (js1 X) (js2 X) := B3
  have L3 := crB3_le (qI X).natAbs (qJ X).natAbs (is1 X) (js1 X) (js2 X) bi bj (is1_le X hX) (js1_le X hX) (js2_le X hX)
  have L62 : (82714305940 : Nat) < 27 * 4294967296 := by decide +kernel
  unfold crX crN at hc
  rw [Bool.or_eq_true] at hc
  rcases hc with hc | hc
  · refine F _ _ _ _ _ ?_ ?_ ?_ ?_ L62 hS hc
    · exact bG1 X Z _ 1568 _ 140973 (Nat.le_refl _) (bI1 X Z hX hZ) (Nat.le_refl _) (bJ1 X Z hX hZ)
    · exact bG2 X Z hZ _ 1568 _ 140973 140973 (Nat.le_refl _) (bI1 X Z hX hZ) (Nat.le_refl _) (bJ1 X Z hX hZ) (bJ1 Z X hZ hX)
    · exact Nat.le_trans B3' L3
    · exact bG4 X Z hZ 784 1568 140973 140973 bi (bI1 X Z hX hZ) (bJ1 X Z hX hZ) (bJ1 Z X hZ hX)
  · have G1' : (qG X Z 1).natAbs ≤ gs X := bG1x X Z hZ
    have B2 : (qG X Z 2).natAbs ≤ crB2 (qI X).natAbs (qJ X).natAbs (is1 X) (js1 X) (js2 X) := bG2 X Z hZ _ _ _ _ _ (Nat.le_refl _) bi1 (Nat.le_refl _) bj1 bj2
    have B4 : (qG X Z 4).natAbs ≤ crB4 (qI X).natAbs (is1 X) (js1 X) (js2 X) := bG4 X Z hZ _ _ _ _ (Nat.le_refl _) bi1 bj1 bj2
    unfold crS at hc
    rw [Bool.or_eq_true] at hc
    rcases hc with hc | hc
    · exact F _ _ _ _ _ G1' B2 B3' B4 (Nat.lt_of_le_of_lt L3 L62) hS hc
    · have hD1 : Nat.div (qD X).natAbs 27 = c.natAbs * (e0.natAbs * e0.natAbs) := by
        show (qD X).natAbs / 27 = _
        rw [hA, Nat.mul_div_cancel_left _ (by decide)]
      exact F _ _ _ _ _ G1' B2 B3' B4 (Nat.lt_of_le_of_lt L3 L62) (Nat.le_refl _) (crE_at _ _ _ _ _ _ _ _ hD1 hc1 he1 hc)
