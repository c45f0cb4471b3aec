/-! the four quartics: the end -/
theorem qG_z5 (X Z : Nat → Int) (j : Nat) : qG X (v5 (Z 0) (Z 1) (Z 2) (Z 3) (Z 4)) j = qG X Z j := rfl
theorem xF_sound (X Z : Nat → Int) (hX : bx7 X) (hZ : bx7 Z) (a b c d e q0 q1 q2 q3 q4 r1 r2 r3 gst m g4 h N : Nat) (G0 : Int) (ha : a = cd (X 0)) (hb : b = cd (X 1)) (hc : c = cd (X 2)) (hd : d = cd (X 3)) (he : e = cd (X 4)) (h0 : q0 = cd (qgr X 4)) (h1 : q1 = cd (qgr X 3)) (h2 : q2 = cd (qgr X 2)) (h3 : q3 = cd (qgr X 1)) (h4 : q4 = cd (qgr X 0)) (hg : g4 = cd (4 * G0))
    (k3 : 7 * (qgr X 0).natAbs ≤ r3) (k2 : 7 * (qgr X 1).natAbs + 7 * (qgr X 0).natAbs ≤ r2) (k1 : 7 * (qgr X 2).natAbs + 7 * (qgr X 1).natAbs + 7 * (qgr X 0).natAbs ≤ r1)
    (kq : (qgr X 3).natAbs + (qgr X 2).natAbs + (qgr X 1).natAbs + (qgr X 0).natAbs ≤ 1000000000000000) (k0 : (qgr X 4).natAbs * 7 ≤ 1000000000000000)
    (ks : (4 * G0).natAbs * 62035729455 + gs X * gs X ≤ 9223372036854775807)
    (hx : ∀ k, k < 15 → xF a b c d e q0 q1 q2 q3 q4 r1 r2 r3 gst m g4 h N k X G0 = true) :
    (qG X Z 1).natAbs ≤ gst ∨ 0 < (qG X Z 1).natAbs % m ∨ 0 < (4 * G0 * qG X Z 2 - qG X Z 1 * qG X Z 1).natAbs % h ∨ 0 < (kpX G0 (qG X Z 1) (qG X Z 2) (qG X Z 3) (qG X Z 4)).natAbs % N := by
  have s7 : ∀ k, (Z k).natAbs ≤ 9223372036854775807 := fun k => Nat.le_trans (hZ k) (by decide)
  obtain ⟨l, c4⟩ := zz7 (Z 4) (hZ 4)
  have t := hx _ l
  unfold xF at t
  rw [c4] at t
  subst ha hb hc hd he h0 h1 h2 h3 h4 hg
  simp only [nP_cd] at t
  have hs : (qgr X 4 * Z 4).natAbs ≤ 1000000000000000 := Nat.le_trans (nmul_le (Nat.le_refl _) (hZ 4)) k0
  have u := xE_sound _ (qgr X 3) (qgr X 2) (qgr X 1) (qgr X 0) (qgr X 4 * Z 4) r1 r2 r3 gst m _ k3 k2 k1 kq hs t (Z 3) (Z 2) (Z 1) (Z 0) (hZ 3) (hZ 2) (hZ 1) (hZ 0)
  have eG : qgr X 4 * Z 4 + qgr X 3 * Z 3 + qgr X 2 * Z 2 + qgr X 1 * Z 1 + qgr X 0 * Z 0 = qG X Z 1 := by
    rw [qG1_lin]
    show _ = qgr X 0 * Z 0 + qgr X 1 * Z 1 + qgr X 2 * Z 2 + qgr X 3 * Z 3 + qgr X 4 * Z 4
    grind
  rw [eG] at u
  rcases u with u | u | u
  · exact Or.inl u
  · exact Or.inr (Or.inl u)
  · right
    right
    have b1 : (qG X Z 1).natAbs ≤ gs X := bG1x X Z hZ
    have b2 : (qG X Z 2).natAbs ≤ 62035729455 := bG2 X Z hZ 784 1568 46991 140973 140973 (bI X hX) (bI1 X Z hX hZ) (bJ X hX) (bJ1 X Z hX hZ) (bJ1 Z X hZ hX)
    have b3 : (4 * G0 * qG X Z 2 - qG X Z 1 * qG X Z 1).natAbs ≤ 9223372036854775807 := Nat.le_trans (ns_le (nmul_le (Nat.le_refl _) b2) (nmul_le b1 b1)) ks
    rw [g2c_cd, nP_cd, nP_cd, nS_cd, nB_cd _ b3, dz_cd _ (s7 0), dz_cd _ (s7 1), dz_cd _ (s7 2), dz_cd _ (s7 3), dz_cd _ (s7 4), Bool.or_eq_true] at u
    rcases u with u | u
    · exact Or.inl (ble_true u)
    · right
      unfold lf3 at u
      rw [qG_z5, qG_z5, qG_z5, qG_z5] at u
      exact ble_true u
def crE2 (A g b2 b3 b4 D em : Nat) : Bool := crL (Nat.pow 2 (Nat.add (Nat.div (Nat.log2 D) 2) 1)) (fun k => bif Nat.beq (Nat.mod D (Nat.mul (Nat.succ k) (Nat.succ k))) 0 then (Nat.beq (Nat.succ k) em || full2 A g b2 b3 b4 (Nat.mul (Nat.succ k) (Nat.succ k))) else true)
theorem crE2_at (A g b2 b3 b4 D em n e : Nat) (hD : D = n * (e * e)) (hn : 1 ≤ n) (he : 1 ≤ e) (hc : crE2 A g b2 b3 b4 D em = true) : e = em ∨ full2 A g b2 b3 b4 (e * e) = true := by
  unfold crE2 at hc
  have hle : e * e ≤ D := by
    rw [hD]
    exact Nat.le_mul_of_pos_left _ hn
  have hpos : D ≠ 0 := by
    have := Nat.mul_pos he he
    omega
  have l1 := (Nat.log2_lt hpos).mp (Nat.lt_succ_self _)
  have l2 : e < 2 ^ (Nat.log2 D / 2 + 1) := by
    apply sq_lt
    rw [← Nat.pow_add]
    refine Nat.lt_of_le_of_lt hle (Nat.lt_of_lt_of_le l1 (Nat.pow_le_pow_right (by decide) ?_))
    omega
  have hs : Nat.succ (e - 1) = e := by omega
  have hx := crL_at _ _ hc (e - 1) (show e - 1 < 2 ^ (Nat.log2 D / 2 + 1) by omega)
  have hm : Nat.beq (Nat.mod D (Nat.mul e e)) 0 = true := by
    have : D % (e * e) = 0 := by
      rw [hD]
      exact Nat.mul_mod_left _ _
    show Nat.beq (D % (e * e)) 0 = true
    rw [this]
    rfl
  simp only [hs] at hx
  rw [hm] at hx
  have hx' : (Nat.beq e em || full2 A g b2 b3 b4 (e * e)) = true := hx
  rw [Bool.or_eq_true] at hx'
  rcases hx' with r | r
  · exact Or.inl (Nat.eq_of_beq_eq_true r)
  · exact Or.inr r
/-- one quartic with its walk -/
theorem fourX (X Z : Nat → Int) (hX : bx7 X) (hZ : bx7 Z) (c e0 e1 e2 e3 h3 h4 h5 h6 : Int) (q0 : qG X Z 0 = 27 * c * (e0 * e0)) (q1 : qG X Z 1 = 27 * c * (2 * e0 * e1)) (q2 : qG X Z 2 = 27 * c * (2 * e0 * e2 + e1 * e1)) (q3 : qG X Z 3 = 27 * c * (2 * e0 * e3 + 2 * e1 * e2 + 18446744073709551616 * h3)) (q4 : qG X Z 4 = 27 * c * (2 * e1 * e3 + e2 * e2 + 18446744073709551616 * h4)) (q5 : qG X Z 5 = 27 * c * (2 * e2 * e3 + 18446744073709551616 * h5)) (q6 : qG X Z 6 = 27 * c * (e3 * e3 + 18446744073709551616 * h6)) (hd : (2 * e0 * e3).natAbs ≤ 2 ^ 63)
    (Cc em gst : Nat) (hA : (qD X).natAbs = Cc * (em * em)) (hA0 : (qD X).natAbs ≠ 0) (hem : em ≠ 0)
    (hE : crE2 (qD X).natAbs (gs X) (crB2 (qI X).natAbs (qJ X).natAbs (is1 X) (js1 X) (js2 X)) (crB3 (qI X).natAbs (qJ X).natAbs (is1 X) (js1 X) (js2 X)) (crB4 (qI X).natAbs (is1 X) (js1 X) (js2 X)) (Nat.div (qD X).natAbs 27) em = true)
    (hF : full2 (qD X).natAbs gst (crB2 (qI X).natAbs (qJ X).natAbs (is1 X) (js1 X) (js2 X)) (crB3 (qI X).natAbs (qJ X).natAbs (is1 X) (js1 X) (js2 X)) (crB4 (qI X).natAbs (is1 X) (js1 X) (js2 X)) (em * em) = true)
    (hw : (qG X Z 1).natAbs ≤ gst ∨ 0 < (qG X Z 1).natAbs % (2 * Cc * em) ∨ 0 < (4 * qD X * qG X Z 2 - qG X Z 1 * qG X Z 1).natAbs % (8 * (Cc * Cc) * (em * em * em)) ∨ 0 < (kpX (qD X) (qG X Z 1) (qG X Z 2) (qG X Z 3) (qG X Z 4)).natAbs % (64 * (Cc * Cc * Cc * Cc * (em * em * em * em * em)) * 18446744073709551616)) : h3 = 0 ∧ h4 = 0 ∧ h5 = 0 ∧ h6 = 0 := by
  have h0 : qG X Z 0 = qD X := by
    unfold qG qD
    rfl
  have hD : qD X ≠ 0 := fun r => hA0 (by rw [r]; rfl)
  have q0' : qD X = 27 * c * (e0 * e0) := by rw [← h0]; exact q0
  have hA' : (qD X).natAbs = 27 * (c.natAbs * (e0.natAbs * e0.natAbs)) := by
    rw [q0', Int.natAbs_mul, Int.natAbs_mul, Int.natAbs_mul]
    exact Nat.mul_assoc _ _ _
  have he : e0 ≠ 0 := by
    intro q
    rw [q, Int.zero_mul, Int.mul_zero] at q0'
    exact hD q0'
  have hcn : c ≠ 0 := by
    intro q
    rw [q, Int.mul_zero, Int.zero_mul] at q0'
    exact hD q0'
  have hc1 : 1 ≤ c.natAbs := Int.natAbs_pos.mpr hcn
  have he1 : 1 ≤ e0.natAbs := Int.natAbs_pos.mpr he
  have hc27 : 27 ≤ (27 * c).natAbs := by
    rw [Int.natAbs_mul]
    exact Nat.le_mul_of_pos_right 27 hc1
  have bi1 := bI1x X Z hZ
  have bj1 := bJ1x X Z hZ
  have bj2 := bJ2x X Z hZ
  have B3' : (qG X Z 3).natAbs ≤ crB3 (qI X).natAbs (qJ X).natAbs (is1 X) (js1 X) (js2 X) := bG3 X Z hZ _ _ _ _ _ (Nat.le_refl _) bi1 (Nat.le_refl _) bj1 bj2
  have L3 := crB3_le (qI X).natAbs (qJ X).natAbs (is1 X) (js1 X) (js2 X) (bI X hX) (bJ X hX) (is1_le X hX) (js1_le X hX) (js2_le X hX)
  have L62 : (82714305940 : Nat) < 27 * 4294967296 := by decide +kernel
  have B2 : (qG X Z 2).natAbs ≤ crB2 (qI X).natAbs (qJ X).natAbs (is1 X) (js1 X) (js2 X) := bG2 X Z hZ _ _ _ _ _ (Nat.le_refl _) bi1 (Nat.le_refl _) bj1 bj2
  have B4 : (qG X Z 4).natAbs ≤ crB4 (qI X).natAbs (is1 X) (js1 X) (js2 X) := bG4 X Z hZ _ _ _ _ (Nat.le_refl _) bi1 bj1 bj2
  have F : ∀ g S : Nat, (qG X Z 1).natAbs ≤ g → e0.natAbs * e0.natAbs ≤ S → full2 (qD X).natAbs g (crB2 (qI X).natAbs (qJ X).natAbs (is1 X) (js1 X) (js2 X)) (crB3 (qI X).natAbs (qJ X).natAbs (is1 X) (js1 X) (js2 X)) (crB4 (qI X).natAbs (is1 X) (js1 X) (js2 X)) S = true → h3 = 0 ∧ h4 = 0 ∧ h5 = 0 ∧ h6 = 0 := by
    intro g S a1 a6 a7
    exact full2_true (27 * c) e0 e1 e2 e3 h3 h4 h5 h6 (qD X) (qG X Z 1) (qG X Z 2) (qG X Z 3) (qG X Z 4) (qG X Z 5) (qG X Z 6) (qD X).natAbs g _ _ _ S q0' q1 q2 q3 q4 q5 q6 rfl a1 B2 B3' B4 (bG5 X Z hX hZ) (bG6 X Z hZ) a6 he hc27 hd (Nat.lt_of_le_of_lt L3 L62) a7
  have hD1 : Nat.div (qD X).natAbs 27 = c.natAbs * (e0.natAbs * e0.natAbs) := by
    show (qD X).natAbs / 27 = _
    rw [hA', Nat.mul_div_cancel_left _ (by decide)]
  rcases crE2_at _ _ _ _ _ _ _ _ _ hD1 hc1 he1 hE with r | r
  · -- the largest lead
    have hC : (27 * c).natAbs = Cc := by
      have a1 : (27 * c).natAbs * (e0.natAbs * e0.natAbs) = Cc * (em * em) := by
        rw [← hA, hA', Int.natAbs_mul]
        exact Nat.mul_assoc _ _ _
      rw [r] at a1
      exact Nat.eq_of_mul_eq_mul_right (Nat.mul_pos (Nat.pos_of_ne_zero hem) (Nat.pos_of_ne_zero hem)) a1
    rcases hw with w | w | w | w
    · refine F gst _ w ?_ hF
      rw [r]
      exact Nat.le_refl _
    · exfalso
      have a1 : (qG X Z 1).natAbs = e1.natAbs * (2 * Cc * em) := by
        rw [q1]
        simp only [Int.natAbs_mul (27 * c), hC, Int.natAbs_mul (2 * e0), Int.natAbs_mul 2, r]
        have : (2 : Int).natAbs = 2 := rfl
        rw [this]
        grind
      rw [a1, Nat.mul_mod_left] at w
      exact absurd w (by decide)
    · exfalso
      have f1 : 4 * qD X * qG X Z 2 - qG X Z 1 * qG X Z 1 = 8 * ((27 * c) * (27 * c)) * (e0 * e0 * e0) * e2 := by rw [q0', q1, q2]; grind
      have a1 : (4 * qD X * qG X Z 2 - qG X Z 1 * qG X Z 1).natAbs = e2.natAbs * (8 * (Cc * Cc) * (em * em * em)) := by
        rw [f1]
        generalize 27 * c = C at *
        simp only [Int.natAbs_mul, hC, r]
        have : (8 : Int).natAbs = 8 := rfl
        rw [this]
        grind
      rw [a1, Nat.mul_mod_left] at w
      exact absurd w (by decide)
    · exfalso
      have K := kp_eq (27 * c) e0 e1 e2 e3 h3 h4 18446744073709551616 (qD X) (qG X Z 1) (qG X Z 2) (qG X Z 3) (qG X Z 4) q0' q1 q2 q3 q4
      have a1 : (kpX (qD X) (qG X Z 1) (qG X Z 2) (qG X Z 3) (qG X Z 4)).natAbs = (e0 * h4 - e1 * h3).natAbs * (64 * (Cc * Cc * Cc * Cc * (em * em * em * em * em)) * 18446744073709551616) := by
        unfold kpX
        rw [K]
        generalize e0 * h4 - e1 * h3 = kk
        generalize 27 * c = C at *
        simp only [Int.natAbs_mul, hC, r]
        have t1 : (64 : Int).natAbs = 64 := rfl
        have t2 : (18446744073709551616 : Int).natAbs = 18446744073709551616 := rfl
        rw [t1, t2]
        grind
      rw [a1, Nat.mul_mod_left] at w
      exact absurd w (by decide)
  · exact F (gs X) _ (bG1x X Z hZ) (Nat.le_refl _) r
