theorem pt_quad {M : Nat} {z012 z014 z023 z034 z124 z234 z013 z123 z024 : Int} (h : PT M z124 z014 (-z012) (-z234) z034 z023) (h1 : (2 ^ M : Int) ∣ z013 - (z014 * z023 + z012 * z034)) (h2 : (2 ^ M : Int) ∣ z123 - (z124 * z023 - z012 * z234)) (h3 : (2 ^ M : Int) ∣ z024 - 1) : (2 ^ M : Int) ∣ 4 * z012 * z014 - z013 * z013 ∧ (2 ^ M : Int) ∣ z013 * z014 - z013 * z023 + 2 * z012 * z024 ∧ (2 ^ M : Int) ∣ z012 * z123 + 4 * z013 * z014 - 2 * z013 * z023 ∧ (2 ^ M : Int) ∣ z012 * z124 - z023 * z023 + 2 * z023 * z014 := by
  obtain ⟨T, v, hv, hT, k3, ky3, kx1, ky1⟩ := h
  have q1 := bz h1
  have q2 := bz h2
  have q3 := bz h3
  clear h1 h2 h3
  have Q := t24_quad hT k3 ky3 kx1 ky1
  simp only [badd, bmul, bsub, bneg, b1, b2, b4] at q1 q2 q3 Q
  clear hv hT k3 ky3 kx1 ky1
  have e13 : BitVec.ofInt M z014 * BitVec.ofInt M z023 - -BitVec.ofInt M z012 * BitVec.ofInt M z034 = BitVec.ofInt M z013 := by
    clear Q q2 q3
    grind
  have e123 : BitVec.ofInt M z124 * BitVec.ofInt M z023 - -BitVec.ofInt M z012 * -BitVec.ofInt M z234 = BitVec.ofInt M z123 := by
    clear Q q1 q3 e13
    grind
  have e24 : BitVec.ofInt M z024 = 1 := by
    clear Q q1 q2 e13 e123
    grind
  rw [e13, e123] at Q
  clear q1 q2 q3 e13 e123
  obtain ⟨Q1, Q2, Q3, Q4⟩ := Q
  refine ⟨bz' ?_, bz' ?_, bz' ?_, bz' ?_⟩ <;> simp only [badd, bmul, bsub, bneg, b1, b2, b4]
  · clear Q2 Q3 Q4
    grind
  · rw [e24]
    clear Q1 Q3 Q4 e24
    grind
  · clear Q2 Q1 Q4
    grind
  · clear Q2 Q3 Q1
    grind
theorem pt_zero {M : Nat} {x1 x2 y1 y2 y3 : Int} (h : PT M x1 x2 0 y1 y2 y3) : (2 ^ M : Int) ∣ x2 * x2 * x2 := by
  obtain ⟨T, v, hv, hT, k3, ky3, kx1, ky1⟩ := h
  apply bz'
  simp only [bmul]
  have z : BitVec.ofInt M 0 = 0 := rfl
  rw [z] at k3
  clear hT ky3 kx1 ky1 z
  generalize BitVec.ofInt M x2 = x at *
  have e : x * x * x = (x * x * x) * (v * (1 - T)) * (v * (1 - T)) := by rw [hv]; clear hv k3; grind
  have e2 : (x * x * x) * (v * (1 - T)) * (v * (1 - T)) = v * v * (x * x * x * ((1 - T) * (1 - T))) := by clear hv k3 e; grind
  have e3 : x * x * x * ((1 - T) * (1 - T)) = 0 := by clear hv e e2; grind
  rw [e, e2, e3]
  grind
theorem pt_zero2 {M : Nat} {x1 x3 y1 y2 y3 : Int} (h : PT M x1 0 x3 y1 y2 y3) : (2 ^ M : Int) ∣ y3 := by
  obtain ⟨T, v, hv, hT, k3, ky3, kx1, ky1⟩ := h
  apply bz'
  have z : BitVec.ofInt M 0 = 0 := rfl
  rw [ky3, z]
  clear hT kx1 ky1 z hv k3 ky3
  grind
theorem plk013 (X Y W : Nat → Int) : d3 X Y W 0 2 4 * d3 X Y W 0 1 3 = d3 X Y W 0 1 4 * d3 X Y W 0 2 3 + d3 X Y W 0 1 2 * d3 X Y W 0 3 4 := by
  unfold d3
  grind
theorem plk123 (X Y W : Nat → Int) : d3 X Y W 0 2 4 * d3 X Y W 1 2 3 = d3 X Y W 1 2 4 * d3 X Y W 0 2 3 - d3 X Y W 0 1 2 * d3 X Y W 2 3 4 := by
  unfold d3
  grind
theorem t24_co {b : Nat} {k : Int} {e X Y W : Nat → Int} (hC : CK (2 ^ 32) e X Y W) (he : ∃ i, i < 6 ∧ e i % 2 = 1) (hb : b ≤ 20) (hT : T24 b k e X Y W) (hP : bP X Y W) (hp : ∃ i j k, i < 5 ∧ j < 5 ∧ k < 5 ∧ d3 X Y W i j k ≠ 0) : ∃ (a : Nat) (o q s012 s014 s124 s023 s034 s234 : Int), d3 X Y W 0 2 4 = 2 ^ a * o ∧ o % 2 = 1 ∧ b ≤ 2 * a ∧ (2 ^ 64 : Int) ∣ o * q - 1 ∧ d3 X Y W 0 1 2 = 2 ^ a * s012 ∧ d3 X Y W 0 1 4 = 2 ^ a * s014 ∧ d3 X Y W 1 2 4 = 2 ^ a * s124 ∧ d3 X Y W 0 2 3 = 2 ^ a * s023 ∧ d3 X Y W 0 3 4 = 2 ^ a * s034 ∧ d3 X Y W 2 3 4 = 2 ^ a * s234 ∧ PT (32 - b) (q * s124) (q * s014) (-(q * s012)) (-(q * s234)) (q * s034) (q * s023) := by
  have hne := t24_ne hC he hb hT hP hp
  obtain ⟨a, o, hd, oo⟩ := two_split _ _ (Nat.le_refl _) hne
  have ha : a ≤ 10 := Nat.le_of_not_lt fun z => hne (small_zero (k := 11) (pw_le_dvd z ⟨o, hd⟩) (Nat.lt_of_le_of_lt (hP _ _ _ (by decide) (by decide) (by decide)) (by decide)))
  obtain ⟨⟨s012, e012⟩, ⟨s014, e014⟩, ⟨s124, e124⟩, ⟨s023, e023⟩, ⟨s034, e034⟩, ⟨s234, e234⟩⟩ := t24_low hC he hb hT (by omega) ⟨o, hd⟩
  obtain ⟨q, hq⟩ := inv_ex oo 64
  have hba : b ≤ 2 * a := Nat.le_of_not_lt fun z => by
    have h1 := half_dvd (cont_p hT.1 he (i := 0) (j := 2) (k := 4) (by decide) (by decide) (by decide))
    rw [hd] at h1
    have h2 : (2 ^ (1 + a) : Int) ∣ 2 ^ a * o * 1 := by
      rw [Int.mul_one]
      exact pw_le_dvd (by omega) h1
    have h3 := odd_cancel2 oo h2
    omega
  refine ⟨a, o, q, s012, s014, s124, s023, s034, s234, hd, oo, hba, hq, e012, e014, e124, e023, e034, e234, ?_⟩
  have c3 := cmb_of (X := pm X) (Y := pm Y) (W := pm W) (l := 3) (N := 64) (sa := s124) (sb := -s014) (sc := -s012) hd (by
    show d3 X Y W 2 4 1 = _
    rw [d3_cy X Y W 2 4 1]
    exact e124) (by
    show d3 X Y W 0 4 1 = _
    rw [d3_sw X Y W 0 1 4, e014, Int.mul_neg]) (by
    show d3 X Y W 0 2 1 = _
    rw [d3_sw X Y W 0 1 2, e012, Int.mul_neg]) hq
  have c4 := cmb_of (X := pm X) (Y := pm Y) (W := pm W) (l := 4) (N := 64) (sa := -s234) (sb := -s034) (sc := s023) hd (by
    show d3 X Y W 2 4 3 = _
    rw [d3_sw X Y W 2 3 4, e234, Int.mul_neg]) (by
    show d3 X Y W 0 4 3 = _
    rw [d3_sw X Y W 0 3 4, e034, Int.mul_neg]) e023 hq
  simp only [Int.mul_neg, Int.neg_neg] at c3 c4
  obtain ⟨k2, hk2, ok2⟩ := t24_E2 hC hb hT
  obtain ⟨hA, hk, ok, ⟨p, h02⟩, q13, ⟨w, h24⟩⟩ := hT
  obtain ⟨kk, t, ht⟩ := inv_ex ok 64
  have okk : kk % 2 = 1 := by
    rcases Int.emod_two_eq kk with z | z
    · exfalso
      have e3 : k * kk = 2 ^ 64 * t + 1 := by omega
      have e4 : (k * kk) % 2 = 0 := by rw [Int.mul_emod, z, Int.mul_zero]; rfl
      rw [e3] at e4
      omega
    · exact z
  have or : (kk * k2) % 2 = 1 := by rw [Int.mul_emod, okk, ok2]; rfl
  have dv : ∀ {S s : Int}, S = 2 ^ b * s → (2 ^ 32 : Int) ∣ S - kk * s * (2 ^ b * k) := fun {S s} hS => by
    refine ⟨-(2 ^ 32 * t * 2 ^ b * s), ?_⟩
    rw [hS]
    have e3 : k * kk = 2 ^ 32 * 2 ^ 32 * t + 1 := by omega
    have e4 : kk * s * (2 ^ b * k) = 2 ^ b * s * (k * kk) := by clear e3 ht hS; grind
    rw [e4, e3]
    clear e4 e3 ht hS
    generalize (2 ^ 32 : Int) = n
    grind
  have h02' : sP e X Y W 0 2 = 2 ^ b * (2 * p) := by rw [h02, Int.pow_succ, Int.mul_assoc]
  have h24' : sP e X Y W 2 4 = 2 ^ b * (2 * w) := by rw [h24, Int.pow_succ, Int.mul_assoc]
  have v02 := dv h02'
  have v24 := dv h24'
  have vE := dv hk2
  rw [← hk] at v02 v24 vE
  have s12 := sP_sym e X Y W 1 2
  have R := chart24 (n := 2 ^ 32) (e := e) (X := pm X) (Y := pm Y) (W := pm W) hC.1 hC.2.1 hC.2.2.1 (by
    show (2 ^ 32 : Int) ∣ sP e X Y W 0 3 + sP e X Y W 2 1
    rw [← s12]
    exact hC.2.2.2.1) hC.2.2.2.2.1 (by
    show (2 ^ 32 : Int) ∣ sP e X Y W 4 1 + sP e X Y W 2 3
    rw [sP_sym e X Y W 4 1]
    exact hC.2.2.2.2.2.1) hC.2.2.2.2.2.2.1 (by
    show (2 ^ 32 : Int) ∣ sP e X Y W 4 3
    rw [sP_sym e X Y W 4 3]
    exact hC.2.2.2.2.2.2.2.1) hC.2.2.2.2.2.2.2.2 (cmb_le (i := 32) (by decide) c3) (cmb_le (i := 32) (by decide) c4) v02 v24 vE
  have hk' : sP e (pm X) (pm Y) (pm W) 0 2 = 2 ^ b * k := hk
  rw [hk'] at R
  have e2p : kk * (2 * p) = 2 * (kk * p) := by clear hk' R; grind
  rw [e2p] at R
  obtain ⟨R1, R2, R3, R4, R5, R6, R7⟩ := R
  have D := fun {x : Int} (h : (2 ^ 32 : Int) ∣ x * (2 ^ b * k)) => drop_b (b := b) (by omega) ok h
  exact t24_pt (by omega) or (D R1) (D R2) (D R3) (D R4) (D R5) (D R6) (D R7)
