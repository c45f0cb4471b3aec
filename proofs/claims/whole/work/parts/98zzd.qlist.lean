/-! the quartics at which the discriminant meets twice: the list -/
def qzL : List Nat := [119, 375, 631, 887, 1143, 1399, 1655, 1799, 1815, 1831, 1847, 1863, 1879, 1895, 1911, 1927, 1943, 1959, 1975, 1991, 2007, 2023, 2167, 2423, 2679, 2935, 3191, 3447, 3703, 6007, 10103, 14199, 18295, 22391, 26487, 30583, 66936, 67447, 67960, 71543, 75352, 75606, 75639, 75895, 76440, 79735, 80519, 83831, 84280, 84855, 85432, 87927, 92023, 93720, 96119, 131961, 132983, 134009, 137079, 141175, 145271, 148793, 149301, 149367, 149879, 150969, 153463, 154214, 157559, 159127, 161655, 196986, 198519, 200058, 202615, 206711, 210807, 214903, 218999, 222234, 222996, 223095, 223863, 227191, 227909, 263032, 264055, 265080, 268151, 272247, 276343, 278587, 279640, 280439, 280695, 281752, 284535, 288631, 292727, 329591, 333687, 337783, 341879, 345975, 350071, 354167, 358263, 395127, 399223, 403319, 407415, 411511, 415607, 419703, 423799, 460663, 464759, 468855, 472951, 477047, 481143, 485239, 489335]
def qmem (n : Nat) : List Nat → Bool
  | [] => false
  | x :: l => Nat.beq n x || qmem n l
def eQ2 (a b c d e p q n : Nat) : Bool := bif Nat.beq (nP p (nP 12 e)) (nP q (eJ0 c d e)) && (Nat.beq (nP p (nP 18446744073709551613 d)) (nP q (eJ1 b c d e)) && (Nat.beq (nP p (nP 2 c)) (nP q (eJ2 a b c d e)) && (Nat.beq (nP p (nP 18446744073709551613 b)) (nP q (eJ3 a b c d)) && Nat.beq (nP p (nP 12 a)) (nP q (eJ4 a b c))))) then qmem n qzL else true
def eQ1 (a b c d e i j n : Nat) : Bool := eQ2 a b c d e (nP 12 (nP i i)) (nP 2 j) n
def eQ (a b c d e n : Nat) : Bool := eQ1 a b c d e (eI a b c d e) (eJ a b c d e) n
def qc5 (a b c d e : Nat) : Nat := Nat.add (Nat.mul (Nat.add (Nat.mul (Nat.add (Nat.mul (Nat.add (Nat.mul a 16) b) 16) c) 16) d) 16) e
def eQB (a b : Nat) : Bool := crL 15 (fun c => crL 15 (fun d => crL (Nat.succ (Nat.mul 2 a)) (fun e => eQ a b (nS c 7) (nS d 7) (nS e a) (qc5 a b c d (Nat.sub (Nat.add e 7) a)))))
theorem eQB00 : eQB 0 0 = true := by decide +kernel
theorem eQB01 : eQB 0 1 = true := by decide +kernel
theorem eQB02 : eQB 0 2 = true := by decide +kernel
theorem eQB03 : eQB 0 3 = true := by decide +kernel
theorem eQB04 : eQB 0 4 = true := by decide +kernel
theorem eQB05 : eQB 0 5 = true := by decide +kernel
theorem eQB06 : eQB 0 6 = true := by decide +kernel
theorem eQB07 : eQB 0 7 = true := by decide +kernel
theorem eQB10 : eQB 1 0 = true := by decide +kernel
theorem eQB11 : eQB 1 1 = true := by decide +kernel
theorem eQB12 : eQB 1 2 = true := by decide +kernel
theorem eQB13 : eQB 1 3 = true := by decide +kernel
theorem eQB14 : eQB 1 4 = true := by decide +kernel
theorem eQB15 : eQB 1 5 = true := by decide +kernel
theorem eQB16 : eQB 1 6 = true := by decide +kernel
theorem eQB17 : eQB 1 7 = true := by decide +kernel
theorem eQB20 : eQB 2 0 = true := by decide +kernel
theorem eQB21 : eQB 2 1 = true := by decide +kernel
theorem eQB22 : eQB 2 2 = true := by decide +kernel
theorem eQB23 : eQB 2 3 = true := by decide +kernel
theorem eQB24 : eQB 2 4 = true := by decide +kernel
theorem eQB25 : eQB 2 5 = true := by decide +kernel
theorem eQB26 : eQB 2 6 = true := by decide +kernel
theorem eQB27 : eQB 2 7 = true := by decide +kernel
theorem eQB30 : eQB 3 0 = true := by decide +kernel
theorem eQB31 : eQB 3 1 = true := by decide +kernel
theorem eQB32 : eQB 3 2 = true := by decide +kernel
theorem eQB33 : eQB 3 3 = true := by decide +kernel
theorem eQB34 : eQB 3 4 = true := by decide +kernel
theorem eQB35 : eQB 3 5 = true := by decide +kernel
theorem eQB36 : eQB 3 6 = true := by decide +kernel
theorem eQB37 : eQB 3 7 = true := by decide +kernel
theorem eQB40 : eQB 4 0 = true := by decide +kernel
theorem eQB41 : eQB 4 1 = true := by decide +kernel
theorem eQB42 : eQB 4 2 = true := by decide +kernel
theorem eQB43 : eQB 4 3 = true := by decide +kernel
theorem eQB44 : eQB 4 4 = true := by decide +kernel
theorem eQB45 : eQB 4 5 = true := by decide +kernel
theorem eQB46 : eQB 4 6 = true := by decide +kernel
theorem eQB47 : eQB 4 7 = true := by decide +kernel
theorem eQB50 : eQB 5 0 = true := by decide +kernel
theorem eQB51 : eQB 5 1 = true := by decide +kernel
theorem eQB52 : eQB 5 2 = true := by decide +kernel
theorem eQB53 : eQB 5 3 = true := by decide +kernel
theorem eQB54 : eQB 5 4 = true := by decide +kernel
theorem eQB55 : eQB 5 5 = true := by decide +kernel
theorem eQB56 : eQB 5 6 = true := by decide +kernel
theorem eQB57 : eQB 5 7 = true := by decide +kernel
theorem eQB60 : eQB 6 0 = true := by decide +kernel
theorem eQB61 : eQB 6 1 = true := by decide +kernel
theorem eQB62 : eQB 6 2 = true := by decide +kernel
theorem eQB63 : eQB 6 3 = true := by decide +kernel
theorem eQB64 : eQB 6 4 = true := by decide +kernel
theorem eQB65 : eQB 6 5 = true := by decide +kernel
theorem eQB66 : eQB 6 6 = true := by decide +kernel
theorem eQB67 : eQB 6 7 = true := by decide +kernel
theorem eQB70 : eQB 7 0 = true := by decide +kernel
theorem eQB71 : eQB 7 1 = true := by decide +kernel
theorem eQB72 : eQB 7 2 = true := by decide +kernel
theorem eQB73 : eQB 7 3 = true := by decide +kernel
theorem eQB74 : eQB 7 4 = true := by decide +kernel
theorem eQB75 : eQB 7 5 = true := by decide +kernel
theorem eQB76 : eQB 7 6 = true := by decide +kernel
theorem eQB77 : eQB 7 7 = true := by decide +kernel
theorem eQB_all (a b : Nat) (ha : a < 8) (hb : b < 8) : eQB a b = true := by
  match a, b, ha, hb with
  | 0, 0, _, _ => exact eQB00
  | 0, 1, _, _ => exact eQB01
  | 0, 2, _, _ => exact eQB02
  | 0, 3, _, _ => exact eQB03
  | 0, 4, _, _ => exact eQB04
  | 0, 5, _, _ => exact eQB05
  | 0, 6, _, _ => exact eQB06
  | 0, 7, _, _ => exact eQB07
  | 1, 0, _, _ => exact eQB10
  | 1, 1, _, _ => exact eQB11
  | 1, 2, _, _ => exact eQB12
  | 1, 3, _, _ => exact eQB13
  | 1, 4, _, _ => exact eQB14
  | 1, 5, _, _ => exact eQB15
  | 1, 6, _, _ => exact eQB16
  | 1, 7, _, _ => exact eQB17
  | 2, 0, _, _ => exact eQB20
  | 2, 1, _, _ => exact eQB21
  | 2, 2, _, _ => exact eQB22
  | 2, 3, _, _ => exact eQB23
  | 2, 4, _, _ => exact eQB24
  | 2, 5, _, _ => exact eQB25
  | 2, 6, _, _ => exact eQB26
  | 2, 7, _, _ => exact eQB27
  | 3, 0, _, _ => exact eQB30
  | 3, 1, _, _ => exact eQB31
  | 3, 2, _, _ => exact eQB32
  | 3, 3, _, _ => exact eQB33
  | 3, 4, _, _ => exact eQB34
  | 3, 5, _, _ => exact eQB35
  | 3, 6, _, _ => exact eQB36
  | 3, 7, _, _ => exact eQB37
  | 4, 0, _, _ => exact eQB40
  | 4, 1, _, _ => exact eQB41
  | 4, 2, _, _ => exact eQB42
  | 4, 3, _, _ => exact eQB43
  | 4, 4, _, _ => exact eQB44
  | 4, 5, _, _ => exact eQB45
  | 4, 6, _, _ => exact eQB46
  | 4, 7, _, _ => exact eQB47
  | 5, 0, _, _ => exact eQB50
  | 5, 1, _, _ => exact eQB51
  | 5, 2, _, _ => exact eQB52
  | 5, 3, _, _ => exact eQB53
  | 5, 4, _, _ => exact eQB54
  | 5, 5, _, _ => exact eQB55
  | 5, 6, _, _ => exact eQB56
  | 5, 7, _, _ => exact eQB57
  | 6, 0, _, _ => exact eQB60
  | 6, 1, _, _ => exact eQB61
  | 6, 2, _, _ => exact eQB62
  | 6, 3, _, _ => exact eQB63
  | 6, 4, _, _ => exact eQB64
  | 6, 5, _, _ => exact eQB65
  | 6, 6, _, _ => exact eQB66
  | 6, 7, _, _ => exact eQB67
  | 7, 0, _, _ => exact eQB70
  | 7, 1, _, _ => exact eQB71
  | 7, 2, _, _ => exact eQB72
  | 7, 3, _, _ => exact eQB73
  | 7, 4, _, _ => exact eQB74
  | 7, 5, _, _ => exact eQB75
  | 7, 6, _, _ => exact eQB76
  | 7, 7, _, _ => exact eQB77
def qcode (X : Nat → Int) : Nat := qc5 (X 0).toNat (X 1).toNat (X 2 + 7).toNat (X 3 + 7).toNat (X 4 + 7).toNat
theorem qz_list (Y : Nat → Int) (h : bx7 Y) (h0 : 0 ≤ Y 0) (h1 : 0 ≤ Y 1) (h4 : (Y 4).natAbs ≤ (Y 0).natAbs) (hz : qz Y) : qmem (qcode Y) qzL = true := by
  have a0 := h 0
  have a1 := h 1
  have a2 := h 2
  have a3 := h 3
  have a4 := h 4
  have t := eQB_all (Y 0).toNat (Y 1).toNat (by omega) (by omega)
  unfold eQB at t
  have t1 := crL_at _ _ t (Y 2 + 7).toNat (by omega)
  have t2 := crL_at _ _ t1 (Y 3 + 7).toNat (by omega)
  have t3 := crL_at _ _ t2 (Y 4 + Y 0).toNat (show (Y 4 + Y 0).toNat < 2 * (Y 0).toNat + 1 by omega)
  have c0 : (Y 0).toNat = cd (Y 0) := (cd_small _ _ (by omega) (by omega)).symm
  have c1 : (Y 1).toNat = cd (Y 1) := (cd_small _ _ (by omega) (by omega)).symm
  have c2 : nS (Y 2 + 7).toNat 7 = cd (Y 2) := by
    rw [← cd_small (Y 2 + 7) (Y 2 + 7).toNat (by omega) (by omega), show (7 : Nat) = cd 7 from by decide, nS_cd, show Y 2 + 7 - 7 = Y 2 by omega]
  have c3 : nS (Y 3 + 7).toNat 7 = cd (Y 3) := by
    rw [← cd_small (Y 3 + 7) (Y 3 + 7).toNat (by omega) (by omega), show (7 : Nat) = cd 7 from by decide, nS_cd, show Y 3 + 7 - 7 = Y 3 by omega]
  have c4 : nS (Y 4 + Y 0).toNat (Y 0).toNat = cd (Y 4) := by
    rw [← cd_small (Y 4 + Y 0) (Y 4 + Y 0).toNat (by omega) (by omega), c0, nS_cd, show Y 4 + Y 0 - Y 0 = Y 4 by omega]
  have cn : qc5 (Y 0).toNat (Y 1).toNat (Y 2 + 7).toNat (Y 3 + 7).toNat (Nat.sub (Nat.add (Y 4 + Y 0).toNat 7) (Y 0).toNat) = qcode Y := by
    unfold qcode
    have : Nat.sub (Nat.add (Y 4 + Y 0).toNat 7) (Y 0).toNat = (Y 4 + 7).toNat := by
      show (Y 4 + Y 0).toNat + 7 - (Y 0).toNat = _
      omega
    rw [this]
  simp only [c2, c3, c4, cn] at t3
  rw [c0, c1] at t3
  generalize qcode Y = n at *
  have hi : eI (cd (Y 0)) (cd (Y 1)) (cd (Y 2)) (cd (Y 3)) (cd (Y 4)) = cd (qI Y) := eI_cd _ _ _ _ _
  have hj : eJ (cd (Y 0)) (cd (Y 1)) (cd (Y 2)) (cd (Y 3)) (cd (Y 4)) = cd (qJ Y) := eJ_cd _ _ _ _ _
  have j0 : eJ0 (cd (Y 2)) (cd (Y 3)) (cd (Y 4)) = cd (qJd Y 0) := eJ0_cd _ _ _
  have j1 : eJ1 (cd (Y 1)) (cd (Y 2)) (cd (Y 3)) (cd (Y 4)) = cd (qJd Y 1) := eJ1_cd _ _ _ _
  have j2 : eJ2 (cd (Y 0)) (cd (Y 1)) (cd (Y 2)) (cd (Y 3)) (cd (Y 4)) = cd (qJd Y 2) := eJ2_cd _ _ _ _ _
  have j3 : eJ3 (cd (Y 0)) (cd (Y 1)) (cd (Y 2)) (cd (Y 3)) = cd (qJd Y 3) := eJ3_cd _ _ _ _
  have j4 : eJ4 (cd (Y 0)) (cd (Y 1)) (cd (Y 2)) = cd (qJd Y 4) := eJ4_cd _ _ _
  have hp : nP 12 (nP (cd (qI Y)) (cd (qI Y))) = cd (12 * (qI Y * qI Y)) := by
    rw [show (12 : Nat) = cd 12 from by decide]
    simp only [nP_cd]
  have hq : nP 2 (cd (qJ Y)) = cd (2 * qJ Y) := by
    rw [show (2 : Nat) = cd 2 from by decide]
    simp only [nP_cd]
  unfold eQ eQ1 eQ2 at t3
  rw [hi, hj, hp, hq, j0, j1, j2, j3, j4, p12_cd, p12_cd, p2_cd, pm3_cd, pm3_cd] at t3
  simp only [nP_cd] at t3
  obtain ⟨z0, z1, z2, z3, z4⟩ := hz
  have e0 : 12 * (qI Y * qI Y) * (12 * Y 4) = 2 * qJ Y * qJd Y 0 := Int.eq_of_sub_eq_zero z0
  have e1 : 12 * (qI Y * qI Y) * (-3 * Y 3) = 2 * qJ Y * qJd Y 1 := Int.eq_of_sub_eq_zero z1
  have e2 : 12 * (qI Y * qI Y) * (2 * Y 2) = 2 * qJ Y * qJd Y 2 := Int.eq_of_sub_eq_zero z2
  have e3 : 12 * (qI Y * qI Y) * (-3 * Y 1) = 2 * qJ Y * qJd Y 3 := Int.eq_of_sub_eq_zero z3
  have e4 : 12 * (qI Y * qI Y) * (12 * Y 0) = 2 * qJ Y * qJd Y 4 := Int.eq_of_sub_eq_zero z4
  rw [e0, e1, e2, e3, e4] at t3
  simp only [Nat.beq_refl, Bool.and_self, cond_true] at t3
  exact t3
