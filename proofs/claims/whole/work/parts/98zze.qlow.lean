/-! how small the discriminant's second coefficient may be: the common divisor of its numbers -/
def zq00 (X : Nat → Int) : Int := 12 * (qI X * (qId X 0 * qId X 0)) - 1 * (qJd X 0 * qJd X 0)
def zq01 (X : Nat → Int) : Int := 24 * (qI X * (qId X 0 * qId X 1)) - 2 * (qJd X 0 * qJd X 1)
def zq02 (X : Nat → Int) : Int := 24 * (qI X * (qId X 0 * qId X 2)) - 2 * (qJd X 0 * qJd X 2) - 2 * (qJ X * (72 * X 4))
def zq03 (X : Nat → Int) : Int := 24 * (qI X * (qId X 0 * qId X 3)) - 2 * (qJd X 0 * qJd X 3) - 2 * (qJ X * (-54 * X 3))
def zq04 (X : Nat → Int) : Int := 144 * (qI X * qI X) + 24 * (qI X * (qId X 0 * qId X 4)) - 2 * (qJd X 0 * qJd X 4) - 2 * (qJ X * (72 * X 2))
def zq11 (X : Nat → Int) : Int := 12 * (qI X * (qId X 1 * qId X 1)) - 1 * (qJd X 1 * qJd X 1) - 2 * (qJ X * (-27 * X 4))
def zq12 (X : Nat → Int) : Int := 24 * (qI X * (qId X 1 * qId X 2)) - 2 * (qJd X 1 * qJd X 2) - 2 * (qJ X * (9 * X 3))
def zq13 (X : Nat → Int) : Int := -36 * (qI X * qI X) + 24 * (qI X * (qId X 1 * qId X 3)) - 2 * (qJd X 1 * qJd X 3) - 2 * (qJ X * (9 * X 2))
def zq14 (X : Nat → Int) : Int := 24 * (qI X * (qId X 1 * qId X 4)) - 2 * (qJd X 1 * qJd X 4) - 2 * (qJ X * (-54 * X 1))
def zq22 (X : Nat → Int) : Int := 12 * (qI X * qI X) + 12 * (qI X * (qId X 2 * qId X 2)) - 1 * (qJd X 2 * qJd X 2) - 2 * (qJ X * (-6 * X 2))
def zq23 (X : Nat → Int) : Int := 24 * (qI X * (qId X 2 * qId X 3)) - 2 * (qJd X 2 * qJd X 3) - 2 * (qJ X * (9 * X 1))
def zq24 (X : Nat → Int) : Int := 24 * (qI X * (qId X 2 * qId X 4)) - 2 * (qJd X 2 * qJd X 4) - 2 * (qJ X * (72 * X 0))
def zq33 (X : Nat → Int) : Int := 12 * (qI X * (qId X 3 * qId X 3)) - 1 * (qJd X 3 * qJd X 3) - 2 * (qJ X * (-27 * X 0))
def zq34 (X : Nat → Int) : Int := 24 * (qI X * (qId X 3 * qId X 4)) - 2 * (qJd X 3 * qJd X 4)
def zq44 (X : Nat → Int) : Int := 12 * (qI X * (qId X 4 * qId X 4)) - 1 * (qJd X 4 * qJd X 4)
theorem G2_zq (X Z : Nat → Int) : qG X Z 2 = zq00 X * (Z 0 * Z 0) + zq01 X * (Z 0 * Z 1) + zq02 X * (Z 0 * Z 2) + zq03 X * (Z 0 * Z 3) + zq04 X * (Z 0 * Z 4) + zq11 X * (Z 1 * Z 1) + zq12 X * (Z 1 * Z 2) + zq13 X * (Z 1 * Z 3) + zq14 X * (Z 1 * Z 4) + zq22 X * (Z 2 * Z 2) + zq23 X * (Z 2 * Z 3) + zq24 X * (Z 2 * Z 4) + zq33 X * (Z 3 * Z 3) + zq34 X * (Z 3 * Z 4) + zq44 X * (Z 4 * Z 4) := by
  have h : qI1 X Z = qId X 0 * Z 0 + qId X 1 * Z 1 + qId X 2 * Z 2 + qId X 3 * Z 3 + qId X 4 * Z 4 := by
    unfold qI1 qId
    simp only [if_true, if_false, Nat.reduceEqDiff]
    grind
  have h2 : qJ1 X Z = qJd X 0 * Z 0 + qJd X 1 * Z 1 + qJd X 2 * Z 2 + qJd X 3 * Z 3 + qJd X 4 * Z 4 := rfl
  have h3 : qJ1 Z X = (72 * (Z 2 * Z 4) - 27 * (Z 3 * Z 3)) * X 0 + (9 * (Z 2 * Z 3) - 54 * (Z 4 * Z 1)) * X 1 + (72 * (Z 0 * Z 4) + 9 * (Z 1 * Z 3) - 6 * (Z 2 * Z 2)) * X 2 + (9 * (Z 1 * Z 2) - 54 * (Z 0 * Z 3)) * X 3 + (72 * (Z 0 * Z 2) - 27 * (Z 1 * Z 1)) * X 4 := by
    unfold qJ1 qJd
    simp only [if_true, if_false, Nat.reduceEqDiff]
  have h4 : qI Z = 12 * (Z 0 * Z 4) - 3 * (Z 1 * Z 3) + Z 2 * Z 2 := rfl
  have h5 : qG X Z 2 = 12 * (qI X * (qI X * qI Z)) + 12 * (qI X * (qI1 X Z * qI1 X Z)) - 2 * (qJ X * qJ1 Z X) - qJ1 X Z * qJ1 X Z := by
    unfold qG
    simp only [if_true, if_false, Nat.reduceEqDiff]
  rw [h5, h, h2, h3, h4]
  unfold zq00 zq01 zq02 zq03 zq04 zq11 zq12 zq13 zq14 zq22 zq23 zq24 zq33 zq34 zq44
  clear h h2 h3 h4 h5
  generalize qId X 0 = i0
  generalize qJd X 0 = j0
  generalize qId X 1 = i1
  generalize qJd X 1 = j1
  generalize qId X 2 = i2
  generalize qJd X 2 = j2
  generalize qId X 3 = i3
  generalize qJd X 3 = j3
  generalize qId X 4 = i4
  generalize qJd X 4 = j4
  generalize qI X = I
  generalize qJ X = J
  grind
def s2 (X : Nat → Int) : Nat := Nat.gcd (zq00 X).natAbs (Nat.gcd (zq01 X).natAbs (Nat.gcd (zq02 X).natAbs (Nat.gcd (zq03 X).natAbs (Nat.gcd (zq04 X).natAbs (Nat.gcd (zq11 X).natAbs (Nat.gcd (zq12 X).natAbs (Nat.gcd (zq13 X).natAbs (Nat.gcd (zq14 X).natAbs (Nat.gcd (zq22 X).natAbs (Nat.gcd (zq23 X).natAbs (Nat.gcd (zq24 X).natAbs (Nat.gcd (zq33 X).natAbs (Nat.gcd (zq34 X).natAbs ((zq44 X).natAbs))))))))))))))
theorem s2_dvd (X Z : Nat → Int) : (s2 X : Int) ∣ qG X Z 2 := by
  have st : ∀ a b : Nat, Nat.gcd a b ∣ a ∧ Nat.gcd a b ∣ b := fun a b => ⟨Nat.gcd_dvd_left a b, Nat.gcd_dvd_right a b⟩
  have p0 : s2 X ∣ s2 X := Nat.dvd_refl _
  have u0 : s2 X ∣ (zq00 X).natAbs := Nat.dvd_trans p0 (Nat.gcd_dvd_left _ _)
  have p1 : s2 X ∣ Nat.gcd (zq01 X).natAbs (Nat.gcd (zq02 X).natAbs (Nat.gcd (zq03 X).natAbs (Nat.gcd (zq04 X).natAbs (Nat.gcd (zq11 X).natAbs (Nat.gcd (zq12 X).natAbs (Nat.gcd (zq13 X).natAbs (Nat.gcd (zq14 X).natAbs (Nat.gcd (zq22 X).natAbs (Nat.gcd (zq23 X).natAbs (Nat.gcd (zq24 X).natAbs (Nat.gcd (zq33 X).natAbs (Nat.gcd (zq34 X).natAbs ((zq44 X).natAbs))))))))))))) := Nat.dvd_trans p0 (Nat.gcd_dvd_right _ _)
  have u1 : s2 X ∣ (zq01 X).natAbs := Nat.dvd_trans p1 (Nat.gcd_dvd_left _ _)
  have p2 : s2 X ∣ Nat.gcd (zq02 X).natAbs (Nat.gcd (zq03 X).natAbs (Nat.gcd (zq04 X).natAbs (Nat.gcd (zq11 X).natAbs (Nat.gcd (zq12 X).natAbs (Nat.gcd (zq13 X).natAbs (Nat.gcd (zq14 X).natAbs (Nat.gcd (zq22 X).natAbs (Nat.gcd (zq23 X).natAbs (Nat.gcd (zq24 X).natAbs (Nat.gcd (zq33 X).natAbs (Nat.gcd (zq34 X).natAbs ((zq44 X).natAbs)))))))))))) := Nat.dvd_trans p1 (Nat.gcd_dvd_right _ _)
  have u2 : s2 X ∣ (zq02 X).natAbs := Nat.dvd_trans p2 (Nat.gcd_dvd_left _ _)
  have p3 : s2 X ∣ Nat.gcd (zq03 X).natAbs (Nat.gcd (zq04 X).natAbs (Nat.gcd (zq11 X).natAbs (Nat.gcd (zq12 X).natAbs (Nat.gcd (zq13 X).natAbs (Nat.gcd (zq14 X).natAbs (Nat.gcd (zq22 X).natAbs (Nat.gcd (zq23 X).natAbs (Nat.gcd (zq24 X).natAbs (Nat.gcd (zq33 X).natAbs (Nat.gcd (zq34 X).natAbs ((zq44 X).natAbs))))))))))) := Nat.dvd_trans p2 (Nat.gcd_dvd_right _ _)
  have u3 : s2 X ∣ (zq03 X).natAbs := Nat.dvd_trans p3 (Nat.gcd_dvd_left _ _)
  have p4 : s2 X ∣ Nat.gcd (zq04 X).natAbs (Nat.gcd (zq11 X).natAbs (Nat.gcd (zq12 X).natAbs (Nat.gcd (zq13 X).natAbs (Nat.gcd (zq14 X).natAbs (Nat.gcd (zq22 X).natAbs (Nat.gcd (zq23 X).natAbs (Nat.gcd (zq24 X).natAbs (Nat.gcd (zq33 X).natAbs (Nat.gcd (zq34 X).natAbs ((zq44 X).natAbs)))))))))) := Nat.dvd_trans p3 (Nat.gcd_dvd_right _ _)
  have u4 : s2 X ∣ (zq04 X).natAbs := Nat.dvd_trans p4 (Nat.gcd_dvd_left _ _)
  have p5 : s2 X ∣ Nat.gcd (zq11 X).natAbs (Nat.gcd (zq12 X).natAbs (Nat.gcd (zq13 X).natAbs (Nat.gcd (zq14 X).natAbs (Nat.gcd (zq22 X).natAbs (Nat.gcd (zq23 X).natAbs (Nat.gcd (zq24 X).natAbs (Nat.gcd (zq33 X).natAbs (Nat.gcd (zq34 X).natAbs ((zq44 X).natAbs))))))))) := Nat.dvd_trans p4 (Nat.gcd_dvd_right _ _)
  have u5 : s2 X ∣ (zq11 X).natAbs := Nat.dvd_trans p5 (Nat.gcd_dvd_left _ _)
  have p6 : s2 X ∣ Nat.gcd (zq12 X).natAbs (Nat.gcd (zq13 X).natAbs (Nat.gcd (zq14 X).natAbs (Nat.gcd (zq22 X).natAbs (Nat.gcd (zq23 X).natAbs (Nat.gcd (zq24 X).natAbs (Nat.gcd (zq33 X).natAbs (Nat.gcd (zq34 X).natAbs ((zq44 X).natAbs)))))))) := Nat.dvd_trans p5 (Nat.gcd_dvd_right _ _)
  have u6 : s2 X ∣ (zq12 X).natAbs := Nat.dvd_trans p6 (Nat.gcd_dvd_left _ _)
  have p7 : s2 X ∣ Nat.gcd (zq13 X).natAbs (Nat.gcd (zq14 X).natAbs (Nat.gcd (zq22 X).natAbs (Nat.gcd (zq23 X).natAbs (Nat.gcd (zq24 X).natAbs (Nat.gcd (zq33 X).natAbs (Nat.gcd (zq34 X).natAbs ((zq44 X).natAbs))))))) := Nat.dvd_trans p6 (Nat.gcd_dvd_right _ _)
  have u7 : s2 X ∣ (zq13 X).natAbs := Nat.dvd_trans p7 (Nat.gcd_dvd_left _ _)
  have p8 : s2 X ∣ Nat.gcd (zq14 X).natAbs (Nat.gcd (zq22 X).natAbs (Nat.gcd (zq23 X).natAbs (Nat.gcd (zq24 X).natAbs (Nat.gcd (zq33 X).natAbs (Nat.gcd (zq34 X).natAbs ((zq44 X).natAbs)))))) := Nat.dvd_trans p7 (Nat.gcd_dvd_right _ _)
  have u8 : s2 X ∣ (zq14 X).natAbs := Nat.dvd_trans p8 (Nat.gcd_dvd_left _ _)
  have p9 : s2 X ∣ Nat.gcd (zq22 X).natAbs (Nat.gcd (zq23 X).natAbs (Nat.gcd (zq24 X).natAbs (Nat.gcd (zq33 X).natAbs (Nat.gcd (zq34 X).natAbs ((zq44 X).natAbs))))) := Nat.dvd_trans p8 (Nat.gcd_dvd_right _ _)
  have u9 : s2 X ∣ (zq22 X).natAbs := Nat.dvd_trans p9 (Nat.gcd_dvd_left _ _)
  have p10 : s2 X ∣ Nat.gcd (zq23 X).natAbs (Nat.gcd (zq24 X).natAbs (Nat.gcd (zq33 X).natAbs (Nat.gcd (zq34 X).natAbs ((zq44 X).natAbs)))) := Nat.dvd_trans p9 (Nat.gcd_dvd_right _ _)
  have u10 : s2 X ∣ (zq23 X).natAbs := Nat.dvd_trans p10 (Nat.gcd_dvd_left _ _)
  have p11 : s2 X ∣ Nat.gcd (zq24 X).natAbs (Nat.gcd (zq33 X).natAbs (Nat.gcd (zq34 X).natAbs ((zq44 X).natAbs))) := Nat.dvd_trans p10 (Nat.gcd_dvd_right _ _)
  have u11 : s2 X ∣ (zq24 X).natAbs := Nat.dvd_trans p11 (Nat.gcd_dvd_left _ _)
  have p12 : s2 X ∣ Nat.gcd (zq33 X).natAbs (Nat.gcd (zq34 X).natAbs ((zq44 X).natAbs)) := Nat.dvd_trans p11 (Nat.gcd_dvd_right _ _)
  have u12 : s2 X ∣ (zq33 X).natAbs := Nat.dvd_trans p12 (Nat.gcd_dvd_left _ _)
  have p13 : s2 X ∣ Nat.gcd (zq34 X).natAbs ((zq44 X).natAbs) := Nat.dvd_trans p12 (Nat.gcd_dvd_right _ _)
  have u13 : s2 X ∣ (zq34 X).natAbs := Nat.dvd_trans p13 (Nat.gcd_dvd_left _ _)
  have p14 : s2 X ∣ (zq44 X).natAbs := Nat.dvd_trans p13 (Nat.gcd_dvd_right _ _)
  rw [G2_zq]
  have w : ∀ (a b : Int), s2 X ∣ a.natAbs → (s2 X : Int) ∣ a * b := fun a b h => Int.dvd_trans (Int.natAbs_dvd_natAbs.mp (show (s2 X : Int).natAbs ∣ a.natAbs from h)) (Int.dvd_mul_right a b)
  exact Int.dvd_add (Int.dvd_add (Int.dvd_add (Int.dvd_add (Int.dvd_add (Int.dvd_add (Int.dvd_add (Int.dvd_add (Int.dvd_add (Int.dvd_add (Int.dvd_add (Int.dvd_add (Int.dvd_add (Int.dvd_add (w _ _ u0) (w _ _ u1)) (w _ _ u2)) (w _ _ u3)) (w _ _ u4)) (w _ _ u5)) (w _ _ u6)) (w _ _ u7)) (w _ _ u8)) (w _ _ u9)) (w _ _ u10)) (w _ _ u11)) (w _ _ u12)) (w _ _ u13)) (w _ _ p14)
theorem s2_le (X Z : Nat → Int) (h : qG X Z 2 ≠ 0) : s2 X ≤ (qG X Z 2).natAbs := Nat.le_of_dvd (Int.natAbs_pos.mpr h) (show (s2 X : Int).natAbs ∣ (qG X Z 2).natAbs from Int.natAbs_dvd_natAbs.mpr (s2_dvd X Z))
theorem s2_zero (X Z : Nat → Int) (h : s2 X = 0) : qG X Z 2 = 0 := by
  have := s2_dvd X Z
  rw [h] at this
  exact Int.zero_dvd.mp this
/-! bounds of the net's numbers by the first quartic's -/
def zK2 (X : Nat → Int) : Nat := crB2 (qI X).natAbs (qJ X).natAbs (is1 X) (js1 X) (js2 X)
def zK3 (X : Nat → Int) : Nat := crB3 (qI X).natAbs (qJ X).natAbs (is1 X) (js1 X) (js2 X)
theorem zG2_le (X Z : Nat → Int) (h : bx7 Z) : (qG X Z 2).natAbs ≤ zK2 X := bG2 X Z h _ _ _ _ _ (Nat.le_refl _) (bI1x X Z h) (Nat.le_refl _) (bJ1x X Z h) (bJ2x X Z h)
theorem zG3_le (X Z : Nat → Int) (h : bx7 Z) : (qG X Z 3).natAbs ≤ zK3 X := bG3 X Z h _ _ _ _ _ (Nat.le_refl _) (bI1x X Z h) (Nat.le_refl _) (bJ1x X Z h) (bJ2x X Z h)
theorem qJ3_rot (X Y W : Nat → Int) : qJ3 X Y W = qJt Y W 0 * X 0 + qJt Y W 1 * X 1 + qJt Y W 2 * X 2 + qJt Y W 3 * X 3 + qJt Y W 4 * X 4 := by
  unfold qJ3 qJt
  simp only [if_true, if_false, Nat.reduceEqDiff]
  grind
theorem bJ3x (X Y W : Nat → Int) (hY : bx7 Y) (hW : bx7 W) : (qJ3 X Y W).natAbs ≤ 2 * js2 X := by
  obtain ⟨a, b, c, d, e⟩ := bJt Y W hY hW
  rw [qJ3_rot]
  have f := five_le a b c d e (Nat.le_refl (X 0).natAbs) (Nat.le_refl (X 1).natAbs) (Nat.le_refl (X 2).natAbs) (Nat.le_refl (X 3).natAbs) (Nat.le_refl (X 4).natAbs)
  refine Nat.le_trans f (Nat.le_of_eq ?_)
  unfold js2
  omega
theorem zT3_num (a b c d e : Nat) : 24 * (a * (b * 1568)) + 24 * (a * (b * 784)) + 12 * (b * (b * b)) + 2 * (c * 140973) + 2 * (d * (2 * e)) + 2 * (d * e) = 3 * crB3 a c b d e := by
  unfold crB3
  show _ = 3 * (24 * (a * (b * 784)) + 4 * (b * (b * b)) + 2 * (c * 46991) + 2 * (d * e))
  grind
theorem zT321_le (X Y W : Nat → Int) (hY : bx7 Y) (hW : bx7 W) : (tT321 X Y W).natAbs ≤ 3 * zK3 X := by
  unfold zK3
  rw [← zT3_num]
  exact ns_le (ns_le (ns_le (na_le (na_le (nmul_le k24 (nmul_le (Nat.le_refl _) (nmul_le (bI1x X Y hY) (bI1 Y W hY hW)))) (nmul_le k24 (nmul_le (Nat.le_refl _) (nmul_le (bI1x X W hW) (bI Y hY))))) (nmul_le k12 (nmul_le (bI1x X Y hY) (nmul_le (bI1x X Y hY) (bI1x X W hW))))) (nmul_le k2 (nmul_le (Nat.le_refl _) (bJ1 Y W hY hW)))) (nmul_le k2 (nmul_le (bJ1x X Y hY) (bJ3x X Y W hY hW)))) (nmul_le k2 (nmul_le (bJ1x X W hW) (bJ2x X Y hY)))
theorem zT312_le (X Y W : Nat → Int) (hY : bx7 Y) (hW : bx7 W) : (tT312 X Y W).natAbs ≤ 3 * zK3 X := by
  have z : 24 * ((qI X).natAbs * (is1 X * 784)) + 24 * ((qI X).natAbs * (is1 X * 1568)) + 12 * (is1 X * (is1 X * is1 X)) + 2 * ((qJ X).natAbs * 140973) + 2 * (js1 X * js2 X) + 2 * (js1 X * (2 * js2 X)) = 3 * zK3 X := by
    unfold zK3
    rw [← zT3_num]
    omega
  rw [← z]
  exact ns_le (ns_le (ns_le (na_le (na_le (nmul_le k24 (nmul_le (Nat.le_refl _) (nmul_le (bI1x X Y hY) (bI W hW)))) (nmul_le k24 (nmul_le (Nat.le_refl _) (nmul_le (bI1x X W hW) (bI1 Y W hY hW))))) (nmul_le k12 (nmul_le (bI1x X Y hY) (nmul_le (bI1x X W hW) (bI1x X W hW))))) (nmul_le k2 (nmul_le (Nat.le_refl _) (bJ1 W Y hW hY)))) (nmul_le k2 (nmul_le (bJ1x X Y hY) (bJ2x X W hW)))) (nmul_le k2 (nmul_le (bJ1x X W hW) (bJ3x X Y W hY hW)))
/-! the list's test -/
def zt (A K2 K3 : Nat) : Bool := Nat.beq A 0 || (Nat.ble 432 A && (Nat.ble K2 (Nat.mul 64009 A) && (Nat.ble (Nat.mul 9 (Nat.mul K3 K3)) (Nat.mul 24026024632320000 A) && Nat.blt (Nat.add (Nat.mul 198514334256 (Nat.mul A A)) (Nat.mul K3 (Nat.add (Nat.mul (Nat.mul 4 A) 62035729455) (Nat.mul K3 K3)))) (Nat.mul 3984496719921263149056 (Nat.mul A A)))))
def zck (X : Nat → Int) : Bool := zt (s2 X) (zK2 X) (zK3 X)
def qall (P : Nat → Bool) : List Nat → Bool
  | [] => true
  | x :: l => P x && qall P l
theorem qall_mem (P : Nat → Bool) (n : Nat) : ∀ l : List Nat, qmem n l = true → qall P l = true → P n = true
  | [], h, _ => by
    unfold qmem at h
    exact absurd h (by decide)
  | x :: l, h, g => by
    unfold qmem at h
    unfold qall at g
    rw [Bool.or_eq_true] at h
    rw [Bool.and_eq_true] at g
    rcases h with h | h
    · rw [Nat.eq_of_beq_eq_true h]
      exact g.1
    · exact qall_mem P n l h g.2
def dX (n : Nat) : Nat → Int := v5 (Int.ofNat (Nat.div n 65536)) (Int.ofNat (Nat.mod (Nat.div n 4096) 16)) (Int.sub (Int.ofNat (Nat.mod (Nat.div n 256) 16)) 7) (Int.sub (Int.ofNat (Nat.mod (Nat.div n 16) 16)) 7) (Int.sub (Int.ofNat (Nat.mod n 16)) 7)
theorem dX_code (X : Nat → Int) (h : bx7 X) (h0 : 0 ≤ X 0) (h1 : 0 ≤ X 1) : dX (qcode X) = v5 (X 0) (X 1) (X 2) (X 3) (X 4) := by
  have a0 := h 0
  have a1 := h 1
  have a2 := h 2
  have a3 := h 3
  have a4 := h 4
  unfold dX qcode qc5
  have e : ∀ a b c d e : Nat, a < 16 → b < 16 → c < 16 → d < 16 → e < 16 → Nat.div (Nat.add (Nat.mul (Nat.add (Nat.mul (Nat.add (Nat.mul (Nat.add (Nat.mul a 16) b) 16) c) 16) d) 16) e) 65536 = a ∧ Nat.mod (Nat.div (Nat.add (Nat.mul (Nat.add (Nat.mul (Nat.add (Nat.mul (Nat.add (Nat.mul a 16) b) 16) c) 16) d) 16) e) 4096) 16 = b ∧ Nat.mod (Nat.div (Nat.add (Nat.mul (Nat.add (Nat.mul (Nat.add (Nat.mul (Nat.add (Nat.mul a 16) b) 16) c) 16) d) 16) e) 256) 16 = c ∧ Nat.mod (Nat.div (Nat.add (Nat.mul (Nat.add (Nat.mul (Nat.add (Nat.mul (Nat.add (Nat.mul a 16) b) 16) c) 16) d) 16) e) 16) 16 = d ∧ Nat.mod (Nat.add (Nat.mul (Nat.add (Nat.mul (Nat.add (Nat.mul (Nat.add (Nat.mul a 16) b) 16) c) 16) d) 16) e) 16 = e := by
    intro a b c d e ha hb hc hd he
    show ((((a * 16 + b) * 16 + c) * 16 + d) * 16 + e) / 65536 = a ∧ ((((a * 16 + b) * 16 + c) * 16 + d) * 16 + e) / 4096 % 16 = b ∧ ((((a * 16 + b) * 16 + c) * 16 + d) * 16 + e) / 256 % 16 = c ∧ ((((a * 16 + b) * 16 + c) * 16 + d) * 16 + e) / 16 % 16 = d ∧ ((((a * 16 + b) * 16 + c) * 16 + d) * 16 + e) % 16 = e
    omega
  obtain ⟨e0, e1, e2, e3, e4⟩ := e (X 0).toNat (X 1).toNat (X 2 + 7).toNat (X 3 + 7).toNat (X 4 + 7).toNat (by omega) (by omega) (by omega) (by omega) (by omega)
  rw [e0, e1, e2, e3, e4]
  have f0 : Int.ofNat (X 0).toNat = X 0 := by
    show ((X 0).toNat : Int) = X 0
    omega
  have f1 : Int.ofNat (X 1).toNat = X 1 := by
    show ((X 1).toNat : Int) = X 1
    omega
  have f2 : Int.sub (Int.ofNat (X 2 + 7).toNat) 7 = X 2 := by
    show ((X 2 + 7).toNat : Int) - 7 = X 2
    omega
  have f3 : Int.sub (Int.ofNat (X 3 + 7).toNat) 7 = X 3 := by
    show ((X 3 + 7).toNat : Int) - 7 = X 3
    omega
  have f4 : Int.sub (Int.ofNat (X 4 + 7).toNat) 7 = X 4 := by
    show ((X 4 + 7).toNat : Int) - 7 = X 4
    omega
  rw [f0, f1, f2, f3, f4]
theorem zall : qall (fun n => zck (dX n)) qzL = true := by decide +kernel
theorem zck_v5 (X : Nat → Int) : zck (v5 (X 0) (X 1) (X 2) (X 3) (X 4)) = zck X := rfl
theorem zck_true (X : Nat → Int) (h : bx7 X) (h0 : 0 ≤ X 0) (h1 : 0 ≤ X 1) (h4 : (X 4).natAbs ≤ (X 0).natAbs) (hz : qz X) : zck X = true := by
  have := qall_mem (fun n => zck (dX n)) _ _ (qz_list X h h0 h1 h4 hz) zall
  simp only [dX_code X h h0 h1, zck_v5] at this
  exact this
theorem zt_mean (A K2 K3 : Nat) (h : zt A K2 K3 = true) (hA : A ≠ 0) : 432 ≤ A ∧ K2 ≤ 64009 * A ∧ 9 * (K3 * K3) ≤ 24026024632320000 * A ∧ 198514334256 * (A * A) + K3 * (4 * A * 62035729455 + K3 * K3) < 3984496719921263149056 * (A * A) := by
  unfold zt at h
  rw [Bool.or_eq_true] at h
  rcases h with h | h
  · exact absurd (Nat.eq_of_beq_eq_true h) hA
  · simp only [Bool.and_eq_true] at h
    exact ⟨Nat.le_of_ble_eq_true h.1, Nat.le_of_ble_eq_true h.2.1, Nat.le_of_ble_eq_true h.2.2.1, Nat.le_of_ble_eq_true h.2.2.2⟩
