/-! side: the reference -/
theorem sh30 {x y : Int64} (e : y = x >>> ((zI 30).toInt64 &&& 63)) : y.toInt = x.toInt / 1073741824 := by
  have e0 : ((zI 30).toInt64 &&& 63 : Int64) = 30 := by decide +kernel
  rw [e0] at e
  have e1 : (x >>> (30 : Int64)).toBitVec = x.toBitVec.sshiftRight 30 := rfl
  have e2 : y.toInt = (x >>> (30 : Int64)).toBitVec.toInt := by rw [e]; rfl
  rw [e2, e1, BitVec.toInt_sshiftRight, Int.shiftRight_eq_div_pow]
  rfl
theorem an30 (x : Int64) : (x &&& 1073741823).toInt = x.toInt % 1073741824 := by
  have e1 : (x &&& 1073741823).toInt = (x.toBitVec &&& 1073741823#64).toInt := rfl
  have e2 : (x.toBitVec &&& 1073741823#64).toNat = x.toBitVec.toNat % 1073741824 := by
    rw [BitVec.toNat_and]
    exact Nat.and_two_pow_sub_one_eq_mod x.toBitVec.toNat 30
  have e3 : x.toInt = x.toBitVec.toInt := rfl
  rw [e1, e3, BitVec.toInt_eq_toNat_cond, BitVec.toInt_eq_toNat_cond, e2]
  have := x.toBitVec.isLt
  split <;> split <;> omega
def hiC (E : Nat → Int) : Nat → Int := fun n => E n / 1073741824
def loC (E : Nat → Int) : Nat → Int := fun n => E n % 1073741824
def Sq2 (C : Nat → Int) (D : Nat) (p q s : Int) (i j : Nat) : Int := rsum (fun a => rsum (fun b => tm C D p q s a b) 7) i + rsum (fun b => tm C D p q s i b) j
theorem Sq2_n {C : Nat → Int} {D : Nat} {p q s i j : Int} (hi : 0 ≤ i) (hj : j = 7) : Sq2 C D p q s i.toNat j.toNat = Sq2 C D p q s (i + 1).toNat 0 := by
  rw [hj, show (i + 1).toNat = i.toNat + 1 by omega]
  unfold Sq2
  show _ = rsum _ i.toNat + rsum (fun b => tm C D p q s i.toNat b) 7 + 0
  show _ + rsum (fun b => tm C D p q s i.toNat b) 7 = _
  omega
theorem Sq2_s {C : Nat → Int} {D : Nat} {p q s i j : Int} {x y : Int64} (hj : 0 ≤ j) (hx : cq x (Sq2 C D p q s i.toNat j.toNat)) (hy : cq y (tm C D p q s i.toNat j.toNat)) : cq (x + y) (Sq2 C D p q s i.toNat (j + 1).toNat) := by
  have e : Sq2 C D p q s i.toNat (j + 1).toNat = Sq2 C D p q s i.toNat j.toNat + tm C D p q s i.toNat j.toNat := by
    rw [show (j + 1).toNat = j.toNat + 1 by omega]
    unfold Sq2
    show _ + (rsum _ j.toNat + tm C D p q s i.toNat j.toNat) = _
    omega
  rw [e]
  exact cq_add hx hy
theorem lp_cq (u : Int) (n : Nat) : cq (lpow (zL u) n) (u ^ n) := by
  rw [lpow_z]
  exact cq_zL _
theorem tof_at {J1 : Nat → Int64} {sort i j : Int} (hs : 0 ≤ sort) (hi : 0 ≤ i) (hj : 0 ≤ j) : ci (tof J1 sort.toNat) (7 * i.toNat + j.toNat) = (J1 (49 * sort + 7 * i + j : Int).toNat).toInt := by
  show (J1 (49 * sort.toNat + (7 * i.toNat + j.toNat))).toInt = _
  congr 2
  omega
theorem sd_s {J1 : Nat → Int64} {sort i j pp qq ss zd : Int} {Dg : Nat} {hi_ lo_ ra rb rc y : Int64} (hs : 0 ≤ sort) (hi : 0 ≤ i) (hj : 0 ≤ j) (h1 : ra = lpow (zL pp) i.toNat) (h2 : rb = lpow (zL qq) j.toNat) (h3 : rc = lpow (zL ss) (zd - i - j).toNat) (hd : zd = (Dg : Int)) (ey : y = J1 (49 * sort + 7 * i + j : Int).toNat >>> ((zI 30).toInt64 &&& 63)) (hH : cq hi_ (Sq2 (hiC (ci (tof J1 sort.toNat))) Dg pp qq ss i.toNat j.toNat)) (hL : cq lo_ (Sq2 (loC (ci (tof J1 sort.toNat))) Dg pp qq ss i.toNat j.toNat)) : cq (hi_ + y * (ra * rb * rc)) (Sq2 (hiC (ci (tof J1 sort.toNat))) Dg pp qq ss i.toNat (j + 1).toNat) ∧ cq (lo_ + (J1 (49 * sort + 7 * i + j : Int).toNat &&& 1073741823) * (ra * rb * rc)) (Sq2 (loC (ci (tof J1 sort.toNat))) Dg pp qq ss i.toNat (j + 1).toNat) := by
  have cm : cq (ra * rb * rc) (pp ^ i.toNat * qq ^ j.toNat * ss ^ (Dg - i.toNat - j.toNat)) := by
    rw [h1, h2, h3, show (zd - i - j).toNat = Dg - i.toNat - j.toNat by omega]
    exact cq_mul (cq_mul (lp_cq _ _) (lp_cq _ _)) (lp_cq _ _)
  have et := tof_at (J1 := J1) hs hi hj
  refine ⟨Sq2_s hj hH ?_, Sq2_s hj hL ?_⟩
  · have := cq_mul (cq_rf y) cm
    rw [sh30 ey, ← et] at this
    exact this
  · have := cq_mul (cq_rf (J1 (49 * sort + 7 * i + j : Int).toNat &&& 1073741823)) cm
    rw [an30, ← et] at this
    exact this
theorem sd_z {J1 : Nat → Int64} {sort i j pp qq ss : Int} {Dg : Nat} {hi_ lo_ : Int64} (hs : 0 ≤ sort) (hi : 0 ≤ i) (hj : 0 ≤ j) (h0 : J1 (49 * sort + 7 * i + j : Int).toNat = 0) (hH : cq hi_ (Sq2 (hiC (ci (tof J1 sort.toNat))) Dg pp qq ss i.toNat j.toNat)) (hL : cq lo_ (Sq2 (loC (ci (tof J1 sort.toNat))) Dg pp qq ss i.toNat j.toNat)) : cq hi_ (Sq2 (hiC (ci (tof J1 sort.toNat))) Dg pp qq ss i.toNat (j + 1).toNat) ∧ cq lo_ (Sq2 (loC (ci (tof J1 sort.toNat))) Dg pp qq ss i.toNat (j + 1).toNat) := by
  have et := tof_at (J1 := J1) hs hi hj
  rw [h0, show (0 : Int64).toInt = 0 from rfl] at et
  have z1 : tm (hiC (ci (tof J1 sort.toNat))) Dg pp qq ss i.toNat j.toNat = 0 := by
    unfold tm hiC
    rw [et]
    exact Int.zero_mul _
  have z2 : tm (loC (ci (tof J1 sort.toNat))) Dg pp qq ss i.toNat j.toNat = 0 := by
    unfold tm loC
    rw [et]
    exact Int.zero_mul _
  have a := Sq2_s (y := 0) hj hH (by rw [z1]; exact cq_rf 0)
  have b := Sq2_s (y := 0) hj hL (by rw [z2]; exact cq_rf 0)
  rw [Int64.add_zero] at a b
  exact ⟨a, b⟩
theorem rs_lin {f g h : Nat → Int} {K : Int} (e : ∀ i, f i = K * g i + h i) : ∀ n, rsum f n = K * rsum g n + rsum h n
  | 0 => by
    show 0 = K * 0 + 0
    omega
  | n + 1 => by
    show rsum f n + f n = K * (rsum g n + g n) + (rsum h n + h n)
    rw [rs_lin e n, e n, Int.mul_add]
    omega
theorem rs_b {g : Nat → Int} {B : Nat} : ∀ n, (∀ i, i < n → (g i).natAbs ≤ B) → (rsum g n).natAbs ≤ n * B
  | 0, _ => Nat.zero_le _
  | n + 1, h => by
    have a := rs_b n (fun i hi => h i (by omega))
    have b := h n (by omega)
    show (rsum g n + g n).natAbs ≤ (n + 1) * B
    rw [Nat.succ_mul]
    omega
theorem V_spl (E : Nat → Int) (D : Nat) (p q s : Int) : Vl E D p q s = 1073741824 * Vl (hiC E) D p q s + Vl (loC E) D p q s := rs_lin (fun a => rs_lin (fun b => by
  unfold tm hiC loC
  try dsimp only
  have := Int.mul_ediv_add_emod (E (7 * a + b)) 1073741824
  generalize p ^ a * q ^ b * s ^ (D - a - b) = M_
  rw [← Int.mul_assoc 1073741824, ← Int.add_mul, this]) 7) 7
theorem p20 {p : Int} (h : p.natAbs ≤ 20) (a : Nat) : (p ^ a).natAbs ≤ 20 ^ a := by
  rw [Int.natAbs_pow]
  exact Nat.pow_le_pow_left h a
theorem V_lo {E : Nat → Int} {D : Nat} {p q s : Int} (hD : D ≤ 6) (su : SUi E D) (hp : p.natAbs ≤ 20) (hq : q.natAbs ≤ 20) (hs : s.natAbs ≤ 20) : (Vl (loC E) D p q s).natAbs ≤ 7 * (7 * (1073741824 * 64000000)) := by
  refine rs_b 7 (fun a ha => rs_b 7 (fun b hb => ?_))
  by_cases h : D < a + b
  · unfold tm loC
    try dsimp only
    rw [su a b ha hb h, Int.zero_emod, Int.zero_mul]
    exact Nat.zero_le _
  · unfold tm loC
    try dsimp only
    rw [Int.natAbs_mul, Int.natAbs_mul, Int.natAbs_mul]
    have h1 := Nat.mul_le_mul (Nat.mul_le_mul (p20 hp a) (p20 hq b)) (p20 hs (D - a - b))
    rw [← Nat.pow_add, ← Nat.pow_add] at h1
    have h2 : 20 ^ (a + b + (D - a - b)) ≤ 20 ^ 6 := Nat.pow_le_pow_right (by decide) (by omega)
    have h3 : (20 : Nat) ^ 6 = 64000000 := by decide
    exact Nat.mul_le_mul (by omega) (by omega)
theorem sd_r {E : Nat → Int} {Dg : Nat} {pp qq ss i z : Int} {hi_ lo_ y : Int64} (hp : (-20 ≤ pp ∧ pp ≤ 20 ∧ -20 ≤ qq ∧ qq ≤ 20 ∧ 1 ≤ ss ∧ ss ≤ 9)) (hD : Dg ≤ 6) (su : SUi E Dg) (hi : i.toNat = 7) (hH : cq hi_ (Sq2 (hiC E) Dg pp qq ss i.toNat 0)) (hL : cq lo_ (Sq2 (loC E) Dg pp qq ss i.toNat 0)) (ey : y = lo_ >>> ((zI 30).toInt64 &&& 63)) (hz : (¬ hi_ + y ≤ 0 ∧ z = 1) ∨ (hi_ + y ≤ 0 ∧ ¬ 0 ≤ hi_ + y ∧ z = -1) ∨ (hi_ + y ≤ 0 ∧ 0 ≤ hi_ + y ∧ ¬ lo_ &&& 1073741823 ≤ 0 ∧ z = 1) ∨ (hi_ + y ≤ 0 ∧ 0 ≤ hi_ + y ∧ lo_ &&& 1073741823 ≤ 0 ∧ z = 0)) (hb : (Vl E Dg pp qq ss).natAbs ≤ 9000000000000000000) : z = sg (Vl E Dg pp qq ss) := by
  have e7 : ∀ C : Nat → Int, Sq2 C Dg pp qq ss i.toNat 0 = Vl C Dg pp qq ss := fun C => by
    rw [hi]
    unfold Sq2 Vl
    exact Int.add_zero _
  rw [e7] at hH hL
  have sp := V_spl E Dg pp qq ss
  have bl_ := V_lo (p := pp) (q := qq) (s := ss) hD su (by omega) (by omega) (by omega)
  have el := cq_small hL (by omega) (by omega)
  have eY := sh30 ey
  have hh := cq_add hH (cq_rf y)
  have eh := cq_small hh (by omega) (by omega)
  have em := an30 lo_
  have z0 : (0 : Int64).toInt = 0 := rfl
  simp only [Int64.le_iff_toInt_le, z0] at hz
  rw [eh, em, el] at hz
  rw [eY, el] at hz
  unfold sg
  generalize Vl E Dg pp qq ss = V at *
  generalize Vl (hiC E) Dg pp qq ss = VH at *
  generalize Vl (loC E) Dg pp qq ss = VL at *
  rcases hz with ⟨a, c⟩ | ⟨a, b, c⟩ | ⟨a, b, d, c⟩ | ⟨a, b, d, c⟩
  · rw [if_neg (by omega), if_pos (by omega), c]
  · rw [if_pos (by omega), c]
  · rw [if_neg (by omega), if_pos (by omega), c]
  · rw [if_neg (by omega), if_neg (by omega), c]
theorem sd_D {F : Nat → Int} {I : Nat → Nat → Int32} {J : Nat → Nat → Int64} {sort z : Int} (hs : sort = 0 ∨ sort = 1) (hht : HT F I J) (hhe : HTe I J) (hhw : HTw F I J) (ez : I 1 sort.toNat = zI z) (b1 : -2147483648 ≤ z) (b2 : z < 2147483648) (hz : ¬ z = 0) : ∃ Dg : Nat, Dg ≤ 6 ∧ I 2 sort.toNat = zI Dg ∧ SUi (ci (tof (J 1) sort.toNat)) Dg := by
  rcases hs with e | e
  · subst e
    obtain ⟨k, D, a1, a2, a3, a4, a5, a6⟩ := hhw.1 ((fo_has hht ez b1 b2).2 hz)
    exact ⟨D, a2, a3, a5⟩
  · subst e
    obtain ⟨k, D, a1, a2, a3, a4, a5, a6⟩ := hhw.2 ((he_has hhe ez b1 b2).2 hz)
    exact ⟨D, a2, a3, a5⟩
theorem zI_n {a b : Nat} (ha : a ≤ 6) (hb : b ≤ 6) {x : Int32} (h1 : x = zI a) (h2 : x = zI b) : a = b := by
  have := (zI_eq (a := (a : Int)) (b := (b : Int)) ⟨by omega, by omega⟩ ⟨by omega, by omega⟩).mp (h1.symm.trans h2)
  omega
theorem zd_ {z : Int} {Dg : Nat} {x : Int32} (h6 : Dg ≤ 6) (hz : 0 ≤ z ∧ z ≤ 12) (e : x = zI z) (h : x = zI (Dg : Int)) : z = (Dg : Int) := (zI_eq ⟨by omega, by omega⟩ ⟨by omega, by omega⟩).mp (e.symm.trans h)
set_option maxHeartbeats 4000000 in
set_option maxRecDepth 100000 in
theorem ct_X7_side_w (l : Launch) (D : va_G) (ce : Nat → ClassId) (h : Nat → Nat) (F : Nat → Int) (I : Nat → Nat → Int32) (J : Nat → Nat → Int64) (sort pp qq ss : Int) (hok : rOK F I) (hbr : bR (I 0)) (hri : RI F (I 0) (J 0)) (hti : TI F I J) (hte : TIe F I J) (htw : TIw F I J) (hs : -2147483648 ≤ sort ∧ sort < 2147483648) (hp : -2147483648 ≤ pp ∧ pp < 2147483648) (hq : -2147483648 ≤ qq ∧ qq < 2147483648) (hss : -2147483648 ≤ ss ∧ ss < 2147483648) : Ct l yX7_side cX7_side 15 (some .int) { frames := 6, cells := 0, slots := 0, locals := 174 } 0 0 D (TY ce) [.ref (h 0), .int (zI sort), .int (zI pp), .int (zI qq), .int (zI ss)] (rW ce h F I J) (QI D (TY ce) (fun r w1 => ∃ z : Int, ∃ F2 : Nat → Int, ∃ I2 : Nat → Nat → Int32, ∃ J2 : Nat → Nat → Int64, r = zI z ∧ w1 = rW ce h F2 I2 J2 ∧ (rOK F2 I2) ∧ (I2 0 = I 0) ∧ (¬ ((sort = 0 ∨ sort = 1) ∧ (-20 ≤ pp ∧ pp ≤ 20 ∧ -20 ≤ qq ∧ qq ≤ 20 ∧ 1 ≤ ss ∧ ss ≤ 9)) → z = -9) ∧ (RI F2 (I2 0) (J2 0)) ∧ (TI F2 I2 J2) ∧ (TIe F2 I2 J2) ∧ (TIw F2 I2 J2) ∧ (((sort = 0 ∨ sort = 1) ∧ (-20 ≤ pp ∧ pp ≤ 20 ∧ -20 ≤ qq ∧ qq ≤ 20 ∧ 1 ≤ ss ∧ ss ≤ 9)) → RSP (I 0) F2 J2 sort (fun _ E D => (Vl E D pp qq ss).natAbs ≤ 9000000000000000000 → z = sg (Vl E D pp qq ss)) (z = -8)))) := by
  refine Ct.ofI (by decide) (Nat.le_of_ble_eq_true rfl) ?_
  intro p e s m args below meth c A Q hX hnm hR
  refine Z.pick (lv' := [(0, .ref (h 0)), (1, .int (zI sort)), (2, .int (zI pp)), (3, .int (zI qq)), (4, .int (zI ss))]) [0, 1, 2, 3, 4] rfl ?_
  refine Z.iload_n hX dX7_side_0 rfl rfl ?_
  refine Z.callS0i (As := [.int (zI sort)]) (rest := []) hX (ct_X7_isSort l D ce sort (by omega)) mc_X7_isSort ml_X7_144 st_X7_isSort ini_X7 nd_X7_isSort ⟨Nat.le_of_ble_eq_true rfl, Nat.le_of_ble_eq_true rfl⟩ ⟨rfl, rfl⟩ ⟨Nat.le_refl _, Nat.le_refl _⟩ rfl (Nat.le_of_ble_eq_true rfl) dX7_side_1 ?_
  rintro r_1 w1 ⟨zp, hr_, hw_, hzp⟩
  subst hr_
  refine ⟨hw_, ?_⟩
  refine Z.if_eq hX 17 dX7_side_4 (by decide) ⟨by omega, by omega⟩ ?_ ?_
  · intro c2
    refine Z.bipush hX dX7_side_17 (by decide) ?_
    exact hR _ _ _ _ dX7_side_19 ⟨(-9), F, I, J, rfl, rfl, hok, rfl, (fun _ => rfl), hri, hti, hte, htw, (fun q => absurd q (by omega))⟩
  · intro c2
    refine Z.iload_n hX dX7_side_7 rfl rfl ?_
    refine Z.iload_n hX dX7_side_8 rfl rfl ?_
    refine Z.iload hX dX7_side_9 rfl ?_
    refine Z.callS0i (As := [.int (zI pp), .int (zI qq), .int (zI ss)]) (rest := []) hX (ct_X7_isPlace l D ce pp qq ss (by omega) (by omega) (by omega)) mc_X7_isPlace ml_X7_148 st_X7_isPlace ini_X7 nd_X7_isPlace ⟨Nat.le_of_ble_eq_true rfl, Nat.le_of_ble_eq_true rfl⟩ ⟨rfl, rfl⟩ ⟨Nat.le_refl _, Nat.le_refl _⟩ rfl (Nat.le_of_ble_eq_true rfl) dX7_side_11 ?_
    rintro r_3 w1 ⟨zq, hr_, hw_, hzq⟩
    subst hr_
    refine ⟨hw_, ?_⟩
    refine Z.if_ne hX 20 dX7_side_14 (by decide) ⟨by omega, by omega⟩ ?_ ?_
    · intro c4
      refine Z.aload_n hX dX7_side_20 rfl rfl ?_
      refine Z.callVfv (As := []) (rest := []) hX 7 0 rfl rfl (ct_X7_work_w l D ce h F I J hok hbr hri hti hte htw) mc_X7_work ml_X7_130 im_X7_work se_X7_work ini_X7 nd_X7_work ⟨Nat.le_of_ble_eq_true rfl, Nat.le_of_ble_eq_true rfl⟩ ⟨rfl, rfl⟩ ⟨Nat.le_refl _, Nat.le_refl _⟩ rfl (Nat.le_of_ble_eq_true rfl) dX7_side_21 ?_
      rintro w1 ⟨Fw, Iw, Jw, hw_, hokw, hfw, hmow, hIw, hdgw, hfqw, hhtw, hhew, hhww⟩
      subst hw_
      have hriw : RI Fw (Iw 0) (Jw 0) := fun _ => by rw [hIw]; exact hfqw
      have htiw : TI Fw Iw Jw := fun _ => hhtw
      have htew : TIe Fw Iw Jw := fun _ => hhew
      have htww : TIw Fw Iw Jw := fun _ => hhww
      refine Z.aload_n hX dX7_side_24 rfl rfl ?_
      refine Z.getf hX 7 0 5 dX7_side_25 rfl rfl inX7 (by decide) fl_X7_17 rfl rfl ?_
      refine Z.iload_n hX dX7_side_28 rfl rfl ?_
      refine Z.zaload hX 3 2 dX7_side_29 rfl rfl (by omega) (by omega) (by decide) ?_
      refine Z.topi (fun z6 hz6 kz6 ez6 => ?_)
      refine Z.if_ne hX 36 dX7_side_30 (by decide) ⟨by omega, by omega⟩ ?_ ?_
      · intro c7
        obtain ⟨Dg, h6_, hD2, hsu⟩ := sd_D (by omega) hhtw hhew hhww ez6 hz6 kz6 (by assumption)
        refine Z.lconst (v := 0) hX dX7_side_36 rfl ?_
        refine Z.lstore (lv' := [(5, .long 0), (0, .ref (h 0)), (1, .int (zI sort)), (2, .int (zI pp)), (3, .int (zI qq)), (4, .int (zI ss))]) hX dX7_side_37 (by decide) rfl ?_
        refine Z.lconst (v := 0) hX dX7_side_39 rfl ?_
        refine Z.lstore (lv' := [(7, .long 0), (5, .long 0), (0, .ref (h 0)), (1, .int (zI sort)), (2, .int (zI pp)), (3, .int (zI qq)), (4, .int (zI ss))]) hX dX7_side_40 (by decide) rfl ?_
        refine Z.iconst hX dX7_side_42 ?_
        refine Z.istore (lv' := [(9, .int (zI 0)), (7, .long 0), (5, .long 0), (0, .ref (h 0)), (1, .int (zI sort)), (2, .int (zI pp)), (3, .int (zI qq)), (4, .int (zI ss))]) hX dX7_side_43 (by decide) rfl ?_
        have key_45 : ∀ (N : Nat), ∀ (i : Int) (hi_ lo_ : Int64), (7 - i).toNat < N → (hi1 : 0 ≤ i ∧ i ≤ 7) → (hH : cq hi_ (Sq2 (hiC (ci (tof (Jw 1) sort.toNat))) Dg pp qq ss (i).toNat (0))) → (hL : cq lo_ (Sq2 (loC (ci (tof (Jw 1) sort.toNat))) Dg pp qq ss (i).toNat (0))) → Z p l e { frames := 6, cells := 0, slots := 0, locals := 174 } s m args below meth c D A 15 0 0 Q 45 [(9, .int (zI i)), (5, .long hi_), (7, .long lo_), (4, .int (zI ss)), (3, .int (zI qq)), (2, .int (zI pp)), (1, .int (zI sort)), (0, .ref (h 0))] [] (rW ce h Fw Iw Jw) := by
          intro N
          induction N with
          | zero => intro i hi_ lo_ hm; exact absurd hm (Nat.not_lt_zero _)
          | succ N ih_45 =>
            intro i hi_ lo_ hm hi1 hH hL
            refine Z.iload hX dX7_side_45 rfl ?_
            refine Z.bipush hX dX7_side_47 (by decide) ?_
            refine Z.icmp_ge hX 164 dX7_side_49 (by decide) ⟨by omega, by omega⟩ ⟨by omega, by omega⟩ ?_ ?_
            · intro c8
              refine Z.lload hX dX7_side_164 rfl ?_
              refine Z.lload hX dX7_side_166 rfl ?_
              refine Z.bipush hX dX7_side_168 (by decide) ?_
              refine Z.lshr hX dX7_side_170 rfl ?_
              refine Z.topl (fun y9 ey9 => ?_)
              refine Z.ladd hX dX7_side_171 ?_
              refine Z.lstore (lv' := [(5, .long (hi_ + y9)), (9, .int (zI i)), (7, .long lo_), (4, .int (zI ss)), (3, .int (zI qq)), (2, .int (zI pp)), (1, .int (zI sort)), (0, .ref (h 0))]) hX dX7_side_172 (by decide) rfl ?_
              refine Z.lload hX dX7_side_174 rfl ?_
              refine Z.ldc2 hX dX7_side_176 co_X7_152 ?_
              refine Z.land hX dX7_side_179 ?_
              refine Z.lstore (lv' := [(7, .long (lo_ &&& 1073741823)), (5, .long (hi_ + y9)), (9, .int (zI i)), (4, .int (zI ss)), (3, .int (zI qq)), (2, .int (zI pp)), (1, .int (zI sort)), (0, .ref (h 0))]) hX dX7_side_180 (by decide) rfl ?_
              refine Z.lload hX dX7_side_182 rfl ?_
              refine Z.lconst (v := 0) hX dX7_side_184 rfl ?_
              refine Z.lcmp_le hX 193 dX7_side_185 dX7_side_186 (by decide) ?_ ?_
              · intro c10
                refine Z.lload hX dX7_side_193 rfl ?_
                refine Z.lconst (v := 0) hX dX7_side_195 rfl ?_
                refine Z.lcmp_ge hX 204 dX7_side_196 dX7_side_197 (by decide) ?_ ?_
                · intro c11
                  refine Z.lload hX dX7_side_204 rfl ?_
                  refine Z.lconst (v := 0) hX dX7_side_206 rfl ?_
                  refine Z.lcmp_le hX 215 dX7_side_207 dX7_side_208 (by decide) ?_ ?_
                  · intro c12
                    refine Z.iconst hX dX7_side_215 ?_
                    exact hR _ _ _ _ dX7_side_216 ⟨0, Fw, Iw, Jw, rfl, rfl, hokw, hIw, (fun q => absurd (by omega) q), hriw, htiw, htew, htww, (fun hq_ => rs_y (by omega) hIw hfqw hhtw hhew hhww ez6 hz6 kz6 (by first | assumption | omega) (fun k_ D_ k6 D6 e2 e3 su_ hb_ => by rw [zI_n D6 h6_ e2 hD2] at hb_ ⊢; exact sd_r (by omega) h6_ hsu (by omega) hH hL ey9 (by first | exact Or.inl ⟨by assumption, rfl⟩ | exact Or.inr (Or.inl ⟨by assumption, by assumption, rfl⟩) | exact Or.inr (Or.inr (Or.inl ⟨by assumption, by assumption, by assumption, rfl⟩)) | exact Or.inr (Or.inr (Or.inr ⟨by assumption, by assumption, by assumption, rfl⟩))) hb_))⟩
                  · intro c12
                    refine Z.iconst hX dX7_side_211 ?_
                    refine Z.goto hX 216 dX7_side_212 (by decide) ?_
                    exact hR _ _ _ _ dX7_side_216 ⟨1, Fw, Iw, Jw, rfl, rfl, hokw, hIw, (fun q => absurd (by omega) q), hriw, htiw, htew, htww, (fun hq_ => rs_y (by omega) hIw hfqw hhtw hhew hhww ez6 hz6 kz6 (by first | assumption | omega) (fun k_ D_ k6 D6 e2 e3 su_ hb_ => by rw [zI_n D6 h6_ e2 hD2] at hb_ ⊢; exact sd_r (by omega) h6_ hsu (by omega) hH hL ey9 (by first | exact Or.inl ⟨by assumption, rfl⟩ | exact Or.inr (Or.inl ⟨by assumption, by assumption, rfl⟩) | exact Or.inr (Or.inr (Or.inl ⟨by assumption, by assumption, by assumption, rfl⟩)) | exact Or.inr (Or.inr (Or.inr ⟨by assumption, by assumption, by assumption, rfl⟩))) hb_))⟩
                · intro c11
                  refine Z.iconst hX dX7_side_200 ?_
                  refine Z.goto hX 216 dX7_side_201 (by decide) ?_
                  exact hR _ _ _ _ dX7_side_216 ⟨(-1), Fw, Iw, Jw, rfl, rfl, hokw, hIw, (fun q => absurd (by omega) q), hriw, htiw, htew, htww, (fun hq_ => rs_y (by omega) hIw hfqw hhtw hhew hhww ez6 hz6 kz6 (by first | assumption | omega) (fun k_ D_ k6 D6 e2 e3 su_ hb_ => by rw [zI_n D6 h6_ e2 hD2] at hb_ ⊢; exact sd_r (by omega) h6_ hsu (by omega) hH hL ey9 (by first | exact Or.inl ⟨by assumption, rfl⟩ | exact Or.inr (Or.inl ⟨by assumption, by assumption, rfl⟩) | exact Or.inr (Or.inr (Or.inl ⟨by assumption, by assumption, by assumption, rfl⟩)) | exact Or.inr (Or.inr (Or.inr ⟨by assumption, by assumption, by assumption, rfl⟩))) hb_))⟩
              · intro c10
                refine Z.iconst hX dX7_side_189 ?_
                refine Z.goto hX 216 dX7_side_190 (by decide) ?_
                exact hR _ _ _ _ dX7_side_216 ⟨1, Fw, Iw, Jw, rfl, rfl, hokw, hIw, (fun q => absurd (by omega) q), hriw, htiw, htew, htww, (fun hq_ => rs_y (by omega) hIw hfqw hhtw hhew hhww ez6 hz6 kz6 (by first | assumption | omega) (fun k_ D_ k6 D6 e2 e3 su_ hb_ => by rw [zI_n D6 h6_ e2 hD2] at hb_ ⊢; exact sd_r (by omega) h6_ hsu (by omega) hH hL ey9 (by first | exact Or.inl ⟨by assumption, rfl⟩ | exact Or.inr (Or.inl ⟨by assumption, by assumption, rfl⟩) | exact Or.inr (Or.inr (Or.inl ⟨by assumption, by assumption, by assumption, rfl⟩)) | exact Or.inr (Or.inr (Or.inr ⟨by assumption, by assumption, by assumption, rfl⟩))) hb_))⟩
            · intro c8
              refine Z.iconst hX dX7_side_52 ?_
              refine Z.istore (lv' := [(10, .int (zI 0)), (9, .int (zI i)), (5, .long hi_), (7, .long lo_), (4, .int (zI ss)), (3, .int (zI qq)), (2, .int (zI pp)), (1, .int (zI sort)), (0, .ref (h 0))]) hX dX7_side_53 (by decide) rfl ?_
              have key_55 : ∀ (N : Nat), ∀ (j : Int) (hi_ lo_ : Int64), (7 - j).toNat < N → (hj1 : 0 ≤ j ∧ j ≤ 7) → (hH2 : cq hi_ (Sq2 (hiC (ci (tof (Jw 1) sort.toNat))) Dg pp qq ss (i).toNat (j.toNat))) → (hL2 : cq lo_ (Sq2 (loC (ci (tof (Jw 1) sort.toNat))) Dg pp qq ss (i).toNat (j.toNat))) → Z p l e { frames := 6, cells := 0, slots := 0, locals := 174 } s m args below meth c D A 15 0 0 Q 55 [(10, .int (zI j)), (9, .int (zI i)), (5, .long hi_), (7, .long lo_), (4, .int (zI ss)), (3, .int (zI qq)), (2, .int (zI pp)), (1, .int (zI sort)), (0, .ref (h 0))] [] (rW ce h Fw Iw Jw) := by
                intro N
                induction N with
                | zero => intro j hi_ lo_ hm; exact absurd hm (Nat.not_lt_zero _)
                | succ N ih_55 =>
                  intro j hi_ lo_ hm hj1 hH2 hL2
                  refine Z.iload hX dX7_side_55 rfl ?_
                  refine Z.bipush hX dX7_side_57 (by decide) ?_
                  refine Z.icmp_ge hX 158 dX7_side_59 (by decide) ⟨by omega, by omega⟩ ⟨by omega, by omega⟩ ?_ ?_
                  · intro c13
                    refine Z.iinc (lv' := [(9, .int (zI (i + 1))), (10, .int (zI j)), (5, .long hi_), (7, .long lo_), (4, .int (zI ss)), (3, .int (zI qq)), (2, .int (zI pp)), (1, .int (zI sort)), (0, .ref (h 0))]) hX dX7_side_158 rfl (by decide) rfl ?_
                    refine Z.goto hX 45 dX7_side_161 (by decide) ?_
                    refine Z.pick [0, 2, 3, 4, 5, 6, 7, 8] rfl ?_
                    exact ih_45 _ _ _ (by omega) (by omega) (by rw [← Sq2_n (j := j) (by omega) (by omega)]; exact hH2) (by rw [← Sq2_n (j := j) (by omega) (by omega)]; exact hL2)
                  · intro c13
                    refine Z.aload_n hX dX7_side_62 rfl rfl ?_
                    refine Z.getf hX 7 0 6 dX7_side_63 rfl rfl inX7 (by decide) fl_X7_21 rfl rfl ?_
                    refine Z.bipush hX dX7_side_66 (by decide) ?_
                    refine Z.iload_n hX dX7_side_68 rfl rfl ?_
                    refine Z.imul hX dX7_side_69 ?_
                    refine Z.bipush hX dX7_side_70 (by decide) ?_
                    refine Z.iload hX dX7_side_72 rfl ?_
                    refine Z.imul hX dX7_side_74 ?_
                    refine Z.iadd hX dX7_side_75 ?_
                    refine Z.iload hX dX7_side_76 rfl ?_
                    refine Z.iadd hX dX7_side_78 ?_
                    refine Z.laload hX 4 1 dX7_side_79 rfl rfl (by omega) (by omega) (by decide) ?_
                    refine Z.lstore (lv' := [(11, .long (Jw 1 (((49 * sort) + (7 * i)) + j : Int).toNat)), (10, .int (zI j)), (9, .int (zI i)), (5, .long hi_), (7, .long lo_), (4, .int (zI ss)), (3, .int (zI qq)), (2, .int (zI pp)), (1, .int (zI sort)), (0, .ref (h 0))]) hX dX7_side_80 (by decide) rfl ?_
                    refine Z.lload hX dX7_side_82 rfl ?_
                    refine Z.lconst (v := 0) hX dX7_side_84 rfl ?_
                    refine Z.lcmp_eq hX 152 dX7_side_85 dX7_side_86 (by decide) ?_ ?_
                    · intro c14
                      refine Z.iinc (lv' := [(10, .int (zI (j + 1))), (11, .long (Jw 1 (((49 * sort) + (7 * i)) + j : Int).toNat)), (9, .int (zI i)), (5, .long hi_), (7, .long lo_), (4, .int (zI ss)), (3, .int (zI qq)), (2, .int (zI pp)), (1, .int (zI sort)), (0, .ref (h 0))]) hX dX7_side_152 rfl (by decide) rfl ?_
                      refine Z.goto hX 55 dX7_side_155 (by decide) ?_
                      refine Z.pick [0, 2, 3, 4, 5, 6, 7, 8, 9] rfl ?_
                      exact ih_55 _ _ _ (by omega) (by omega) (sd_z (by omega) (by omega) (by omega) (by assumption) hH2 hL2).1 (sd_z (by omega) (by omega) (by omega) (by assumption) hH2 hL2).2
                    · intro c14
                      refine Z.iload_n hX dX7_side_89 rfl rfl ?_
                      refine Z.i2l hX dX7_side_90 ⟨by omega, by omega⟩ ?_
                      refine Z.iload hX dX7_side_91 rfl ?_
                      refine Z.callS0l (As := [.long (zL pp), .int (zI i)]) (rest := []) hX (ct_X7_raised l D ce (zL pp) i (by omega)) mc_X7_raised ml_X7_134 st_X7_raised ini_X7 nd_X7_raised ⟨Nat.le_of_ble_eq_true rfl, Nat.le_of_ble_eq_true rfl⟩ ⟨rfl, rfl⟩ ⟨Nat.le_refl _, Nat.le_refl _⟩ rfl (Nat.le_of_ble_eq_true rfl) dX7_side_93 ?_
                      rintro ra w1 ⟨r016, hr_, hw_, hra⟩
                      subst hr_
                      refine ⟨hw_, ?_⟩
                      refine Z.iload_n hX dX7_side_96 rfl rfl ?_
                      refine Z.i2l hX dX7_side_97 ⟨by omega, by omega⟩ ?_
                      refine Z.iload hX dX7_side_98 rfl ?_
                      refine Z.callS0l (As := [.long (zL qq), .int (zI j)]) (rest := [.long ra]) hX (ct_X7_raised l D ce (zL qq) j (by omega)) mc_X7_raised ml_X7_134 st_X7_raised ini_X7 nd_X7_raised ⟨Nat.le_of_ble_eq_true rfl, Nat.le_of_ble_eq_true rfl⟩ ⟨rfl, rfl⟩ ⟨Nat.le_refl _, Nat.le_refl _⟩ rfl (Nat.le_of_ble_eq_true rfl) dX7_side_100 ?_
                      rintro rb w1 ⟨r018, hr_, hw_, hrb⟩
                      subst hr_
                      refine ⟨hw_, ?_⟩
                      refine Z.lmul hX dX7_side_103 ?_
                      refine Z.iload hX dX7_side_104 rfl ?_
                      refine Z.i2l hX dX7_side_106 ⟨by omega, by omega⟩ ?_
                      refine Z.aload_n hX dX7_side_107 rfl rfl ?_
                      refine Z.getf hX 7 0 7 dX7_side_108 rfl rfl inX7 (by decide) fl_X7_24 rfl rfl ?_
                      refine Z.iload_n hX dX7_side_111 rfl rfl ?_
                      refine Z.iaload hX 5 0 dX7_side_112 rfl rfl (by omega) (by omega) (by decide) ?_
                      refine Z.topi (fun z19 hz19 kz19 ez19 => ?_)
                      have hdz := DG_z hdgw (by omega) ez19 hz19 kz19
                      refine Z.iload hX dX7_side_113 rfl ?_
                      refine Z.isub hX dX7_side_115 ?_
                      refine Z.iload hX dX7_side_116 rfl ?_
                      refine Z.isub hX dX7_side_118 ?_
                      refine Z.callS0l (As := [.long (zL ss), .int (zI ((z19 - i) - j))]) (rest := [.long (ra * rb)]) hX (ct_X7_raised l D ce (zL ss) ((z19 - i) - j) (by omega)) mc_X7_raised ml_X7_134 st_X7_raised ini_X7 nd_X7_raised ⟨Nat.le_of_ble_eq_true rfl, Nat.le_of_ble_eq_true rfl⟩ ⟨rfl, rfl⟩ ⟨Nat.le_refl _, Nat.le_refl _⟩ rfl (Nat.le_of_ble_eq_true rfl) dX7_side_119 ?_
                      rintro rc w1 ⟨r021, hr_, hw_, hrc⟩
                      subst hr_
                      refine ⟨hw_, ?_⟩
                      refine Z.lmul hX dX7_side_122 ?_
                      refine Z.lstore (lv' := [(13, .long ((ra * rb) * rc)), (11, .long (Jw 1 (((49 * sort) + (7 * i)) + j : Int).toNat)), (10, .int (zI j)), (9, .int (zI i)), (5, .long hi_), (7, .long lo_), (4, .int (zI ss)), (3, .int (zI qq)), (2, .int (zI pp)), (1, .int (zI sort)), (0, .ref (h 0))]) hX dX7_side_123 (by decide) rfl ?_
                      refine Z.lload hX dX7_side_125 rfl ?_
                      refine Z.lload hX dX7_side_127 rfl ?_
                      refine Z.bipush hX dX7_side_129 (by decide) ?_
                      refine Z.lshr hX dX7_side_131 rfl ?_
                      refine Z.topl (fun y22 ey22 => ?_)
                      refine Z.lload hX dX7_side_132 rfl ?_
                      refine Z.lmul hX dX7_side_134 ?_
                      refine Z.ladd hX dX7_side_135 ?_
                      refine Z.lstore (lv' := [(5, .long (hi_ + (y22 * ((ra * rb) * rc)))), (13, .long ((ra * rb) * rc)), (11, .long (Jw 1 (((49 * sort) + (7 * i)) + j : Int).toNat)), (10, .int (zI j)), (9, .int (zI i)), (7, .long lo_), (4, .int (zI ss)), (3, .int (zI qq)), (2, .int (zI pp)), (1, .int (zI sort)), (0, .ref (h 0))]) hX dX7_side_136 (by decide) rfl ?_
                      refine Z.lload hX dX7_side_138 rfl ?_
                      refine Z.lload hX dX7_side_140 rfl ?_
                      refine Z.ldc2 hX dX7_side_142 co_X7_152 ?_
                      refine Z.land hX dX7_side_145 ?_
                      refine Z.lload hX dX7_side_146 rfl ?_
                      refine Z.lmul hX dX7_side_148 ?_
                      refine Z.ladd hX dX7_side_149 ?_
                      refine Z.lstore (lv' := [(7, .long (lo_ + (((Jw 1 (((49 * sort) + (7 * i)) + j : Int).toNat) &&& 1073741823) * ((ra * rb) * rc)))), (5, .long (hi_ + (y22 * ((ra * rb) * rc)))), (13, .long ((ra * rb) * rc)), (11, .long (Jw 1 (((49 * sort) + (7 * i)) + j : Int).toNat)), (10, .int (zI j)), (9, .int (zI i)), (4, .int (zI ss)), (3, .int (zI qq)), (2, .int (zI pp)), (1, .int (zI sort)), (0, .ref (h 0))]) hX dX7_side_150 (by decide) rfl ?_
                      refine Z.iinc (lv' := [(10, .int (zI (j + 1))), (7, .long (lo_ + (((Jw 1 (((49 * sort) + (7 * i)) + j : Int).toNat) &&& 1073741823) * ((ra * rb) * rc)))), (5, .long (hi_ + (y22 * ((ra * rb) * rc)))), (13, .long ((ra * rb) * rc)), (11, .long (Jw 1 (((49 * sort) + (7 * i)) + j : Int).toNat)), (9, .int (zI i)), (4, .int (zI ss)), (3, .int (zI qq)), (2, .int (zI pp)), (1, .int (zI sort)), (0, .ref (h 0))]) hX dX7_side_152 rfl (by decide) rfl ?_
                      refine Z.goto hX 55 dX7_side_155 (by decide) ?_
                      refine Z.pick [0, 5, 2, 1, 6, 7, 8, 9, 10] rfl ?_
                      exact ih_55 _ _ _ (by omega) (by omega) (sd_s (by omega) (by omega) (by omega) hra hrb hrc (zd_ h6_ hdz ez19 hD2) ey22 hH2 hL2).1 (sd_s (by omega) (by omega) (by omega) hra hrb hrc (zd_ h6_ hdz ez19 hD2) ey22 hH2 hL2).2
              refine Z.pick [0, 1, 2, 3, 4, 5, 6, 7, 8] rfl ?_
              exact key_55 _ _ _ _ (Nat.lt_succ_self _) (by omega) hH hL
        refine Z.pick [0, 2, 1, 7, 6, 5, 4, 3] rfl ?_
        exact key_45 _ _ _ _ (Nat.lt_succ_self _) (by omega) (cq_rf 0) (cq_rf 0)
      · intro c7
        refine Z.bipush hX dX7_side_33 (by decide) ?_
        exact hR _ _ _ _ dX7_side_35 ⟨(-8), Fw, Iw, Jw, rfl, rfl, hokw, hIw, (fun q => absurd (by omega) q), hriw, htiw, htew, htww, (fun hq_ => rs_n (by omega) hIw hfqw hhtw hhew ez6 hz6 kz6 (by first | assumption | omega) rfl)⟩
    · intro c4
      refine Z.bipush hX dX7_side_17 (by decide) ?_
      exact hR _ _ _ _ dX7_side_19 ⟨(-9), F, I, J, rfl, rfl, hok, rfl, (fun _ => rfl), hri, hti, hte, htw, (fun q => absurd q (by omega))⟩

