/-! side: the class -/
def SV (E : Nat → Int) (D : Nat) (p q s : Int) (d j : Nat) : Int := rsum (fun d_ => rsum (fun j_ => tm E D p q s (d_ - j_) j_) (d_ + 1)) d + rsum (fun j_ => tm E D p q s (d - j_) j_) j
theorem sv_n {E : Nat → Int} {D : Nat} {p q s : Int} {d j : Int} (hd : 0 ≤ d) (hj : j = d + 1) : SV E D p q s d.toNat j.toNat = SV E D p q s (d + 1).toNat 0 := by
  rw [hj, show (d + 1).toNat = d.toNat + 1 by omega]
  unfold SV
  show _ = rsum _ d.toNat + rsum (fun j_ => tm E D p q s (d.toNat - j_) j_) (d.toNat + 1) + 0
  omega
theorem cq_lp (x : Int64) (n : Nat) : cq (lpow x n) (x.toInt ^ n) := by
  have e := lpow_z x.toInt n
  rw [zL_self] at e
  rw [e]
  exact cq_zL _
theorem sv_s {f : Nat → Int64} {b d j so : Int} {x1 x2 x3 x mu ra rb sc : Int64} (hb : 0 ≤ b ∧ b ≤ 6) (hd : 0 ≤ d ∧ d ≤ b) (hj : 0 ≤ j ∧ j ≤ d) (es : so = sl d + j) (em : mu = f so.toNat) (h1 : ra = lpow x1 (d - j).toNat) (h2 : rb = lpow x2 j.toNat) (h3 : sc = lpow x3 (b - d).toNat) (hx : cq x (SV (ci (pcl f)) b.toNat x1.toInt x2.toInt x3.toInt d.toNat j.toNat)) : cq (x + mu * ra * rb * sc) (SV (ci (pcl f)) b.toNat x1.toInt x2.toInt x3.toInt d.toNat (j + 1).toNat) := by
  have e : SV (ci (pcl f)) b.toNat x1.toInt x2.toInt x3.toInt d.toNat (j + 1).toNat = SV (ci (pcl f)) b.toNat x1.toInt x2.toInt x3.toInt d.toNat j.toNat + mu.toInt * x1.toInt ^ (d - j).toNat * x2.toInt ^ j.toNat * x3.toInt ^ (b - d).toNat := by
    rw [show (j + 1).toNat = j.toNat + 1 by omega]
    unfold SV
    show _ + (rsum (fun j_ => tm (ci (pcl f)) b.toNat x1.toInt x2.toInt x3.toInt (d.toNat - j_) j_) j.toNat + tm (ci (pcl f)) b.toNat x1.toInt x2.toInt x3.toInt (d.toNat - j.toNat) j.toNat) = _
    have t : tm (ci (pcl f)) b.toNat x1.toInt x2.toInt x3.toInt (d.toNat - j.toNat) j.toNat = mu.toInt * x1.toInt ^ (d - j).toNat * x2.toInt ^ j.toNat * x3.toInt ^ (b - d).toNat := by
      unfold tm
      have c := pcl_d f (d := d) (j := j) (by omega) hj
      rw [← es, ← em] at c
      rw [show d.toNat - j.toNat = (d - j).toNat by omega, show b.toNat - (d - j).toNat - j.toNat = (b - d).toNat by omega]
      unfold ci
      rw [c, Int.mul_assoc, Int.mul_assoc, Int.mul_assoc]
    rw [t]
    omega
  rw [e, h1, h2, h3]
  exact cq_add hx (cq_mul (cq_mul (cq_mul (cq_rf mu) (cq_lp x1 _)) (cq_lp x2 _)) (cq_lp x3 _))
theorem sv_z {f : Nat → Int64} {b d j so : Int} {x1 x2 x3 x : Int64} (hb : 0 ≤ b ∧ b ≤ 6) (hd : 0 ≤ d ∧ d ≤ b) (hj : 0 ≤ j ∧ j ≤ d) (es : so = sl d + j) (em : f so.toNat = 0) (hx : cq x (SV (ci (pcl f)) b.toNat x1.toInt x2.toInt x3.toInt d.toNat j.toNat)) : cq x (SV (ci (pcl f)) b.toNat x1.toInt x2.toInt x3.toInt d.toNat (j + 1).toNat) := by
  have := sv_s (mu := 0) hb hd hj es em.symm rfl rfl rfl hx
  rw [Int64.zero_mul, Int64.zero_mul, Int64.zero_mul, Int64.add_zero] at this
  exact this
theorem rs_end {g : Nat → Int} {m : Nat} : ∀ n, m ≤ n → (∀ i, m ≤ i → i < n → g i = 0) → rsum g n = rsum g m
  | 0, h, _ => by rw [show m = 0 by omega]
  | n + 1, h, z => by
    by_cases q : m = n + 1
    · rw [q]
    · show rsum g n + g n = _
      rw [z n (by omega) (by omega), rs_end n (by omega) (fun i a b => z i a (by omega)), Int.add_zero]
theorem rs_0 {g : Nat → Int} : ∀ n, (∀ i, i < n → g i = 0) → rsum g n = 0
  | 0, _ => rfl
  | n + 1, z => by
    show rsum g n + g n = 0
    rw [z n (by omega), rs_0 n (fun i a => z i (by omega))]
    rfl
theorem sv_e {E : Nat → Int} {D : Nat} {p q s : Int} {d : Int} (hD : D ≤ 6) (su : SUi E D) (hd : d.toNat = D + 1) : SV E D p q s d.toNat 0 = Vc E D p q s := by
  rw [hd]
  unfold SV Vc
  show _ + 0 = _
  rw [Int.add_zero]
  refine (rs_end 7 (by omega) (fun i a b => rs_0 (i + 1) (fun j hj => tm_0 su p q s (by omega) (by omega) (by omega)))).symm
def sg (v : Int) : Int := if v < 0 then -1 else if 0 < v then 1 else 0
theorem su_l {G B : Nat → Int} {L J : Nat → Nat → Int64} (h : LIw G L B J) (h2 : G 2 = 1) (h3 : ¬ G 3 = 0) : SUi (ci (pcl (J 40))) (B 40).toNat := by
  obtain ⟨n, hp, hr, b1, b2, su, vb⟩ := h h2 h3
  exact su
theorem su_e {G B : Nat → Int} {L J : Nat → Nat → Int64} (h : LIx G L B J) (h2 : G 5 = 1) (h3 : ¬ G 6 = 0) : SUi (ci (pcl (J 41))) (B 41).toNat := by
  obtain ⟨n, hp, hr, b1, b2, su, vb⟩ := h h2 h3
  exact su
theorem sd_a {E : Nat → Int} {D : Nat} {p q s z : Int} {r : Int64} (hp : (-20 ≤ p ∧ p ≤ 20 ∧ -20 ≤ q ∧ q ≤ 20 ∧ 1 ≤ s ∧ s ≤ 9)) (h : cq r (Vc E D (zL p).toInt (zL q).toInt (zL s).toInt)) (hD : D ≤ 6) (su : SUi E D) (vb : VBD E D) (hz : (¬ (0 : Int64) ≤ r ∧ z = -1) ∨ ((0 : Int64) ≤ r ∧ ¬ r ≤ 0 ∧ z = 1) ∨ ((0 : Int64) ≤ r ∧ r ≤ 0 ∧ z = 0)) : z = sg (Vl E D p q s) ∧ (Vl E D p q s).natAbs ≤ 9000000000000000000 := by
  rw [zL_toInt (by omega) (by omega), zL_toInt (by omega) (by omega), zL_toInt (by omega) (by omega), Vc_Vl hD su] at h
  have b := vb p q s (by unfold PLc; omega)
  refine ⟨?_, b⟩
  have e := cq_small h (by omega) (by omega)
  rw [← e]
  have z0 : (0 : Int64).toInt = 0 := rfl
  unfold sg
  simp only [Int64.le_iff_toInt_le, z0] at hz
  rcases hz with ⟨a, c⟩ | ⟨a, a2, c⟩ | ⟨a, a2, c⟩
  · rw [if_pos (by omega), c]
  · rw [if_neg (by omega), if_pos (by omega), c]
  · rw [if_neg (by omega), if_neg (by omega), c]
set_option maxHeartbeats 4000000 in
set_option maxRecDepth 100000 in
theorem ct_X3_scaledValue_w (l : Launch) (D : va_G) (ce : Nat → ClassId) (h pl ar : Nat → Nat) (G : Nat → Int) (L : Nat → Nat → Int64) (B : Nat → Int) (J : Nat → Nat → Int64) (k : Nat) (x1 x2 x3 : Int64) (hk : k < 42) (hB : BOK B) (hz : SUi (ci (pcl (J k))) (B k).toNat) : Ct l yX3_scaledValue cX3_scaledValue 15 (some .long) { frames := 1, cells := 0, slots := 0, locals := 25 } 0 0 D (TY ce) [.ref (pl k), .long x1, .long x2, .long x3] (cW ce h pl ar G L B J) (QL D (TY ce) (fun r w1 => ∃ r0 : Int64, r = r0 ∧ w1 = cW ce h pl ar G L B J ∧ (cq r0 (Vc (ci (pcl (J k))) (B k).toNat x1.toInt x2.toInt x3.toInt)))) := by
  refine Ct.ofL (by decide) (Nat.le_of_ble_eq_true rfl) ?_
  intro p e s m args below meth c A Q hX hnm hR
  refine Z.pick (lv' := [(0, .ref (pl k)), (1, .long x1), (3, .long x2), (5, .long x3)]) [0, 1, 2, 3] rfl ?_
  have hbk := hB k hk
  refine Z.lconst (v := 0) hX dX3_scaledValue_0 rfl ?_
  refine Z.lstore (lv' := [(7, .long 0), (0, .ref (pl k)), (1, .long x1), (3, .long x2), (5, .long x3)]) hX dX3_scaledValue_1 (by decide) rfl ?_
  refine Z.iconst hX dX3_scaledValue_3 ?_
  refine Z.istore (lv' := [(9, .int (zI 0)), (7, .long 0), (0, .ref (pl k)), (1, .long x1), (3, .long x2), (5, .long x3)]) hX dX3_scaledValue_4 (by decide) rfl ?_
  have key_6 : ∀ (N : Nat), ∀ (d : Int) (x : Int64), (B k + 1 - d).toNat < N → (hd : 0 ≤ d ∧ d ≤ B k + 1) → (hx : cq x (SV (ci (pcl (J k))) (B k).toNat x1.toInt x2.toInt x3.toInt (d).toNat (0))) → Z p l e { frames := 1, cells := 0, slots := 0, locals := 25 } s m args below meth c D A 15 0 0 Q 6 [(9, .int (zI d)), (7, .long x), (1, .long x1), (3, .long x2), (5, .long x3), (0, .ref (pl k))] [] (cW ce h pl ar G L B J) := by
    intro N
    induction N with
    | zero => intro d x hm; exact absurd hm (Nat.not_lt_zero _)
    | succ N ih_6 =>
      intro d x hm hd hx
      refine Z.iload hX dX3_scaledValue_6 rfl ?_
      refine Z.aload_n hX dX3_scaledValue_8 rfl rfl ?_
      refine Z.getf hX 3 (24 + k) 1 dX3_scaledValue_9 (cW_pl (by omega)) rfl inX3 (by decide) fl_X3_15 rfl rfl ?_
      refine Z.icmp_gt hX 99 dX3_scaledValue_12 (by decide) ⟨by omega, by omega⟩ ⟨by omega, by omega⟩ ?_ ?_
      · intro c1
        refine Z.lload hX dX3_scaledValue_99 rfl ?_
        exact hR _ _ _ _ dX3_scaledValue_101 ⟨x, rfl, rfl, (by rw [← sv_e (d := d) (by omega) hz (by omega)]; exact hx)⟩
      · intro c1
        refine Z.lload hX dX3_scaledValue_15 rfl ?_
        refine Z.aload_n hX dX3_scaledValue_17 rfl rfl ?_
        refine Z.getf hX 3 (24 + k) 1 dX3_scaledValue_18 (cW_pl (by omega)) rfl inX3 (by decide) fl_X3_15 rfl rfl ?_
        refine Z.iload hX dX3_scaledValue_21 rfl ?_
        refine Z.isub hX dX3_scaledValue_23 ?_
        refine Z.callSNl (As := [.long x3, .int (zI ((B k) - d))]) (rest := []) hX (ct_X6_powerOf l D ce x3 ((B k) - d) (by omega)) mc_X6_powerOf ns_X3_55 st_X6_powerOf ini_X6 nd_X6_powerOf ⟨Nat.le_of_ble_eq_true rfl, Nat.le_of_ble_eq_true rfl⟩ ⟨rfl, rfl⟩ ⟨Nat.le_refl _, Nat.le_refl _⟩ rfl (Nat.le_of_ble_eq_true rfl) dX3_scaledValue_24 ?_
        rintro sc w1 ⟨r03, hr_, hw_, hsc⟩
        subst hr_
        refine ⟨hw_, ?_⟩
        refine Z.lstore (lv' := [(10, .long sc), (9, .int (zI d)), (7, .long x), (1, .long x1), (3, .long x2), (5, .long x3), (0, .ref (pl k))]) hX dX3_scaledValue_27 (by decide) rfl ?_
        refine Z.iconst hX dX3_scaledValue_29 ?_
        refine Z.istore (lv' := [(12, .int (zI 0)), (10, .long sc), (9, .int (zI d)), (7, .long x), (1, .long x1), (3, .long x2), (5, .long x3), (0, .ref (pl k))]) hX dX3_scaledValue_30 (by decide) rfl ?_
        have key_32 : ∀ (N : Nat), ∀ (j : Int) (x : Int64), (d + 1 - j).toNat < N → (hj : 0 ≤ j ∧ j ≤ d + 1) → (hx2 : cq x (SV (ci (pcl (J k))) (B k).toNat x1.toInt x2.toInt x3.toInt (d).toNat (j.toNat))) → Z p l e { frames := 1, cells := 0, slots := 0, locals := 25 } s m args below meth c D A 15 0 0 Q 32 [(12, .int (zI j)), (10, .long sc), (9, .int (zI d)), (7, .long x), (1, .long x1), (3, .long x2), (5, .long x3), (0, .ref (pl k))] [] (cW ce h pl ar G L B J) := by
          intro N
          induction N with
          | zero => intro j x hm; exact absurd hm (Nat.not_lt_zero _)
          | succ N ih_32 =>
            intro j x hm hj hx2
            refine Z.iload hX dX3_scaledValue_32 rfl ?_
            refine Z.iload hX dX3_scaledValue_34 rfl ?_
            refine Z.icmp_gt hX 93 dX3_scaledValue_36 (by decide) ⟨by omega, by omega⟩ ⟨by omega, by omega⟩ ?_ ?_
            · intro c4
              refine Z.iinc (lv' := [(9, .int (zI (d + 1))), (12, .int (zI j)), (10, .long sc), (7, .long x), (1, .long x1), (3, .long x2), (5, .long x3), (0, .ref (pl k))]) hX dX3_scaledValue_93 rfl (by decide) rfl ?_
              refine Z.goto hX 6 dX3_scaledValue_96 (by decide) ?_
              refine Z.pick [0, 3, 4, 5, 6, 7] rfl ?_
              exact ih_6 _ _ (by omega) (by omega) (by rw [← sv_n (j := j) (by omega) (by omega)]; exact hx2)
            · intro c4
              refine Z.aload_n hX dX3_scaledValue_39 rfl rfl ?_
              refine Z.getf hX 3 (24 + k) 0 dX3_scaledValue_40 (cW_pl (by omega)) rfl inX3 (by decide) fl_X3_9 rfl rfl ?_
              refine Z.iload hX dX3_scaledValue_43 rfl ?_
              refine Z.iload hX dX3_scaledValue_45 rfl ?_
              refine Z.callSNi (As := [.int (zI d), .int (zI j)]) (rest := [.ref (ar k)]) hX (ct_X6_slotOf l D ce d j (by omega) (by omega)) mc_X6_slotOf ns_X3_28 st_X6_slotOf ini_X6 nd_X6_slotOf ⟨Nat.le_of_ble_eq_true rfl, Nat.le_of_ble_eq_true rfl⟩ ⟨rfl, rfl⟩ ⟨Nat.le_refl _, Nat.le_refl _⟩ rfl (Nat.le_of_ble_eq_true rfl) dX3_scaledValue_47 ?_
              rintro r_5 w1 ⟨so, hr_, hw_, eso, hso⟩
              subst hr_
              refine ⟨hw_, ?_⟩
              refine Z.laload hX (66 + k) 1 dX3_scaledValue_50 (cW_ar (by omega)) rfl (by omega) (by omega) (by decide) ?_
              refine Z.lstore (lv' := [(13, .long (J k (so : Int).toNat)), (12, .int (zI j)), (10, .long sc), (9, .int (zI d)), (7, .long x), (1, .long x1), (3, .long x2), (5, .long x3), (0, .ref (pl k))]) hX dX3_scaledValue_51 (by decide) rfl ?_
              refine Z.lload hX dX3_scaledValue_53 rfl ?_
              refine Z.lconst (v := 0) hX dX3_scaledValue_55 rfl ?_
              refine Z.lcmp_eq hX 87 dX3_scaledValue_56 dX3_scaledValue_57 (by decide) ?_ ?_
              · intro c6
                refine Z.iinc (lv' := [(12, .int (zI (j + 1))), (13, .long (J k (so : Int).toNat)), (10, .long sc), (9, .int (zI d)), (7, .long x), (1, .long x1), (3, .long x2), (5, .long x3), (0, .ref (pl k))]) hX dX3_scaledValue_87 rfl (by decide) rfl ?_
                refine Z.goto hX 32 dX3_scaledValue_90 (by decide) ?_
                refine Z.pick [0, 2, 3, 4, 5, 6, 7, 8] rfl ?_
                exact ih_32 _ _ (by omega) (by omega) (sv_z hbk (by omega) (by omega) eso (by assumption) hx2)
              · intro c6
                refine Z.lload hX dX3_scaledValue_60 rfl ?_
                refine Z.lload hX dX3_scaledValue_62 rfl ?_
                refine Z.lload_n hX dX3_scaledValue_64 rfl rfl ?_
                refine Z.iload hX dX3_scaledValue_65 rfl ?_
                refine Z.iload hX dX3_scaledValue_67 rfl ?_
                refine Z.isub hX dX3_scaledValue_69 ?_
                refine Z.callSNl (As := [.long x1, .int (zI (d - j))]) (rest := [.long (J k (so : Int).toNat), .long x]) hX (ct_X6_powerOf l D ce x1 (d - j) (by omega)) mc_X6_powerOf ns_X3_55 st_X6_powerOf ini_X6 nd_X6_powerOf ⟨Nat.le_of_ble_eq_true rfl, Nat.le_of_ble_eq_true rfl⟩ ⟨rfl, rfl⟩ ⟨Nat.le_refl _, Nat.le_refl _⟩ rfl (Nat.le_of_ble_eq_true rfl) dX3_scaledValue_70 ?_
                rintro ra w1 ⟨r08, hr_, hw_, hra⟩
                subst hr_
                refine ⟨hw_, ?_⟩
                refine Z.lmul hX dX3_scaledValue_73 ?_
                refine Z.lload_n hX dX3_scaledValue_74 rfl rfl ?_
                refine Z.iload hX dX3_scaledValue_75 rfl ?_
                refine Z.callSNl (As := [.long x2, .int (zI j)]) (rest := [.long ((J k (so : Int).toNat) * ra), .long x]) hX (ct_X6_powerOf l D ce x2 j (by omega)) mc_X6_powerOf ns_X3_55 st_X6_powerOf ini_X6 nd_X6_powerOf ⟨Nat.le_of_ble_eq_true rfl, Nat.le_of_ble_eq_true rfl⟩ ⟨rfl, rfl⟩ ⟨Nat.le_refl _, Nat.le_refl _⟩ rfl (Nat.le_of_ble_eq_true rfl) dX3_scaledValue_77 ?_
                rintro rb w1 ⟨r010, hr_, hw_, hrb⟩
                subst hr_
                refine ⟨hw_, ?_⟩
                refine Z.lmul hX dX3_scaledValue_80 ?_
                refine Z.lload hX dX3_scaledValue_81 rfl ?_
                refine Z.lmul hX dX3_scaledValue_83 ?_
                refine Z.ladd hX dX3_scaledValue_84 ?_
                refine Z.lstore (lv' := [(7, .long (x + ((((J k (so : Int).toNat) * ra) * rb) * sc))), (13, .long (J k (so : Int).toNat)), (12, .int (zI j)), (10, .long sc), (9, .int (zI d)), (1, .long x1), (3, .long x2), (5, .long x3), (0, .ref (pl k))]) hX dX3_scaledValue_85 (by decide) rfl ?_
                refine Z.iinc (lv' := [(12, .int (zI (j + 1))), (7, .long (x + ((((J k (so : Int).toNat) * ra) * rb) * sc))), (13, .long (J k (so : Int).toNat)), (10, .long sc), (9, .int (zI d)), (1, .long x1), (3, .long x2), (5, .long x3), (0, .ref (pl k))]) hX dX3_scaledValue_87 rfl (by decide) rfl ?_
                refine Z.goto hX 32 dX3_scaledValue_90 (by decide) ?_
                refine Z.pick [0, 3, 4, 1, 5, 6, 7, 8] rfl ?_
                exact ih_32 _ _ (by omega) (by omega) (sv_s hbk (by omega) (by omega) eso rfl hra hrb hsc hx2)
        refine Z.pick [0, 1, 2, 3, 4, 5, 6, 7] rfl ?_
        exact key_32 _ _ _ (Nat.lt_succ_self _) (by omega) hx
  refine Z.pick [0, 1, 3, 4, 5, 2] rfl ?_
  exact key_6 _ _ _ (Nat.lt_succ_self _) (by omega) (cq_rf 0)

set_option maxHeartbeats 4000000 in
set_option maxRecDepth 100000 in
theorem ct_X6_side_w (l : Launch) (D : va_G) (ce : Nat → ClassId) (h pl ar : Nat → Nat) (G : Nat → Int) (L : Nat → Nat → Int64) (B : Nat → Int) (J : Nat → Nat → Int64) (sort pp qq ss : Int) (hok : cOK G B) (hbl : bL L) (hfi : FI G L) (hs : -2147483648 ≤ sort ∧ sort < 2147483648) (hp : -2147483648 ≤ pp ∧ pp < 2147483648) (hq : -2147483648 ≤ qq ∧ qq < 2147483648) (hss : -2147483648 ≤ ss ∧ ss < 2147483648) (hli : LI G L) (hle : LIe G L) (hlw : LIw G L B J) (hlx : LIx G L B J) : Ct l yX6_side cX6_side 8 (some .int) { frames := 6, cells := 0, slots := 0, locals := 162 } 0 0 D (TY ce) [.ref (h 0), .int (zI sort), .int (zI pp), .int (zI qq), .int (zI ss)] (cW ce h pl ar G L B J) (QI D (TY ce) (fun r w1 => ∃ z : Int, ∃ G2 : Nat → Int, ∃ L2 : Nat → Nat → Int64, ∃ B2 : Nat → Int, ∃ J2 : Nat → Nat → Int64, r = zI z ∧ w1 = cW ce h pl ar G2 L2 B2 J2 ∧ (cOK G2 B2) ∧ (∀ k, k < 3 → L2 k = L k) ∧ (¬ ((sort = 0 ∨ sort = 1) ∧ (-20 ≤ pp ∧ pp ≤ 20 ∧ -20 ≤ qq ∧ qq ≤ 20 ∧ 1 ≤ ss ∧ ss ≤ 9)) → z = -9) ∧ (FI G2 L2) ∧ (LI G2 L2) ∧ (LIe G2 L2) ∧ (LIw G2 L2 B2 J2) ∧ (LIx G2 L2 B2 J2) ∧ (((sort = 0 ∨ sort = 1) ∧ (-20 ≤ pp ∧ pp ≤ 20 ∧ -20 ≤ qq ∧ qq ≤ 20 ∧ 1 ≤ ss ∧ ss ≤ 9)) → RSPc L L2 sort (fun _ E D => z = sg (Vl E D pp qq ss) ∧ (Vl E D pp qq ss).natAbs ≤ 9000000000000000000) (z = -8)))) := by
  refine Ct.ofI (by decide) (Nat.le_of_ble_eq_true rfl) ?_
  intro p e s m args below meth c A Q hX hnm hR
  refine Z.pick (lv' := [(0, .ref (h 0)), (1, .int (zI sort)), (2, .int (zI pp)), (3, .int (zI qq)), (4, .int (zI ss))]) [0, 1, 2, 3, 4] rfl ?_
  obtain ⟨hB, hg0, hg2, hg3, hg5, hg6, hg1, hg4⟩ := id hok
  unfold bl at hg0 hg2 hg3 hg5 hg6
  refine Z.iload_n hX dX6_side_0 rfl rfl ?_
  refine Z.callS0i (As := [.int (zI sort)]) (rest := []) hX (ct_X6_isSort l D ce sort (by omega)) mc_X6_isSort ml_X6_99 st_X6_isSort ini_X6 nd_X6_isSort ⟨Nat.le_of_ble_eq_true rfl, Nat.le_of_ble_eq_true rfl⟩ ⟨rfl, rfl⟩ ⟨Nat.le_refl _, Nat.le_refl _⟩ rfl (Nat.le_of_ble_eq_true rfl) dX6_side_1 ?_
  rintro r_1 w1 ⟨z1, hr_, hw_, p1⟩
  subst hr_
  refine ⟨hw_, ?_⟩
  refine Z.if_eq hX 17 dX6_side_4 (by decide) ⟨by omega, by omega⟩ ?_ ?_
  · intro c2
    refine Z.bipush hX dX6_side_17 (by decide) ?_
    exact hR _ _ _ _ dX6_side_19 ⟨(-9), G, L, B, J, rfl, rfl, hok, (fun _ _ => rfl), (fun _ => rfl), hfi, hli, hle, hlw, hlx, (fun q => absurd q (by omega))⟩
  · intro c2
    refine Z.iload_n hX dX6_side_7 rfl rfl ?_
    refine Z.iload_n hX dX6_side_8 rfl rfl ?_
    refine Z.iload hX dX6_side_9 rfl ?_
    refine Z.callS0i (As := [.int (zI pp), .int (zI qq), .int (zI ss)]) (rest := []) hX (ct_X6_isPlace l D ce pp qq ss (by omega) (by omega) (by omega)) mc_X6_isPlace ml_X6_129 st_X6_isPlace ini_X6 nd_X6_isPlace ⟨Nat.le_of_ble_eq_true rfl, Nat.le_of_ble_eq_true rfl⟩ ⟨rfl, rfl⟩ ⟨Nat.le_refl _, Nat.le_refl _⟩ rfl (Nat.le_of_ble_eq_true rfl) dX6_side_11 ?_
    rintro r_3 w1 ⟨z2, hr_, hw_, p2⟩
    subst hr_
    refine ⟨hw_, ?_⟩
    refine Z.if_ne hX 20 dX6_side_14 (by decide) ⟨by omega, by omega⟩ ?_ ?_
    · intro c4
      rcases (show sort = 0 ∨ sort = 1 by omega) with rfl | rfl
      · skip
        refine Z.aload_n hX dX6_side_20 rfl rfl ?_
        refine Z.iload_n hX dX6_side_21 rfl rfl ?_
        refine Z.callVfr (As := [.int (zI 0)]) (rest := []) hX 6 0 rfl rfl (ct_X6_curveOf_lw l D ce h pl ar G L B J hok hbl hfi hli hle hlw hlx) mc_X6_curveOf ml_X6_102 im_X6_curveOf se_X6_curveOf ini_X6 nd_X6_curveOf ⟨Nat.le_of_ble_eq_true rfl, Nat.le_of_ble_eq_true rfl⟩ ⟨rfl, rfl⟩ ⟨Nat.le_refl _, Nat.le_refl _⟩ rfl (Nat.le_of_ble_eq_true rfl) dX6_side_22 ?_
        rintro r_5 w1 ⟨Gc, Lc, Bc, Jc, hr_, hw_, cv1, cv2, cv3, cv4, cv5, cv6, cv7, cv8⟩
        subst hr_
        subst hw_
        obtain ⟨dB, dg0, dg2, dg3, dg5, dg6, dg1, dg4⟩ := id cv1
        unfold bl at dg0 dg2 dg3 dg5 dg6
        refine Z.astore (lv' := [(5, .ref (h 6)), (0, .ref (h 0)), (1, .int (zI 0)), (2, .int (zI pp)), (3, .int (zI qq)), (4, .int (zI ss))]) hX dX6_side_25 (by decide) rfl ?_
        refine Z.aload hX dX6_side_27 rfl ?_
        refine Z.getf hX 0 6 3 dX6_side_29 rfl rfl inX0 (by decide) fl_X6_106 rfl rfl ?_
        refine Z.if_ne hX 38 dX6_side_32 (by decide) ⟨by omega, by omega⟩ ?_ ?_
        · intro c6
          refine Z.aload hX dX6_side_38 rfl ?_
          refine Z.getf hX 0 6 0 dX6_side_40 rfl rfl inX0 (by decide) fl_X6_109 rfl rfl ?_
          refine Z.iload_n hX dX6_side_43 rfl rfl ?_
          refine Z.i2l hX dX6_side_44 ⟨by omega, by omega⟩ ?_
          refine Z.iload_n hX dX6_side_45 rfl rfl ?_
          refine Z.i2l hX dX6_side_46 ⟨by omega, by omega⟩ ?_
          refine Z.iload hX dX6_side_47 rfl ?_
          refine Z.i2l hX dX6_side_49 ⟨by omega, by omega⟩ ?_
          refine Z.callVfl (As := [.long (zL pp), .long (zL qq), .long (zL ss)]) (rest := []) hX 3 (24 + 40) rfl (cW_pl (by decide)) (ct_X3_scaledValue_w l D ce h pl ar Gc Lc Bc Jc 40 (zL pp) (zL qq) (zL ss) (by decide) dB (by first | exact su_l cv7 cv5 (by omega) | exact su_e cv8 cv6 (by omega))) mc_X3_scaledValue ml_X6_133 im_X3_scaledValue se_X3_scaledValue ini_X3 nd_X3_scaledValue ⟨Nat.le_of_ble_eq_true rfl, Nat.le_of_ble_eq_true rfl⟩ ⟨rfl, rfl⟩ ⟨Nat.le_refl _, Nat.le_refl _⟩ rfl (Nat.le_of_ble_eq_true rfl) dX6_side_50 ?_
          rintro sv_ w1 ⟨r08, hr_, hw_, hsv⟩
          subst hr_
          subst hw_
          refine Z.lstore (lv' := [(6, .long sv_), (5, .ref (h 6)), (0, .ref (h 0)), (1, .int (zI 0)), (2, .int (zI pp)), (3, .int (zI qq)), (4, .int (zI ss))]) hX dX6_side_53 (by decide) rfl ?_
          refine Z.lload hX dX6_side_55 rfl ?_
          refine Z.lconst (v := 0) hX dX6_side_57 rfl ?_
          refine Z.lcmp_ge hX 66 dX6_side_58 dX6_side_59 (by decide) ?_ ?_
          · intro c9
            refine Z.lload hX dX6_side_66 rfl ?_
            refine Z.lconst (v := 0) hX dX6_side_68 rfl ?_
            refine Z.lcmp_le hX 77 dX6_side_69 dX6_side_70 (by decide) ?_ ?_
            · intro c10
              refine Z.iconst hX dX6_side_77 ?_
              exact hR _ _ _ _ dX6_side_78 ⟨0, Gc, Lc, Bc, Jc, rfl, rfl, cv1, cv2, (fun q => absurd (by omega) q), cv3, (by first | exact cv4 | exact cv4.1), (by first | exact cv6 | exact cv5), cv7, cv8, (fun _ => by first | exact rsc_ln cv4 cv5 cv2 (by omega) (by omega) rfl | exact rsc_en cv5 cv6 cv2 (by omega) (by omega) rfl | exact rsc_l cv4 cv5 cv7 cv2 (by omega) (by omega) (fun a b c su vb => sd_a (by omega) hsv (by omega) su vb (by first | exact Or.inl ⟨by assumption, rfl⟩ | exact Or.inr (Or.inl ⟨by assumption, by assumption, rfl⟩) | exact Or.inr (Or.inr ⟨by assumption, by assumption, rfl⟩))) | exact rsc_e cv5 cv6 cv8 cv2 (by omega) (by omega) (fun a b c su vb => sd_a (by omega) hsv (by omega) su vb (by first | exact Or.inl ⟨by assumption, rfl⟩ | exact Or.inr (Or.inl ⟨by assumption, by assumption, rfl⟩) | exact Or.inr (Or.inr ⟨by assumption, by assumption, rfl⟩))))⟩
            · intro c10
              refine Z.iconst hX dX6_side_73 ?_
              refine Z.goto hX 78 dX6_side_74 (by decide) ?_
              exact hR _ _ _ _ dX6_side_78 ⟨1, Gc, Lc, Bc, Jc, rfl, rfl, cv1, cv2, (fun q => absurd (by omega) q), cv3, (by first | exact cv4 | exact cv4.1), (by first | exact cv6 | exact cv5), cv7, cv8, (fun _ => by first | exact rsc_ln cv4 cv5 cv2 (by omega) (by omega) rfl | exact rsc_en cv5 cv6 cv2 (by omega) (by omega) rfl | exact rsc_l cv4 cv5 cv7 cv2 (by omega) (by omega) (fun a b c su vb => sd_a (by omega) hsv (by omega) su vb (by first | exact Or.inl ⟨by assumption, rfl⟩ | exact Or.inr (Or.inl ⟨by assumption, by assumption, rfl⟩) | exact Or.inr (Or.inr ⟨by assumption, by assumption, rfl⟩))) | exact rsc_e cv5 cv6 cv8 cv2 (by omega) (by omega) (fun a b c su vb => sd_a (by omega) hsv (by omega) su vb (by first | exact Or.inl ⟨by assumption, rfl⟩ | exact Or.inr (Or.inl ⟨by assumption, by assumption, rfl⟩) | exact Or.inr (Or.inr ⟨by assumption, by assumption, rfl⟩))))⟩
          · intro c9
            refine Z.iconst hX dX6_side_62 ?_
            refine Z.goto hX 78 dX6_side_63 (by decide) ?_
            exact hR _ _ _ _ dX6_side_78 ⟨(-1), Gc, Lc, Bc, Jc, rfl, rfl, cv1, cv2, (fun q => absurd (by omega) q), cv3, (by first | exact cv4 | exact cv4.1), (by first | exact cv6 | exact cv5), cv7, cv8, (fun _ => by first | exact rsc_ln cv4 cv5 cv2 (by omega) (by omega) rfl | exact rsc_en cv5 cv6 cv2 (by omega) (by omega) rfl | exact rsc_l cv4 cv5 cv7 cv2 (by omega) (by omega) (fun a b c su vb => sd_a (by omega) hsv (by omega) su vb (by first | exact Or.inl ⟨by assumption, rfl⟩ | exact Or.inr (Or.inl ⟨by assumption, by assumption, rfl⟩) | exact Or.inr (Or.inr ⟨by assumption, by assumption, rfl⟩))) | exact rsc_e cv5 cv6 cv8 cv2 (by omega) (by omega) (fun a b c su vb => sd_a (by omega) hsv (by omega) su vb (by first | exact Or.inl ⟨by assumption, rfl⟩ | exact Or.inr (Or.inl ⟨by assumption, by assumption, rfl⟩) | exact Or.inr (Or.inr ⟨by assumption, by assumption, rfl⟩))))⟩
        · intro c6
          refine Z.bipush hX dX6_side_35 (by decide) ?_
          exact hR _ _ _ _ dX6_side_37 ⟨(-8), Gc, Lc, Bc, Jc, rfl, rfl, cv1, cv2, (fun q => absurd (by omega) q), cv3, (by first | exact cv4 | exact cv4.1), (by first | exact cv6 | exact cv5), cv7, cv8, (fun _ => by first | exact rsc_ln cv4 cv5 cv2 (by omega) (by omega) rfl | exact rsc_en cv5 cv6 cv2 (by omega) (by omega) rfl | exact rsc_l cv4 cv5 cv7 cv2 (by omega) (by omega) (fun a b c su vb => sd_a (by omega) hsv (by omega) su vb (by first | exact Or.inl ⟨by assumption, rfl⟩ | exact Or.inr (Or.inl ⟨by assumption, by assumption, rfl⟩) | exact Or.inr (Or.inr ⟨by assumption, by assumption, rfl⟩))) | exact rsc_e cv5 cv6 cv8 cv2 (by omega) (by omega) (fun a b c su vb => sd_a (by omega) hsv (by omega) su vb (by first | exact Or.inl ⟨by assumption, rfl⟩ | exact Or.inr (Or.inl ⟨by assumption, by assumption, rfl⟩) | exact Or.inr (Or.inr ⟨by assumption, by assumption, rfl⟩))))⟩
      · skip
        refine Z.aload_n hX dX6_side_20 rfl rfl ?_
        refine Z.iload_n hX dX6_side_21 rfl rfl ?_
        refine Z.callVfr (As := [.int (zI 1)]) (rest := []) hX 6 0 rfl rfl (ct_X6_curveOf_ew l D ce h pl ar G L B J hok hbl hfi hli hle hlw hlx) mc_X6_curveOf ml_X6_102 im_X6_curveOf se_X6_curveOf ini_X6 nd_X6_curveOf ⟨Nat.le_of_ble_eq_true rfl, Nat.le_of_ble_eq_true rfl⟩ ⟨rfl, rfl⟩ ⟨Nat.le_refl _, Nat.le_refl _⟩ rfl (Nat.le_of_ble_eq_true rfl) dX6_side_22 ?_
        rintro r_11 w1 ⟨Gc, Lc, Bc, Jc, hr_, hw_, cv1, cv2, cv3, cv4, cv5, cv6, cv7, cv8⟩
        subst hr_
        subst hw_
        obtain ⟨dB, dg0, dg2, dg3, dg5, dg6, dg1, dg4⟩ := id cv1
        unfold bl at dg0 dg2 dg3 dg5 dg6
        refine Z.astore (lv' := [(5, .ref (h 7)), (0, .ref (h 0)), (1, .int (zI 1)), (2, .int (zI pp)), (3, .int (zI qq)), (4, .int (zI ss))]) hX dX6_side_25 (by decide) rfl ?_
        refine Z.aload hX dX6_side_27 rfl ?_
        refine Z.getf hX 0 7 3 dX6_side_29 rfl rfl inX0 (by decide) fl_X6_106 rfl rfl ?_
        refine Z.if_ne hX 38 dX6_side_32 (by decide) ⟨by omega, by omega⟩ ?_ ?_
        · intro c12
          refine Z.aload hX dX6_side_38 rfl ?_
          refine Z.getf hX 0 7 0 dX6_side_40 rfl rfl inX0 (by decide) fl_X6_109 rfl rfl ?_
          refine Z.iload_n hX dX6_side_43 rfl rfl ?_
          refine Z.i2l hX dX6_side_44 ⟨by omega, by omega⟩ ?_
          refine Z.iload_n hX dX6_side_45 rfl rfl ?_
          refine Z.i2l hX dX6_side_46 ⟨by omega, by omega⟩ ?_
          refine Z.iload hX dX6_side_47 rfl ?_
          refine Z.i2l hX dX6_side_49 ⟨by omega, by omega⟩ ?_
          refine Z.callVfl (As := [.long (zL pp), .long (zL qq), .long (zL ss)]) (rest := []) hX 3 (24 + 41) rfl (cW_pl (by decide)) (ct_X3_scaledValue_w l D ce h pl ar Gc Lc Bc Jc 41 (zL pp) (zL qq) (zL ss) (by decide) dB (by first | exact su_l cv7 cv5 (by omega) | exact su_e cv8 cv6 (by omega))) mc_X3_scaledValue ml_X6_133 im_X3_scaledValue se_X3_scaledValue ini_X3 nd_X3_scaledValue ⟨Nat.le_of_ble_eq_true rfl, Nat.le_of_ble_eq_true rfl⟩ ⟨rfl, rfl⟩ ⟨Nat.le_refl _, Nat.le_refl _⟩ rfl (Nat.le_of_ble_eq_true rfl) dX6_side_50 ?_
          rintro sv_ w1 ⟨r014, hr_, hw_, hsv⟩
          subst hr_
          subst hw_
          refine Z.lstore (lv' := [(6, .long sv_), (5, .ref (h 7)), (0, .ref (h 0)), (1, .int (zI 1)), (2, .int (zI pp)), (3, .int (zI qq)), (4, .int (zI ss))]) hX dX6_side_53 (by decide) rfl ?_
          refine Z.lload hX dX6_side_55 rfl ?_
          refine Z.lconst (v := 0) hX dX6_side_57 rfl ?_
          refine Z.lcmp_ge hX 66 dX6_side_58 dX6_side_59 (by decide) ?_ ?_
          · intro c15
            refine Z.lload hX dX6_side_66 rfl ?_
            refine Z.lconst (v := 0) hX dX6_side_68 rfl ?_
            refine Z.lcmp_le hX 77 dX6_side_69 dX6_side_70 (by decide) ?_ ?_
            · intro c16
              refine Z.iconst hX dX6_side_77 ?_
              exact hR _ _ _ _ dX6_side_78 ⟨0, Gc, Lc, Bc, Jc, rfl, rfl, cv1, cv2, (fun q => absurd (by omega) q), cv3, (by first | exact cv4 | exact cv4.1), (by first | exact cv6 | exact cv5), cv7, cv8, (fun _ => by first | exact rsc_ln cv4 cv5 cv2 (by omega) (by omega) rfl | exact rsc_en cv5 cv6 cv2 (by omega) (by omega) rfl | exact rsc_l cv4 cv5 cv7 cv2 (by omega) (by omega) (fun a b c su vb => sd_a (by omega) hsv (by omega) su vb (by first | exact Or.inl ⟨by assumption, rfl⟩ | exact Or.inr (Or.inl ⟨by assumption, by assumption, rfl⟩) | exact Or.inr (Or.inr ⟨by assumption, by assumption, rfl⟩))) | exact rsc_e cv5 cv6 cv8 cv2 (by omega) (by omega) (fun a b c su vb => sd_a (by omega) hsv (by omega) su vb (by first | exact Or.inl ⟨by assumption, rfl⟩ | exact Or.inr (Or.inl ⟨by assumption, by assumption, rfl⟩) | exact Or.inr (Or.inr ⟨by assumption, by assumption, rfl⟩))))⟩
            · intro c16
              refine Z.iconst hX dX6_side_73 ?_
              refine Z.goto hX 78 dX6_side_74 (by decide) ?_
              exact hR _ _ _ _ dX6_side_78 ⟨1, Gc, Lc, Bc, Jc, rfl, rfl, cv1, cv2, (fun q => absurd (by omega) q), cv3, (by first | exact cv4 | exact cv4.1), (by first | exact cv6 | exact cv5), cv7, cv8, (fun _ => by first | exact rsc_ln cv4 cv5 cv2 (by omega) (by omega) rfl | exact rsc_en cv5 cv6 cv2 (by omega) (by omega) rfl | exact rsc_l cv4 cv5 cv7 cv2 (by omega) (by omega) (fun a b c su vb => sd_a (by omega) hsv (by omega) su vb (by first | exact Or.inl ⟨by assumption, rfl⟩ | exact Or.inr (Or.inl ⟨by assumption, by assumption, rfl⟩) | exact Or.inr (Or.inr ⟨by assumption, by assumption, rfl⟩))) | exact rsc_e cv5 cv6 cv8 cv2 (by omega) (by omega) (fun a b c su vb => sd_a (by omega) hsv (by omega) su vb (by first | exact Or.inl ⟨by assumption, rfl⟩ | exact Or.inr (Or.inl ⟨by assumption, by assumption, rfl⟩) | exact Or.inr (Or.inr ⟨by assumption, by assumption, rfl⟩))))⟩
          · intro c15
            refine Z.iconst hX dX6_side_62 ?_
            refine Z.goto hX 78 dX6_side_63 (by decide) ?_
            exact hR _ _ _ _ dX6_side_78 ⟨(-1), Gc, Lc, Bc, Jc, rfl, rfl, cv1, cv2, (fun q => absurd (by omega) q), cv3, (by first | exact cv4 | exact cv4.1), (by first | exact cv6 | exact cv5), cv7, cv8, (fun _ => by first | exact rsc_ln cv4 cv5 cv2 (by omega) (by omega) rfl | exact rsc_en cv5 cv6 cv2 (by omega) (by omega) rfl | exact rsc_l cv4 cv5 cv7 cv2 (by omega) (by omega) (fun a b c su vb => sd_a (by omega) hsv (by omega) su vb (by first | exact Or.inl ⟨by assumption, rfl⟩ | exact Or.inr (Or.inl ⟨by assumption, by assumption, rfl⟩) | exact Or.inr (Or.inr ⟨by assumption, by assumption, rfl⟩))) | exact rsc_e cv5 cv6 cv8 cv2 (by omega) (by omega) (fun a b c su vb => sd_a (by omega) hsv (by omega) su vb (by first | exact Or.inl ⟨by assumption, rfl⟩ | exact Or.inr (Or.inl ⟨by assumption, by assumption, rfl⟩) | exact Or.inr (Or.inr ⟨by assumption, by assumption, rfl⟩))))⟩
        · intro c12
          refine Z.bipush hX dX6_side_35 (by decide) ?_
          exact hR _ _ _ _ dX6_side_37 ⟨(-8), Gc, Lc, Bc, Jc, rfl, rfl, cv1, cv2, (fun q => absurd (by omega) q), cv3, (by first | exact cv4 | exact cv4.1), (by first | exact cv6 | exact cv5), cv7, cv8, (fun _ => by first | exact rsc_ln cv4 cv5 cv2 (by omega) (by omega) rfl | exact rsc_en cv5 cv6 cv2 (by omega) (by omega) rfl | exact rsc_l cv4 cv5 cv7 cv2 (by omega) (by omega) (fun a b c su vb => sd_a (by omega) hsv (by omega) su vb (by first | exact Or.inl ⟨by assumption, rfl⟩ | exact Or.inr (Or.inl ⟨by assumption, by assumption, rfl⟩) | exact Or.inr (Or.inr ⟨by assumption, by assumption, rfl⟩))) | exact rsc_e cv5 cv6 cv8 cv2 (by omega) (by omega) (fun a b c su vb => sd_a (by omega) hsv (by omega) su vb (by first | exact Or.inl ⟨by assumption, rfl⟩ | exact Or.inr (Or.inl ⟨by assumption, by assumption, rfl⟩) | exact Or.inr (Or.inr ⟨by assumption, by assumption, rfl⟩))))⟩
    · intro c4
      refine Z.bipush hX dX6_side_17 (by decide) ?_
      exact hR _ _ _ _ dX6_side_19 ⟨(-9), G, L, B, J, rfl, rfl, hok, (fun _ _ => rfl), (fun _ => rfl), hfi, hli, hle, hlw, hlx, (fun q => absurd q (by omega))⟩

