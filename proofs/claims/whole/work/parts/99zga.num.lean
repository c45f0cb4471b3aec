set_option maxHeartbeats 4000000 in
set_option maxRecDepth 100000 in
theorem ct_X6_isPowerWithin_w (l : Launch) (D : va_G) (ce : Nat → ClassId) (b : Int64) (k : Int) (v : Int64) (hk : -2147483648 ≤ k ∧ k < 2147483648) (hk0 : 0 ≤ k) (hv0 : 0 ≤ v.toInt) : Ct l yX6_isPowerWithin cX6_isPowerWithin 8 (some .boolean) { frames := 0, cells := 0, slots := 0, locals := 0 } 0 0 D (TY ce) [.long b, .int (zI k), .long v] ([]) (QI D (TY ce) (fun r w1 => ∃ z : Int, r = zI z ∧ w1 = [] ∧ (z = 0 ∨ z = 1) ∧ (z = 1 → 1 ≤ b.toInt ∧ b.toInt ^ k.toNat ≤ v.toInt) ∧ (z = 0 → 1 ≤ b.toInt → v.toInt < b.toInt ^ k.toNat))) := by
  refine Ct.ofB (by decide) (Nat.le_of_ble_eq_true rfl) ?_
  intro p e s m args below meth c A Q hX hnm hR
  refine Z.pick (lv' := [(0, .long b), (2, .int (zI k)), (3, .long v)]) [0, 1, 2] rfl ?_
  refine Z.lload_n hX dX6_isPowerWithin_0 rfl rfl ?_
  refine Z.lconst (v := 1) hX dX6_isPowerWithin_1 rfl ?_
  refine Z.lcmp_ge hX 8 dX6_isPowerWithin_2 dX6_isPowerWithin_3 (by decide) ?_ ?_
  · intro c1
    have hb0 : ¬ b = 0 := fun q => by subst q; exact absurd (by assumption) (by decide : ¬ (1 : Int64) ≤ 0)
    have hb1 : 1 ≤ b.toInt := b_ge1 (by assumption)
    refine Z.lload_n hX dX6_isPowerWithin_8 rfl rfl ?_
    refine Z.lstore (lv' := [(5, .long v), (0, .long b), (2, .int (zI k)), (3, .long v)]) hX dX6_isPowerWithin_9 (by decide) rfl ?_
    refine Z.iconst hX dX6_isPowerWithin_11 ?_
    refine Z.istore (lv' := [(7, .int (zI 0)), (5, .long v), (0, .long b), (2, .int (zI k)), (3, .long v)]) hX dX6_isPowerWithin_12 (by decide) rfl ?_
    have key_14 : ∀ (N : Nat), ∀ (i : Int) (x : Int64), (k - i).toNat < N → (hi : 0 ≤ i ∧ (i ≤ k ∨ i = 0)) → (hx : 0 ≤ x.toInt ∧ x.toInt * b.toInt ^ i.toNat ≤ v.toInt ∧ v.toInt < (x.toInt + 1) * b.toInt ^ i.toNat) → Z p l e { frames := 0, cells := 0, slots := 0, locals := 0 } s m args below meth c D A 8 0 0 Q 14 [(7, .int (zI i)), (5, .long x), (0, .long b), (2, .int (zI k))] [] ([]) := by
      intro N
      induction N with
      | zero => intro i x hm; exact absurd hm (Nat.not_lt_zero _)
      | succ N ih_14 =>
        intro i x hm hi hx
        refine Z.iload hX dX6_isPowerWithin_14 rfl ?_
        refine Z.iload_n hX dX6_isPowerWithin_16 rfl rfl ?_
        refine Z.icmp_ge hX 32 dX6_isPowerWithin_17 (by decide) ⟨by omega, by omega⟩ ⟨by omega, by omega⟩ ?_ ?_
        · intro c2
          refine Z.lload hX dX6_isPowerWithin_32 rfl ?_
          refine Z.lconst (v := 1) hX dX6_isPowerWithin_34 rfl ?_
          refine Z.lcmp_lt hX 43 dX6_isPowerWithin_35 dX6_isPowerWithin_36 (by decide) ?_ ?_
          · intro c3
            refine Z.iconst hX dX6_isPowerWithin_43 ?_
            exact hR _ _ _ _ dX6_isPowerWithin_44 rfl ⟨0, rfl, rfl, (by omega), (fun q => absurd q (by decide)), (fun _ _ => pq_0 (by omega) hx.1 hx.2.2 (by assumption))⟩
          · intro c3
            refine Z.iconst hX dX6_isPowerWithin_39 ?_
            refine Z.goto hX 44 dX6_isPowerWithin_40 (by decide) ?_
            exact hR _ _ _ _ dX6_isPowerWithin_44 rfl ⟨1, rfl, rfl, (by omega), (fun _ => ⟨hb1, pq_1 hb1 (by omega) hx.2.1 (by assumption)⟩), (fun q => absurd q (by decide))⟩
        · intro c2
          refine Z.lload hX dX6_isPowerWithin_20 rfl ?_
          refine Z.lload_n hX dX6_isPowerWithin_22 rfl rfl ?_
          refine Z.ldiv hX dX6_isPowerWithin_23 hb0 ?_
          refine Z.lstore (lv' := [(5, .long (x / b)), (7, .int (zI i)), (0, .long b), (2, .int (zI k))]) hX dX6_isPowerWithin_24 (by decide) rfl ?_
          refine Z.iinc (lv' := [(7, .int (zI (i + 1))), (5, .long (x / b)), (0, .long b), (2, .int (zI k))]) hX dX6_isPowerWithin_26 rfl (by decide) rfl ?_
          refine Z.goto hX 14 dX6_isPowerWithin_29 (by decide) ?_
          refine Z.pick [0, 1, 2, 3] rfl ?_
          exact ih_14 _ _ (by omega) (by omega) (pq_s hb1 hi.1 hx.1 hx.2.1 hx.2.2)
    refine Z.pick [0, 1, 2, 3] rfl ?_
    exact key_14 _ _ _ (Nat.lt_succ_self _) (by omega) ⟨hv0, by rw [show (0 : Int).toNat = 0 from rfl, Int.pow_zero, Int.mul_one]; exact Int.le_refl _, by rw [show (0 : Int).toNat = 0 from rfl, Int.pow_zero, Int.mul_one]; omega⟩
  · intro c1
    refine Z.iconst hX dX6_isPowerWithin_6 ?_
    exact hR _ _ _ _ dX6_isPowerWithin_7 rfl ⟨0, rfl, rfl, (by omega), (fun q => absurd q (by decide)), (fun _ q => absurd q (b_lt1 (by assumption)))⟩

set_option maxHeartbeats 4000000 in
set_option maxRecDepth 100000 in
theorem ct_X6_rootOf_w (l : Launch) (D : va_G) (ce : Nat → ClassId) (v : Int64) (k : Int) (hk : -2147483648 ≤ k ∧ k < 2147483648) (hk2 : 2 ≤ k) (hv0 : 0 ≤ v.toInt) : Ct l yX6_rootOf cX6_rootOf 8 (some .long) { frames := 1, cells := 0, slots := 0, locals := 27 } 0 0 D (TY ce) [.long v, .int (zI k)] ([]) (QL D (TY ce) (fun r w1 => ∃ r0 : Int64, r = r0 ∧ w1 = [] ∧ (0 ≤ r0.toInt ∧ r0.toInt ≤ 4294967295 ∧ r0.toInt ^ k.toNat ≤ v.toInt ∧ v.toInt < (r0.toInt + 1) ^ k.toNat))) := by
  refine Ct.ofL (by decide) (Nat.le_of_ble_eq_true rfl) ?_
  intro p e s m args below meth c A Q hX hnm hR
  refine Z.pick (lv' := [(0, .long v), (2, .int (zI k))]) [0, 1] rfl ?_
  refine Z.lconst (v := 0) hX dX6_rootOf_0 rfl ?_
  refine Z.lstore_n (lv' := [(3, .long 0), (0, .long v), (2, .int (zI k))]) hX dX6_rootOf_1 rfl (by decide) rfl ?_
  refine Z.bipush hX dX6_rootOf_2 (by decide) ?_
  refine Z.istore (lv' := [(5, .int (zI 31)), (3, .long 0), (0, .long v), (2, .int (zI k))]) hX dX6_rootOf_4 (by decide) rfl ?_
  have key_6 : ∀ (N : Nat), ∀ (i : Int) (x : Int64), (i + 1).toNat < N → (hi : -1 ≤ i ∧ i ≤ 31) → (hx : 0 ≤ x.toInt ∧ x.toInt + 2 ^ (i + 1).toNat ≤ 4294967296) → (hlo : x.toInt ^ k.toNat ≤ v.toInt) → (hhi : v.toInt < (x.toInt + 2 ^ (i + 1).toNat) ^ k.toNat) → Z p l e { frames := 1, cells := 0, slots := 0, locals := 27 } s m args below meth c D A 8 0 0 Q 6 [(5, .int (zI i)), (3, .long x), (0, .long v), (2, .int (zI k))] [] ([]) := by
    intro N
    induction N with
    | zero => intro i x hm; exact absurd hm (Nat.not_lt_zero _)
    | succ N ih_6 =>
      intro i x hm hi hx hlo hhi
      refine Z.iload hX dX6_rootOf_6 rfl ?_
      refine Z.if_lt hX 38 dX6_rootOf_8 (by decide) ⟨by omega, by omega⟩ ?_ ?_
      · intro c1
        refine Z.lload_n hX dX6_rootOf_38 rfl rfl ?_
        exact hR _ _ _ _ dX6_rootOf_39 ⟨x, rfl, rfl, ⟨hx.1, by have t_ : (1 : Int) ≤ 2 ^ (i + 1).toNat := Int.pow_pos (by decide); omega, hlo, by have t_ := hhi; rw [show (i + 1).toNat = 0 by omega, Int.pow_zero] at t_; exact t_⟩⟩
      · intro c1
        refine Z.lload_n hX dX6_rootOf_11 rfl rfl ?_
        refine Z.lconst (v := 1) hX dX6_rootOf_12 rfl ?_
        refine Z.iload hX dX6_rootOf_13 rfl ?_
        refine Z.lshl hX dX6_rootOf_15 rfl ?_
        refine Z.topl (fun y2 ey2 => ?_)
        have hy2 := p2 (by omega) ey2
        obtain ⟨hs1, hs2, hs3⟩ := rqa_s (by omega) hx hy2
        refine Z.ladd hX dX6_rootOf_16 ?_
        refine Z.lstore (lv' := [(6, .long (x + y2)), (5, .int (zI i)), (3, .long x), (0, .long v), (2, .int (zI k))]) hX dX6_rootOf_17 (by decide) rfl ?_
        refine Z.lload hX dX6_rootOf_19 rfl ?_
        refine Z.iload_n hX dX6_rootOf_21 rfl rfl ?_
        refine Z.lload_n hX dX6_rootOf_22 rfl rfl ?_
        refine Z.callS0i (As := [.long (x + y2), .int (zI k), .long v]) (rest := []) hX (ct_X6_isPowerWithin_w l D ce (x + y2) k v (by omega) (by omega) hv0) mc_X6_isPowerWithin ml_X6_170 st_X6_isPowerWithin ini_X6 nd_X6_isPowerWithin ⟨Nat.le_of_ble_eq_true rfl, Nat.le_of_ble_eq_true rfl⟩ ⟨rfl, rfl⟩ ⟨Nat.le_refl _, Nat.le_refl _⟩ rfl (Nat.le_of_ble_eq_true rfl) dX6_rootOf_23 ?_
        rintro r_3 w1 ⟨zp, hr_, hw_, w1_, w2_, w3_⟩
        subst hr_
        refine ⟨hw_, ?_⟩
        refine Z.if_eq hX 32 dX6_rootOf_26 (by decide) ⟨by omega, by omega⟩ ?_ ?_
        · intro c4
          refine Z.iinc (lv' := [(5, .int (zI (i + -1))), (6, .long (x + y2)), (3, .long x), (0, .long v), (2, .int (zI k))]) hX dX6_rootOf_32 rfl (by decide) rfl ?_
          refine Z.goto hX 6 dX6_rootOf_35 (by decide) ?_
          refine Z.pick [0, 2, 3, 4] rfl ?_
          exact ih_6 _ _ (by omega) (by omega) ⟨hx.1, by rw [show (i + -1 + 1).toNat = i.toNat by omega]; omega⟩ hlo (by rw [show (i + -1 + 1).toNat = i.toNat by omega]; have t_ := w3_ (by omega) (by rw [hs1]; omega); rw [hs1] at t_; exact t_)
        · intro c4
          refine Z.lload hX dX6_rootOf_29 rfl ?_
          refine Z.lstore_n (lv' := [(3, .long (x + y2)), (6, .long (x + y2)), (5, .int (zI i)), (0, .long v), (2, .int (zI k))]) hX dX6_rootOf_31 rfl (by decide) rfl ?_
          refine Z.iinc (lv' := [(5, .int (zI (i + -1))), (3, .long (x + y2)), (6, .long (x + y2)), (0, .long v), (2, .int (zI k))]) hX dX6_rootOf_32 rfl (by decide) rfl ?_
          refine Z.goto hX 6 dX6_rootOf_35 (by decide) ?_
          refine Z.pick [0, 1, 3, 4] rfl ?_
          exact ih_6 _ _ (by omega) (by omega) ⟨by rw [hs1]; omega, by rw [show (i + -1 + 1).toNat = i.toNat by omega, hs1]; omega⟩ (w2_ (by omega)).2 (by rw [show (i + -1 + 1).toNat = i.toNat by omega, hs1, ← hs2]; exact hhi)
  refine Z.pick [0, 1, 2, 3] rfl ?_
  exact key_6 _ _ _ (Nat.lt_succ_self _) (by omega) ⟨by decide, by decide⟩ (rqa_z hk2 hv0) (rqa_0 hk2)

set_option maxHeartbeats 4000000 in
set_option maxRecDepth 100000 in
theorem ct_X3_sumOfSizes_w (l : Launch) (D : va_G) (ce : Nat → ClassId) (h pl ar : Nat → Nat) (G : Nat → Int) (L : Nat → Nat → Int64) (B : Nat → Int) (J : Nat → Nat → Int64) (k : Nat) (hk : k < 42) (hB : BOK B) (hsz : sz28 (J k) 28 < 9223372036854775808) : Ct l yX3_sumOfSizes cX3_sumOfSizes 4 (some .long) { frames := 1, cells := 0, slots := 0, locals := 40 } 0 0 D (TY ce) [.ref (pl k)] (cW ce h pl ar G L B J) (QL D (TY ce) (fun r w1 => ∃ r0 : Int64, r = r0 ∧ w1 = cW ce h pl ar G L B J ∧ (r0.toInt = (sz28 (J k) 28 : Int)))) := by
  refine Ct.ofL (by decide) (Nat.le_of_ble_eq_true rfl) ?_
  intro p e s m args below meth c A Q hX hnm hR
  refine Z.pick (lv' := [(0, .ref (pl k))]) [0] rfl ?_
  refine Z.lconst (v := 0) hX dX3_sumOfSizes_0 rfl ?_
  refine Z.lstore_n (lv' := [(1, .long 0), (0, .ref (pl k))]) hX dX3_sumOfSizes_1 rfl (by decide) rfl ?_
  refine Z.iconst hX dX3_sumOfSizes_2 ?_
  refine Z.istore_n (lv' := [(3, .int (zI 0)), (1, .long 0), (0, .ref (pl k))]) hX dX3_sumOfSizes_3 rfl (by decide) rfl ?_
  have key_4 : ∀ (N : Nat), ∀ (i : Int) (x : Int64), (28 - i).toNat < N → (hi : 0 ≤ i ∧ i ≤ 28) → (hx : x.toInt = (sz28 (J k) i.toNat : Int)) → Z p l e { frames := 1, cells := 0, slots := 0, locals := 40 } s m args below meth c D A 4 0 0 Q 4 [(3, .int (zI i)), (1, .long x), (0, .ref (pl k))] [] (cW ce h pl ar G L B J) := by
    intro N
    induction N with
    | zero => intro i x hm; exact absurd hm (Nat.not_lt_zero _)
    | succ N ih_4 =>
      intro i x hm hi hx
      refine Z.iload_n hX dX3_sumOfSizes_4 rfl rfl ?_
      refine Z.bipush hX dX3_sumOfSizes_5 (by decide) ?_
      refine Z.icmp_ge hX 28 dX3_sumOfSizes_7 (by decide) ⟨by omega, by omega⟩ ⟨by omega, by omega⟩ ?_ ?_
      · intro c1
        refine Z.lload_n hX dX3_sumOfSizes_28 rfl rfl ?_
        exact hR _ _ _ _ dX3_sumOfSizes_29 ⟨x, rfl, rfl, (by rw [hx, show i.toNat = 28 by omega])⟩
      · intro c1
        refine Z.lload_n hX dX3_sumOfSizes_10 rfl rfl ?_
        refine Z.aload_n hX dX3_sumOfSizes_11 rfl rfl ?_
        refine Z.getf hX 3 (24 + k) 0 dX3_sumOfSizes_12 (cW_pl (by omega)) rfl inX3 (by decide) fl_X3_9 rfl rfl ?_
        refine Z.iload_n hX dX3_sumOfSizes_15 rfl rfl ?_
        refine Z.laload hX (66 + k) 1 dX3_sumOfSizes_16 (cW_ar (by omega)) rfl (by omega) (by omega) (by decide) ?_
        refine Z.mabs hX dX3_sumOfSizes_17 mm_X3_49 (by decide) (Nat.le_of_ble_eq_true rfl) (Nat.le_refl _) (Nat.le_refl _) ?_
        refine Z.topl (fun y2 ey2 => ?_)
        refine Z.ladd hX dX3_sumOfSizes_20 ?_
        refine Z.lstore_n (lv' := [(1, .long (x + y2)), (3, .int (zI i)), (0, .ref (pl k))]) hX dX3_sumOfSizes_21 rfl (by decide) rfl ?_
        refine Z.iinc (lv' := [(3, .int (zI (i + 1))), (1, .long (x + y2)), (0, .ref (pl k))]) hX dX3_sumOfSizes_22 rfl (by decide) rfl ?_
        refine Z.goto hX 4 dX3_sumOfSizes_25 (by decide) ?_
        refine Z.pick [0, 1, 2] rfl ?_
        exact ih_4 _ _ (by omega) (by omega) (ss_s (by omega) hsz hx (by assumption))
  refine Z.pick [0, 1, 2] rfl ?_
  exact key_4 _ _ _ (Nat.lt_succ_self _) (by omega) rfl

set_option maxHeartbeats 4000000 in
set_option maxRecDepth 100000 in
theorem ct_X3_isSame_w (l : Launch) (D : va_G) (ce : Nat → ClassId) (h pl ar : Nat → Nat) (G : Nat → Int) (L : Nat → Nat → Int64) (B : Nat → Int) (J : Nat → Nat → Int64) (k : Nat) (kt : Nat) (hk : k < 42) (hB : BOK B) (hkt : kt < 42) : Ct l yX3_isSame cX3_isSame 3 (some .boolean) { frames := 0, cells := 0, slots := 0, locals := 0 } 0 0 D (TY ce) [.ref (pl k), .ref (pl kt)] (cW ce h pl ar G L B J) (QI D (TY ce) (fun r w1 => ∃ z : Int, r = zI z ∧ w1 = cW ce h pl ar G L B J ∧ (z = 0 ∨ z = 1) ∧ (z = 1 → ∀ q : Int, 0 ≤ q → q < 28 → J k q.toNat = J kt q.toNat) ∧ (z = 0 → ¬ ∀ q : Int, 0 ≤ q → q < 28 → J k q.toNat = J kt q.toNat))) := by
  refine Ct.ofB (by decide) (Nat.le_of_ble_eq_true rfl) ?_
  intro p e s m args below meth c A Q hX hnm hR
  refine Z.pick (lv' := [(0, .ref (pl k)), (1, .ref (pl kt))]) [0, 1] rfl ?_
  refine Z.iconst hX dX3_isSame_0 ?_
  refine Z.istore_n (lv' := [(2, .int (zI 0)), (0, .ref (pl k)), (1, .ref (pl kt))]) hX dX3_isSame_1 rfl (by decide) rfl ?_
  have key_2 : ∀ (N : Nat), ∀ (i : Int), (28 - i).toNat < N → (hi : 0 ≤ i ∧ i ≤ 28) → (he : ∀ q : Int, 0 ≤ q → q < i → J k q.toNat = J kt q.toNat) → Z p l e { frames := 0, cells := 0, slots := 0, locals := 0 } s m args below meth c D A 3 0 0 Q 2 [(2, .int (zI i)), (1, .ref (pl kt)), (0, .ref (pl k))] [] (cW ce h pl ar G L B J) := by
    intro N
    induction N with
    | zero => intro i hm; exact absurd hm (Nat.not_lt_zero _)
    | succ N ih_2 =>
      intro i hm hi he
      refine Z.iload_n hX dX3_isSame_2 rfl rfl ?_
      refine Z.bipush hX dX3_isSame_3 (by decide) ?_
      refine Z.icmp_ge hX 32 dX3_isSame_5 (by decide) ⟨by omega, by omega⟩ ⟨by omega, by omega⟩ ?_ ?_
      · intro c1
        refine Z.iconst hX dX3_isSame_32 ?_
        exact hR _ _ _ _ dX3_isSame_33 rfl ⟨1, rfl, rfl, (by omega), (fun _ q a b => he q a (by omega)), (fun q => absurd q (by decide))⟩
      · intro c1
        refine Z.aload_n hX dX3_isSame_8 rfl rfl ?_
        refine Z.getf hX 3 (24 + k) 0 dX3_isSame_9 (cW_pl (by omega)) rfl inX3 (by decide) fl_X3_9 rfl rfl ?_
        refine Z.iload_n hX dX3_isSame_12 rfl rfl ?_
        refine Z.laload hX (66 + k) 1 dX3_isSame_13 (cW_ar (by omega)) rfl (by omega) (by omega) (by decide) ?_
        refine Z.aload_n hX dX3_isSame_14 rfl rfl ?_
        refine Z.getf hX 3 (24 + kt) 0 dX3_isSame_15 (cW_pl (by omega)) rfl inX3 (by decide) fl_X3_9 rfl rfl ?_
        refine Z.iload_n hX dX3_isSame_18 rfl rfl ?_
        refine Z.laload hX (66 + kt) 1 dX3_isSame_19 (cW_ar (by omega)) rfl (by omega) (by omega) (by decide) ?_
        refine Z.lcmp_eq hX 26 dX3_isSame_20 dX3_isSame_21 (by decide) ?_ ?_
        · intro c2
          refine Z.iinc (lv' := [(2, .int (zI (i + 1))), (1, .ref (pl kt)), (0, .ref (pl k))]) hX dX3_isSame_26 rfl (by decide) rfl ?_
          refine Z.goto hX 2 dX3_isSame_29 (by decide) ?_
          refine Z.pick [0, 1, 2] rfl ?_
          exact ih_2 _ (by omega) (by omega) (eq_s (by omega) (by assumption) he)
        · intro c2
          refine Z.iconst hX dX3_isSame_24 ?_
          exact hR _ _ _ _ dX3_isSame_25 rfl ⟨0, rfl, rfl, (by omega), (fun q => absurd q (by decide)), (fun _ q => absurd (q i (by omega) (by omega)) (by assumption))⟩
  refine Z.pick [0, 2, 1] rfl ?_
  exact key_2 _ _ (Nat.lt_succ_self _) (by omega) (fun q a b => by omega)

set_option maxHeartbeats 4000000 in
set_option maxRecDepth 100000 in
theorem ct_X3_firstOfBound_w (l : Launch) (D : va_G) (ce : Nat → ClassId) (h pl ar : Nat → Nat) (G : Nat → Int) (L : Nat → Nat → Int64) (B : Nat → Int) (J : Nat → Nat → Int64) (k : Nat) (hk : k < 42) (hB : BOK B) : Ct l yX3_firstOfBound cX3_firstOfBound 2 (some .int) { frames := 1, cells := 0, slots := 0, locals := 21 } 0 0 D (TY ce) [.ref (pl k)] (cW ce h pl ar G L B J) (QI D (TY ce) (fun r w1 => ∃ z : Int, r = zI z ∧ w1 = cW ce h pl ar G L B J ∧ (-1 ≤ z ∧ z ≤ B k) ∧ (0 ≤ z → J k (sl (B k) + z).toNat ≠ 0) ∧ (z = -1 → deg0 (J k) (B k)) ∧ (∀ j : Int, 0 ≤ j → (j < z ∨ z = -1) → j ≤ B k → J k (sl (B k) + j).toNat = 0))) := by
  refine Ct.ofI (by decide) (Nat.le_of_ble_eq_true rfl) ?_
  intro p e s m args below meth c A Q hX hnm hR
  refine Z.pick (lv' := [(0, .ref (pl k))]) [0] rfl ?_
  have hbk := hB k hk
  refine Z.iconst hX dX3_firstOfBound_0 ?_
  refine Z.istore_n (lv' := [(1, .int (zI 0)), (0, .ref (pl k))]) hX dX3_firstOfBound_1 rfl (by decide) rfl ?_
  have key_2 : ∀ (N : Nat), ∀ (i : Int), (B k + 1 - i).toNat < N → (hi : 0 ≤ i ∧ i ≤ B k + 1) → (hz : ∀ j : Int, 0 ≤ j → j < i → J k (sl (B k) + j).toNat = 0) → Z p l e { frames := 1, cells := 0, slots := 0, locals := 21 } s m args below meth c D A 2 0 0 Q 2 [(1, .int (zI i)), (0, .ref (pl k))] [] (cW ce h pl ar G L B J) := by
    intro N
    induction N with
    | zero => intro i hm; exact absurd hm (Nat.not_lt_zero _)
    | succ N ih_2 =>
      intro i hm hi hz
      refine Z.iload_n hX dX3_firstOfBound_2 rfl rfl ?_
      refine Z.aload_n hX dX3_firstOfBound_3 rfl rfl ?_
      refine Z.getf hX 3 (24 + k) 1 dX3_firstOfBound_4 (cW_pl (by omega)) rfl inX3 (by decide) fl_X3_15 rfl rfl ?_
      refine Z.icmp_gt hX 36 dX3_firstOfBound_7 (by decide) ⟨by omega, by omega⟩ ⟨by omega, by omega⟩ ?_ ?_
      · intro c1
        refine Z.iconst hX dX3_firstOfBound_36 ?_
        exact hR _ _ _ _ dX3_firstOfBound_37 ⟨(-1), rfl, rfl, (by omega), (fun q => by omega), (fun _ j a b => hz j a (by omega)), (fun j a b c => hz j a (by omega))⟩
      · intro c1
        refine Z.aload_n hX dX3_firstOfBound_10 rfl rfl ?_
        refine Z.getf hX 3 (24 + k) 0 dX3_firstOfBound_11 (cW_pl (by omega)) rfl inX3 (by decide) fl_X3_9 rfl rfl ?_
        refine Z.aload_n hX dX3_firstOfBound_14 rfl rfl ?_
        refine Z.getf hX 3 (24 + k) 1 dX3_firstOfBound_15 (cW_pl (by omega)) rfl inX3 (by decide) fl_X3_15 rfl rfl ?_
        refine Z.iload_n hX dX3_firstOfBound_18 rfl rfl ?_
        refine Z.callSNi (As := [.int (zI (B k)), .int (zI i)]) (rest := [.ref (ar k)]) hX (ct_X6_slotOf l D ce (B k) i (by omega) (by omega)) mc_X6_slotOf ns_X3_28 st_X6_slotOf ini_X6 nd_X6_slotOf ⟨Nat.le_of_ble_eq_true rfl, Nat.le_of_ble_eq_true rfl⟩ ⟨rfl, rfl⟩ ⟨Nat.le_refl _, Nat.le_refl _⟩ rfl (Nat.le_of_ble_eq_true rfl) dX3_firstOfBound_19 ?_
        rintro r_2 w1 ⟨so, hr_, hw_, eso, hso⟩
        subst hr_
        refine ⟨hw_, ?_⟩
        refine Z.laload hX (66 + k) 1 dX3_firstOfBound_22 (cW_ar (by omega)) rfl (by omega) (by omega) (by decide) ?_
        refine Z.lconst (v := 0) hX dX3_firstOfBound_23 rfl ?_
        refine Z.lcmp_eq hX 30 dX3_firstOfBound_24 dX3_firstOfBound_25 (by decide) ?_ ?_
        · intro c3
          refine Z.iinc (lv' := [(1, .int (zI (i + 1))), (0, .ref (pl k))]) hX dX3_firstOfBound_30 rfl (by decide) rfl ?_
          refine Z.goto hX 2 dX3_firstOfBound_33 (by decide) ?_
          refine Z.pick [0, 1] rfl ?_
          exact ih_2 _ (by omega) (by omega) (dg_s (by omega) (by rw [← eso]; assumption) hz)
        · intro c3
          refine Z.iload_n hX dX3_firstOfBound_28 rfl rfl ?_
          exact hR _ _ _ _ dX3_firstOfBound_29 ⟨i, rfl, rfl, (by omega), (fun _ => by rw [← eso]; assumption), (fun q => by omega), (fun j a b c => hz j a (by omega))⟩
  refine Z.pick [0, 1] rfl ?_
  exact key_2 _ _ (Nat.lt_succ_self _) (by omega) (fun j a b => by omega)

