theorem zL_ge {a b : Int} (ha : -9223372036854775808 ≤ a ∧ a < 9223372036854775808) (hb : -9223372036854775808 ≤ b ∧ b < 9223372036854775808) (h : zL b ≤ zL a) : b ≤ a := (zL_le hb ha).mp h
set_option maxHeartbeats 4000000 in
set_option maxRecDepth 100000 in
theorem ct_X7_isAbove_w (l : Launch) (D : va_G) (ce : Nat → ClassId) (b : Int64) (k : Int) (v : Int64) (hb : 1 ≤ b.toInt) (hk : -2147483648 ≤ k ∧ k < 2147483648) : Ct l yX7_isAbove cX7_isAbove 8 (some .boolean) { frames := 0, cells := 0, slots := 0, locals := 0 } 0 0 D (TY ce) [.long b, .int (zI k), .long v] ([]) (QI D (TY ce) (fun r w1 => ∃ z : Int, r = zI z ∧ w1 = [] ∧ (z = 0 ∨ z = 1) ∧ (z = 0 → 0 ≤ k → b.toInt ^ k.toNat ≤ v.toInt) ∧ (z = 1 → 0 ≤ k → 0 ≤ v.toInt → v.toInt < b.toInt ^ k.toNat))) := by
  refine Ct.ofB (by decide) (Nat.le_of_ble_eq_true rfl) ?_
  intro p e s m args below meth c A Q hX hnm hR
  refine Z.pick (lv' := [(0, .long b), (2, .int (zI k)), (3, .long v)]) [0, 1, 2] rfl ?_
  have hb0 : ¬ b = 0 := fun q => by rw [q] at hb; exact absurd hb (by decide)
  refine Z.lconst (v := 1) hX dX7_isAbove_0 rfl ?_
  refine Z.lstore (lv' := [(5, .long 1), (0, .long b), (2, .int (zI k)), (3, .long v)]) hX dX7_isAbove_1 (by decide) rfl ?_
  refine Z.iconst hX dX7_isAbove_3 ?_
  refine Z.istore (lv' := [(7, .int (zI 0)), (5, .long 1), (0, .long b), (2, .int (zI k)), (3, .long v)]) hX dX7_isAbove_4 (by decide) rfl ?_
  have key_6 : ∀ (N : Nat), ∀ (i : Int) (p0 : Int64), (k - i).toNat < N → (hi : 0 ≤ i ∧ (i ≤ k ∨ i = 0)) → (hp : abI b v p0 i) → Z p l e { frames := 0, cells := 0, slots := 0, locals := 0 } s m args below meth c D A 8 0 0 Q 6 [(7, .int (zI i)), (5, .long p0), (0, .long b), (2, .int (zI k)), (3, .long v)] [] ([]) := by
    intro N
    induction N with
    | zero => intro i p0 hm; exact absurd hm (Nat.not_lt_zero _)
    | succ N ih_6 =>
      intro i p0 hm hi hp
      refine Z.iload hX dX7_isAbove_6 rfl ?_
      refine Z.iload_n hX dX7_isAbove_8 rfl rfl ?_
      refine Z.icmp_ge hX 35 dX7_isAbove_9 (by decide) ⟨by omega, by omega⟩ ⟨by omega, by omega⟩ ?_ ?_
      · intro c1
        refine Z.lload hX dX7_isAbove_35 rfl ?_
        refine Z.lload_n hX dX7_isAbove_37 rfl rfl ?_
        refine Z.lcmp_le hX 46 dX7_isAbove_38 dX7_isAbove_39 (by decide) ?_ ?_
        · intro c2
          refine Z.iconst hX dX7_isAbove_46 ?_
          exact hR _ _ _ _ dX7_isAbove_47 rfl ⟨0, rfl, rfl, (by omega), (fun _ hk0 => abI_e hp (by omega) (by assumption)), (fun q => absurd q (by decide))⟩
        · intro c2
          refine Z.iconst hX dX7_isAbove_42 ?_
          refine Z.goto hX 47 dX7_isAbove_43 (by decide) ?_
          exact hR _ _ _ _ dX7_isAbove_47 rfl ⟨1, rfl, rfl, (by omega), (fun h => absurd h (by omega)), (fun _ hk0 hv => ab_gt2 hp (by omega) (by assumption))⟩
      · intro c1
        refine Z.lload hX dX7_isAbove_12 rfl ?_
        refine Z.lload_n hX dX7_isAbove_14 rfl rfl ?_
        refine Z.lload_n hX dX7_isAbove_15 rfl rfl ?_
        refine Z.ldiv hX dX7_isAbove_16 (by assumption) ?_
        refine Z.lcmp_le hX 23 dX7_isAbove_17 dX7_isAbove_18 (by decide) ?_ ?_
        · intro c3
          refine Z.lload hX dX7_isAbove_23 rfl ?_
          refine Z.lload_n hX dX7_isAbove_25 rfl rfl ?_
          refine Z.lmul hX dX7_isAbove_26 ?_
          refine Z.lstore (lv' := [(5, .long (p0 * b)), (7, .int (zI i)), (0, .long b), (2, .int (zI k)), (3, .long v)]) hX dX7_isAbove_27 (by decide) rfl ?_
          refine Z.iinc (lv' := [(7, .int (zI (i + 1))), (5, .long (p0 * b)), (0, .long b), (2, .int (zI k)), (3, .long v)]) hX dX7_isAbove_29 rfl (by decide) rfl ?_
          refine Z.goto hX 6 dX7_isAbove_32 (by decide) ?_
          refine Z.pick [0, 1, 2, 3, 4] rfl ?_
          exact ih_6 _ _ (by omega) (by omega) (abI_s hb hi.1 hp (by assumption))
        · intro c3
          refine Z.iconst hX dX7_isAbove_21 ?_
          exact hR _ _ _ _ dX7_isAbove_22 rfl ⟨1, rfl, rfl, (by omega), (fun h => absurd h (by omega)), (fun _ _ hv => ab_gt hb (by omega) hp (by assumption) hv)⟩
  refine Z.pick [0, 1, 2, 3, 4] rfl ?_
  exact key_6 _ _ _ (Nat.lt_succ_self _) (by omega) (abI_0 b v)

set_option maxHeartbeats 4000000 in
set_option maxRecDepth 100000 in
theorem ct_X7_rootOf_w (l : Launch) (D : va_G) (ce : Nat → ClassId) (v : Int64) (k : Int) (hk : -2147483648 ≤ k ∧ k < 2147483648) (hk0 : 0 ≤ k) (hk1 : 1 ≤ k) : Ct l yX7_rootOf cX7_rootOf 10 (some .long) { frames := 1, cells := 0, slots := 0, locals := 27 } 0 0 D (TY ce) [.long v, .int (zI k)] ([]) (QL D (TY ce) (fun r w1 => ∃ r0 : Int64, r = r0 ∧ w1 = [] ∧ (r0 = 0 ∨ (1 ≤ r0.toInt ∧ r0.toInt ≤ 2000000000 ∧ r0.toInt ^ k.toNat = v.toInt)) ∧ (r0 = 0 → 0 ≤ v.toInt → ∀ L : Int, 1 ≤ L → L ≤ 2000000000 → ¬ L ^ k.toNat = v.toInt))) := by
  refine Ct.ofL (by decide) (Nat.le_of_ble_eq_true rfl) ?_
  intro p e s m args below meth c A Q hX hnm hR
  refine Z.pick (lv' := [(0, .long v), (2, .int (zI k))]) [0, 1] rfl ?_
  refine Z.lconst (v := 1) hX dX7_rootOf_0 rfl ?_
  refine Z.vall (y := zL 1) rfl ?_
  refine Z.lstore_n (lv' := [(3, .long (zL 1)), (0, .long v), (2, .int (zI k))]) hX dX7_rootOf_1 rfl (by decide) rfl ?_
  refine Z.ldc2 hX dX7_rootOf_2 co_X7_115 ?_
  refine Z.vall (y := zL 2000000000) rfl ?_
  refine Z.lstore (lv' := [(5, .long (zL 2000000000)), (3, .long (zL 1)), (0, .long v), (2, .int (zI k))]) hX dX7_rootOf_5 (by decide) rfl ?_
  have key_7 : ∀ (N : Nat), ∀ (a b : Int), (b - a).toNat < N → (hab : 1 ≤ a ∧ a ≤ b ∧ b ≤ 2000000000) → (hv : a = 1 ∨ a ^ k.toNat ≤ v.toInt) → (hw : 0 ≤ v.toInt → b = 2000000000 ∨ v.toInt < (b + 1) ^ k.toNat) → Z p l e { frames := 1, cells := 0, slots := 0, locals := 27 } s m args below meth c D A 10 0 0 Q 7 [(3, .long (zL a)), (5, .long (zL b)), (0, .long v), (2, .int (zI k))] [] ([]) := by
    intro N
    induction N with
    | zero => intro a b hm; exact absurd hm (Nat.not_lt_zero _)
    | succ N ih_7 =>
      intro a b hm hab hv hw
      refine Z.lload_n hX dX7_rootOf_7 rfl rfl ?_
      refine Z.lload hX dX7_rootOf_8 rfl ?_
      refine Z.lcmp_ge hX 51 dX7_rootOf_10 dX7_rootOf_11 (by decide) ?_ ?_
      · intro c1
        refine Z.lconst (v := 1) hX dX7_rootOf_51 rfl ?_
        refine Z.lstore (lv' := [(7, .long 1), (3, .long (zL a)), (5, .long (zL b)), (0, .long v), (2, .int (zI k))]) hX dX7_rootOf_52 (by decide) rfl ?_
        refine Z.iconst hX dX7_rootOf_54 ?_
        refine Z.istore (lv' := [(9, .int (zI 0)), (7, .long 1), (3, .long (zL a)), (5, .long (zL b)), (0, .long v), (2, .int (zI k))]) hX dX7_rootOf_55 (by decide) rfl ?_
        have key_57 : ∀ (N : Nat), ∀ (i : Int) (q : Int64), (k - i).toNat < N → (hi : 0 ≤ i ∧ (i ≤ k ∨ i = 0)) → (hq : q = lpow (zL a) i.toNat) → Z p l e { frames := 1, cells := 0, slots := 0, locals := 27 } s m args below meth c D A 10 0 0 Q 57 [(9, .int (zI i)), (7, .long q), (3, .long (zL a)), (0, .long v), (2, .int (zI k))] [] ([]) := by
          intro N
          induction N with
          | zero => intro i q hm; exact absurd hm (Nat.not_lt_zero _)
          | succ N ih_57 =>
            intro i q hm hi hq
            refine Z.iload hX dX7_rootOf_57 rfl ?_
            refine Z.iload_n hX dX7_rootOf_59 rfl rfl ?_
            refine Z.icmp_ge hX 75 dX7_rootOf_60 (by decide) ⟨by omega, by omega⟩ ⟨by omega, by omega⟩ ?_ ?_
            · intro c2
              refine Z.lload hX dX7_rootOf_75 rfl ?_
              refine Z.lload_n hX dX7_rootOf_77 rfl rfl ?_
              refine Z.lcmp_ne hX 86 dX7_rootOf_78 dX7_rootOf_79 (by decide) ?_ ?_
              · intro c3
                refine Z.lconst (v := 0) hX dX7_rootOf_86 rfl ?_
                exact hR _ _ _ _ dX7_rootOf_87 ⟨0, rfl, rfl, Or.inl rfl, (fun _ h0 => rt_no hab (zL_ge (by omega) (by omega) (by assumption)) hk1 hv hw hq (by omega) (by assumption) h0)⟩
              · intro c3
                refine Z.lload_n hX dX7_rootOf_82 rfl rfl ?_
                refine Z.goto hX 87 dX7_rootOf_83 (by decide) ?_
                exact hR _ _ _ _ dX7_rootOf_87 ⟨(zL a), rfl, rfl, rt_endz hab hv (by omega) hq (by assumption), (fun e => absurd e (zL_ne0 (by omega)))⟩
            · intro c2
              refine Z.lload hX dX7_rootOf_63 rfl ?_
              refine Z.lload_n hX dX7_rootOf_65 rfl rfl ?_
              refine Z.lmul hX dX7_rootOf_66 ?_
              refine Z.lstore (lv' := [(7, .long (q * (zL a))), (9, .int (zI i)), (3, .long (zL a)), (0, .long v), (2, .int (zI k))]) hX dX7_rootOf_67 (by decide) rfl ?_
              refine Z.iinc (lv' := [(9, .int (zI (i + 1))), (7, .long (q * (zL a))), (3, .long (zL a)), (0, .long v), (2, .int (zI k))]) hX dX7_rootOf_69 rfl (by decide) rfl ?_
              refine Z.goto hX 57 dX7_rootOf_72 (by decide) ?_
              refine Z.pick [0, 1, 2, 3, 4] rfl ?_
              exact ih_57 _ _ (by omega) (by omega) (by rw [hq]; exact lpow_s hi.1)
        refine Z.pick [0, 1, 2, 4, 5] rfl ?_
        exact key_57 _ _ _ (Nat.lt_succ_self _) (by omega) rfl
      · intro c1
        have hlt : a < b := zL_nle (by omega) (by omega) (by assumption)
        refine Z.lload_n hX dX7_rootOf_14 rfl rfl ?_
        refine Z.lload hX dX7_rootOf_15 rfl ?_
        refine Z.ladd hX dX7_rootOf_17 ?_
        refine Z.lconst (v := 1) hX dX7_rootOf_18 rfl ?_
        refine Z.ladd hX dX7_rootOf_19 ?_
        refine Z.ldc2 hX dX7_rootOf_20 co_X7_117 ?_
        refine Z.ldiv hX dX7_rootOf_23 (by decide) ?_
        refine Z.vall (y := zL ((a + b + 1) / 2)) (zL_mid hab) ?_
        refine Z.lstore (lv' := [(7, .long (zL ((a + b + 1) / 2))), (3, .long (zL a)), (5, .long (zL b)), (0, .long v), (2, .int (zI k))]) hX dX7_rootOf_24 (by decide) rfl ?_
        refine Z.lload hX dX7_rootOf_26 rfl ?_
        refine Z.iload_n hX dX7_rootOf_28 rfl rfl ?_
        refine Z.lload_n hX dX7_rootOf_29 rfl rfl ?_
        refine Z.callS0i (As := [.long (zL ((a + b + 1) / 2)), .int (zI k), .long v]) (rest := []) hX (ct_X7_isAbove_w l D ce (zL ((a + b + 1) / 2)) k v (by rw [zL_toInt (by omega) (by omega)]; omega) hk) mc_X7_isAbove ml_X7_119 st_X7_isAbove ini_X7 nd_X7_isAbove ⟨Nat.le_of_ble_eq_true rfl, Nat.le_of_ble_eq_true rfl⟩ ⟨rfl, rfl⟩ ⟨Nat.le_refl _, Nat.le_refl _⟩ rfl (Nat.le_of_ble_eq_true rfl) dX7_rootOf_30 ?_
        rintro r_4 w1 ⟨za, hr_, hw_, ia1, ia2, ia3⟩
        subst hr_
        refine ⟨hw_, ?_⟩
        refine Z.if_eq hX 45 dX7_rootOf_33 (by decide) ⟨by omega, by omega⟩ ?_ ?_
        · intro c5
          refine Z.lload hX dX7_rootOf_45 rfl ?_
          refine Z.lstore_n (lv' := [(3, .long (zL ((a + b + 1) / 2))), (7, .long (zL ((a + b + 1) / 2))), (5, .long (zL b)), (0, .long v), (2, .int (zI k))]) hX dX7_rootOf_47 rfl (by decide) rfl ?_
          refine Z.goto hX 7 dX7_rootOf_48 (by decide) ?_
          refine Z.pick [0, 2, 3, 4] rfl ?_
          exact ih_7 _ _ (by omega) (by omega) (by first | exact hv | exact rt_mid hab (by apply_assumption <;> omega)) hw
        · intro c5
          refine Z.lload hX dX7_rootOf_36 rfl ?_
          refine Z.lconst (v := 1) hX dX7_rootOf_38 rfl ?_
          refine Z.lsub hX dX7_rootOf_39 ?_
          refine Z.vall (y := zL ((a + b + 1) / 2 - 1)) (zL_sub _ 1) ?_
          refine Z.lstore (lv' := [(5, .long (zL ((a + b + 1) / 2 - 1))), (7, .long (zL ((a + b + 1) / 2))), (3, .long (zL a)), (0, .long v), (2, .int (zI k))]) hX dX7_rootOf_40 (by decide) rfl ?_
          refine Z.goto hX 48 dX7_rootOf_42 (by decide) ?_
          refine Z.goto hX 7 dX7_rootOf_48 (by decide) ?_
          refine Z.pick [2, 0, 3, 4] rfl ?_
          exact ih_7 _ _ (by omega) (by omega) (by first | exact hv | exact rt_mid hab (by apply_assumption <;> omega)) (fun h0 => rt_hi (z := 0) hab (ia3 (by omega) hk0 h0))
  refine Z.pick [1, 0, 2, 3] rfl ?_
  exact key_7 _ _ _ (Nat.lt_succ_self _) (by omega) (Or.inl rfl) (fun _ => Or.inl rfl)

set_option maxHeartbeats 4000000 in
set_option maxRecDepth 100000 in
theorem ct_X7_isPower_w (l : Launch) (D : va_G) (ce : Nat → ClassId) (h : Nat → Nat) (F : Nat → Int) (I : Nat → Nat → Int32) (J : Nat → Nat → Int64) (k first : Int) (hk : 2 ≤ k ∧ k ≤ 12) (hf : 0 ≤ first ∧ first < 49) (hd6 : first / 7 + first % 7 ≤ 6) (hs6 : SU (J 6) 6) (hS : sS (fun a b => ci (J 6) (7 * a + b)) ≤ 1152921504606846976) : Ct l yX7_isPower cX7_isPower 18 (some .boolean) { frames := 2, cells := 0, slots := 0, locals := 56 } 0 0 D (TY ce) [.ref (h 0), .int (zI k), .int (zI first)] (rW ce h F I J) (QI D (TY ce) (fun r w1 => ∃ z : Int, ∃ J2 : Nat → Nat → Int64, r = zI z ∧ w1 = rW ce h F I J2 ∧ (z = 0 ∨ z = 1) ∧ (∀ k, k ≠ 7 → k ≠ 8 → k ≠ 9 → J2 k = J k) ∧ (z = 1 → PWz (J2 7) (J 6) k first) ∧ ((∃ E, RT0 (J 6) k first E) → z = 1))) := by
  refine Ct.ofB (by decide) (Nat.le_of_ble_eq_true rfl) ?_
  intro p e s m args below meth c A Q hX hnm hR
  refine Z.pick (lv' := [(0, .ref (h 0)), (1, .int (zI k)), (2, .int (zI first))]) [0, 1, 2] rfl ?_
  refine Z.iload_n hX dX7_isPower_0 rfl rfl ?_
  refine Z.bipush hX dX7_isPower_1 (by decide) ?_
  refine Z.idiv hX dX7_isPower_3 (by omega) (by omega) (by omega) (by omega) ?_
  refine Z.istore_n (lv' := [(3, .int (zI (first / 7))), (0, .ref (h 0)), (1, .int (zI k)), (2, .int (zI first))]) hX dX7_isPower_4 rfl (by decide) rfl ?_
  refine Z.iload_n hX dX7_isPower_5 rfl rfl ?_
  refine Z.bipush hX dX7_isPower_6 (by decide) ?_
  refine Z.irem hX dX7_isPower_8 (by omega) (by omega) (by omega) (by omega) ?_
  refine Z.istore (lv' := [(4, .int (zI (first % 7))), (3, .int (zI (first / 7))), (0, .ref (h 0)), (1, .int (zI k)), (2, .int (zI first))]) hX dX7_isPower_9 (by decide) rfl ?_
  refine Z.iload_n hX dX7_isPower_11 rfl rfl ?_
  refine Z.iload_n hX dX7_isPower_12 rfl rfl ?_
  refine Z.irem hX dX7_isPower_13 (by omega) (by omega) (by omega) (by omega) ?_
  refine Z.if_ne hX 24 dX7_isPower_14 (by decide) (zR_mod hk) ?_ ?_
  · intro c1
    refine Z.iconst hX dX7_isPower_24 ?_
    exact hR _ _ _ _ dX7_isPower_25 rfl ⟨0, J, rfl, rfl, (by omega), (fun j_ h_7 h_8 h_9 => rfl), (fun q => absurd q (by decide)), (fun q => absurd (rt_mod hk.1 hf q) (by omega))⟩
  · intro c1
    refine Z.iload hX dX7_isPower_17 rfl ?_
    refine Z.iload_n hX dX7_isPower_19 rfl rfl ?_
    refine Z.irem hX dX7_isPower_20 (by omega) (by omega) (by omega) (by omega) ?_
    refine Z.if_eq hX 26 dX7_isPower_21 (by decide) (zR_mod hk) ?_ ?_
    · intro c2
      refine Z.aload_n hX dX7_isPower_26 rfl rfl ?_
      refine Z.getf hX 7 0 13 dX7_isPower_27 rfl rfl inX7 (by decide) fl_X7_42 rfl rfl ?_
      refine Z.iload_n hX dX7_isPower_30 rfl rfl ?_
      refine Z.laload hX 11 1 dX7_isPower_31 rfl rfl (by omega) (by omega) (by decide) ?_
      refine Z.iload_n hX dX7_isPower_32 rfl rfl ?_
      refine Z.callS0l (As := [.long (J 6 (first : Int).toNat), .int (zI k)]) (rest := []) hX (ct_X7_rootOf_w l D ce (J 6 (first : Int).toNat) k (by omega) (by omega) (by omega)) mc_X7_rootOf ml_X7_123 st_X7_rootOf ini_X7 nd_X7_rootOf ⟨Nat.le_of_ble_eq_true rfl, Nat.le_of_ble_eq_true rfl⟩ ⟨rfl, rfl⟩ ⟨Nat.le_refl _, Nat.le_refl _⟩ rfl (Nat.le_of_ble_eq_true rfl) dX7_isPower_33 ?_
      rintro lead w1 ⟨r04, hr_, hw_, hl, hlno⟩
      subst hr_
      refine ⟨hw_, ?_⟩
      refine Z.lstore (lv' := [(5, .long lead), (4, .int (zI (first % 7))), (3, .int (zI (first / 7))), (0, .ref (h 0)), (1, .int (zI k)), (2, .int (zI first))]) hX dX7_isPower_36 (by decide) rfl ?_
      refine Z.lload hX dX7_isPower_38 rfl ?_
      refine Z.lconst (v := 0) hX dX7_isPower_40 rfl ?_
      refine Z.lcmp_ne hX 47 dX7_isPower_41 dX7_isPower_42 (by decide) ?_ ?_
      · intro c5
        obtain ⟨hl1, hl2, hl3⟩ := hl.resolve_left (by assumption)
        refine Z.iconst hX dX7_isPower_47 ?_
        refine Z.istore (lv' := [(7, .int (zI 0)), (5, .long lead), (4, .int (zI (first % 7))), (3, .int (zI (first / 7))), (0, .ref (h 0)), (1, .int (zI k)), (2, .int (zI first))]) hX dX7_isPower_48 (by decide) rfl ?_
        have key_50 : ∀ (N : Nat), ∀ (i : Int) (M : Nat → Nat → Int64), (49 - i).toNat < N → (hi : 0 ≤ i ∧ i ≤ 49) → (hM : ∀ k, k ≠ 7 → k ≠ 8 → k ≠ 9 → M k = J k) → (hz : ∀ q : Int, 0 ≤ q → q < i → M 7 q.toNat = 0) → Z p l e { frames := 2, cells := 0, slots := 0, locals := 56 } s m args below meth c D A 18 0 0 Q 50 [(1, .int (zI k)), (2, .int (zI first)), (3, .int (zI (first / 7))), (4, .int (zI (first % 7))), (5, .long lead), (0, .ref (h 0)), (7, .int (zI i))] [] (rW ce h F I M) := by
          intro N
          induction N with
          | zero => intro i M hm; exact absurd hm (Nat.not_lt_zero _)
          | succ N ih_50 =>
            intro i M hm hi hM hz
            refine Z.iload hX dX7_isPower_50 rfl ?_
            refine Z.bipush hX dX7_isPower_52 (by decide) ?_
            refine Z.icmp_ge hX 71 dX7_isPower_54 (by decide) ⟨by omega, by omega⟩ ⟨by omega, by omega⟩ ?_ ?_
            · intro c6
              refine Z.iload_n hX dX7_isPower_71 rfl rfl ?_
              refine Z.iload_n hX dX7_isPower_72 rfl rfl ?_
              refine Z.idiv hX dX7_isPower_73 (by omega) (by omega) (by omega) (by omega) ?_
              obtain ⟨ri, eri⟩ : ∃ x, x = first / 7 / k := ⟨_, rfl⟩
              rw [← eri]
              have hri := ip_div (a := first / 7) (k := k) (by omega) hk
              rw [← eri] at hri
              refine Z.istore (lv' := [(7, .int (zI ri)), (1, .int (zI k)), (2, .int (zI first)), (3, .int (zI (first / 7))), (4, .int (zI (first % 7))), (5, .long lead), (0, .ref (h 0))]) hX dX7_isPower_74 (by decide) rfl ?_
              refine Z.iload hX dX7_isPower_76 rfl ?_
              refine Z.iload_n hX dX7_isPower_78 rfl rfl ?_
              refine Z.idiv hX dX7_isPower_79 (by omega) (by omega) (by omega) (by omega) ?_
              obtain ⟨rj, erj⟩ : ∃ x, x = first % 7 / k := ⟨_, rfl⟩
              rw [← erj]
              have hrj := ip_div (a := first % 7) (k := k) (by omega) hk
              rw [← erj] at hrj
              have hk1 : k * ri = first / 7 := ip_ex eri (by first | assumption | omega)
              have hk2 : k * rj = first % 7 := ip_ex erj (by first | assumption | omega)
              have hkD : k * (ri + rj) = first / 7 + first % 7 := by rw [Int.mul_add, hk1, hk2]
              have hr6 : 0 ≤ ri ∧ 0 ≤ rj ∧ ri + rj ≤ 6 := ip_r6 hk.1 (by omega) (by omega) hkD hd6
              obtain ⟨hdi, hdj, hkri, hkrj⟩ := fi_div hk.1 hf hk1 hk2 hr6.1 hr6.2.1
              refine Z.istore (lv' := [(8, .int (zI rj)), (7, .int (zI ri)), (1, .int (zI k)), (2, .int (zI first)), (3, .int (zI (first / 7))), (4, .int (zI (first % 7))), (5, .long lead), (0, .ref (h 0))]) hX dX7_isPower_80 (by decide) rfl ?_
              refine Z.aload_n hX dX7_isPower_82 rfl rfl ?_
              refine Z.getf hX 7 0 14 dX7_isPower_83 rfl rfl inX7 (by decide) fl_X7_45 rfl rfl ?_
              refine Z.bipush hX dX7_isPower_86 (by decide) ?_
              refine Z.iload hX dX7_isPower_88 rfl ?_
              refine Z.imul hX dX7_isPower_90 ?_
              refine Z.iload hX dX7_isPower_91 rfl ?_
              refine Z.iadd hX dX7_isPower_93 ?_
              refine Z.lload hX dX7_isPower_94 rfl ?_
              refine Z.lastore hX 12 1 dX7_isPower_96 rfl rfl (by omega) (by omega) (by decide) ?_
              obtain ⟨J7, eJ7⟩ : ∃ J' : Nat → Nat → Int64, J' = va_up M 7 (vp_updL (M 7) ((7 * ri) + rj : Int).toNat (lead)) := ⟨_, rfl⟩
              refine Z.toW (w' := rW ce h F I J7) (by rw [eJ7]; rfl) ?_
              have gJ7 : J7 7 = vp_updL (M 7) ((7 * ri) + rj : Int).toNat (lead) := by rw [eJ7]; exact up_eq
              have fJ7 : ∀ j_, j_ ≠ 7 → J7 j_ = M j_ := fun j_ hj_ => by rw [eJ7]; exact up_ne hj_
              refine Z.iload_n hX dX7_isPower_97 rfl rfl ?_
              refine Z.i2l hX dX7_isPower_98 ⟨by omega, by omega⟩ ?_
              refine Z.lstore (lv' := [(9, .long (zL k)), (8, .int (zI rj)), (7, .int (zI ri)), (1, .int (zI k)), (2, .int (zI first)), (3, .int (zI (first / 7))), (4, .int (zI (first % 7))), (5, .long lead), (0, .ref (h 0))]) hX dX7_isPower_99 (by decide) rfl ?_
              refine Z.iconst hX dX7_isPower_101 ?_
              refine Z.istore (lv' := [(11, .int (zI 1)), (9, .long (zL k)), (8, .int (zI rj)), (7, .int (zI ri)), (1, .int (zI k)), (2, .int (zI first)), (3, .int (zI (first / 7))), (4, .int (zI (first % 7))), (5, .long lead), (0, .ref (h 0))]) hX dX7_isPower_102 (by decide) rfl ?_
              have key_104 : ∀ (N : Nat), ∀ (n : Int) (u : Int64) (M : Nat → Nat → Int64), (k - n).toNat < N → (hn : 1 ≤ n ∧ n ≤ k) → (hu : u = zL (k * lead.toInt ^ (n - 1).toNat)) → (hM : ∀ k, k ≠ 7 → k ≠ 8 → k ≠ 9 → M k = J k) → (hsu : SU (M 7) (ri + rj)) → (hbd : RZ (M 7) k ri rj lead) → (hpt : ∀ E, RT0 (J 6) k first E → PRt (M 7) E ri rj (ri + rj) (ri + rj)) → Z p l e { frames := 2, cells := 0, slots := 0, locals := 56 } s m args below meth c D A 18 0 0 Q 104 [(1, .int (zI k)), (2, .int (zI first)), (5, .long lead), (7, .int (zI ri)), (8, .int (zI rj)), (9, .long u), (0, .ref (h 0)), (11, .int (zI n))] [] (rW ce h F I M) := by
                intro N
                induction N with
                | zero => intro n u M hm; exact absurd hm (Nat.not_lt_zero _)
                | succ N ih_104 =>
                  intro n u M hm hn hu hM hsu hbd hpt
                  refine Z.iload hX dX7_isPower_104 rfl ?_
                  refine Z.iload_n hX dX7_isPower_106 rfl rfl ?_
                  refine Z.icmp_ge hX 123 dX7_isPower_107 (by decide) ⟨by omega, by omega⟩ ⟨by omega, by omega⟩ ?_ ?_
                  · intro c8
                    have hu0 : ¬ u = 0 := by rw [hu, show n = k by omega]; exact ip_un hk hl1 hl2 (Int.le_of_eq hl3)
                    have hu1 : k ≤ u.toInt := by rw [hu, show n = k by omega]; exact ip_uv hk hl1 hl2 (Int.le_of_eq hl3)
                    have hu2 : u.toInt = k * lead.toInt ^ (k - 1).toNat := by rw [hu, show n = k by omega]; exact ip_uz hk hl1 hl2 hl3
                    refine Z.iload hX dX7_isPower_123 rfl ?_
                    refine Z.iload hX dX7_isPower_125 rfl ?_
                    refine Z.iadd hX dX7_isPower_127 ?_
                    refine Z.istore (lv' := [(11, .int (zI (ri + rj))), (1, .int (zI k)), (2, .int (zI first)), (5, .long lead), (7, .int (zI ri)), (8, .int (zI rj)), (9, .long u), (0, .ref (h 0))]) hX dX7_isPower_128 (by decide) rfl ?_
                    refine Z.iload hX dX7_isPower_130 rfl ?_
                    refine Z.istore (lv' := [(12, .int (zI (ri + rj))), (11, .int (zI (ri + rj))), (1, .int (zI k)), (2, .int (zI first)), (5, .long lead), (7, .int (zI ri)), (8, .int (zI rj)), (9, .long u), (0, .ref (h 0))]) hX dX7_isPower_132 (by decide) rfl ?_
                    have key_134 : ∀ (N : Nat), ∀ (ev : Int) (M : Nat → Nat → Int64), (ev + 1).toNat < N → (he : -1 ≤ ev ∧ ev ≤ ri + rj) → (hM : ∀ k, k ≠ 7 → k ≠ 8 → k ≠ 9 → M k = J k) → (hsu : SU (M 7) (ri + rj)) → (hbd : RZ (M 7) k ri rj lead) → (hpt : ∀ E, RT0 (J 6) k first E → PRt (M 7) E ri rj (ev) (ev)) → Z p l e { frames := 2, cells := 0, slots := 0, locals := 56 } s m args below meth c D A 18 0 0 Q 134 [(1, .int (zI k)), (2, .int (zI first)), (5, .long lead), (7, .int (zI ri)), (8, .int (zI rj)), (9, .long u), (11, .int (zI (ri + rj))), (12, .int (zI ev)), (0, .ref (h 0))] [] (rW ce h F I M) := by
                      intro N
                      induction N with
                      | zero => intro ev M hm; exact absurd hm (Nat.not_lt_zero _)
                      | succ N ih_134 =>
                        intro ev M hm he hM hsu hbd hpt
                        refine Z.iload hX dX7_isPower_134 rfl ?_
                        refine Z.if_lt hX 299 dX7_isPower_136 (by decide) ⟨by omega, by omega⟩ ?_ ?_
                        · intro c9
                          refine Z.aload_n hX dX7_isPower_299 rfl rfl ?_
                          refine Z.iload_n hX dX7_isPower_300 rfl rfl ?_
                          refine Z.callVfv (As := [.int (zI k)]) (rest := []) hX 7 0 rfl rfl (ct_X7_raise_y l D ce h F I M k (ri + rj) (by omega) ⟨by omega, by rw [hkD]; exact hd6⟩ hsu) mc_X7_raise ml_X7_127 im_X7_raise se_X7_raise ini_X7 nd_X7_raise ⟨Nat.le_of_ble_eq_true rfl, Nat.le_of_ble_eq_true rfl⟩ ⟨rfl, rfl⟩ ⟨Nat.le_refl _, Nat.le_refl _⟩ rfl (Nat.le_of_ble_eq_true rfl) dX7_isPower_301 ?_
                          rintro w1 ⟨Je, hw_, hx1, hx2⟩
                          subst hw_
                          refine Z.iconst hX dX7_isPower_304 ?_
                          refine Z.istore (lv' := [(12, .int (zI 0)), (1, .int (zI k)), (2, .int (zI first)), (5, .long lead), (7, .int (zI ri)), (8, .int (zI rj)), (9, .long u), (11, .int (zI (ri + rj))), (0, .ref (h 0))]) hX dX7_isPower_305 (by decide) rfl ?_
                          have key_307 : ∀ (N : Nat), ∀ (q : Int), (49 - q).toNat < N → (hq : 0 ≤ q ∧ q ≤ 49) → (heq : ∀ x : Int, 0 ≤ x → x < q → Je 8 x.toNat = Je 6 x.toNat) → Z p l e { frames := 2, cells := 0, slots := 0, locals := 56 } s m args below meth c D A 18 0 0 Q 307 [(1, .int (zI k)), (0, .ref (h 0)), (12, .int (zI q))] [] (rW ce h F I Je) := by
                            intro N
                            induction N with
                            | zero => intro q hm; exact absurd hm (Nat.not_lt_zero _)
                            | succ N ih_307 =>
                              intro q hm hq heq
                              refine Z.iload hX dX7_isPower_307 rfl ?_
                              refine Z.bipush hX dX7_isPower_309 (by decide) ?_
                              refine Z.icmp_ge hX 340 dX7_isPower_311 (by decide) ⟨by omega, by omega⟩ ⟨by omega, by omega⟩ ?_ ?_
                              · intro c11
                                refine Z.iconst hX dX7_isPower_340 ?_
                                exact hR _ _ _ _ dX7_isPower_341 rfl ⟨1, Je, rfl, rfl, (by omega), (fun j_ h_7 h_8 h_9 => ((hx1 j_ h_8 h_9).trans (hM j_ h_7 h_8 h_9))), (fun _ => ⟨ri, rj, lead, hr6.1, hr6.2.1, hk1, hk2, by rw [hx1 7 (by decide) (by decide)]; exact hsu, by rw [hx1 7 (by decide) (by decide)]; exact hbd, hl1, hl3, by rw [hx1 7 (by decide) (by decide), ← hM 6 (by decide) (by decide) (by decide), ← hx1 6 (by decide) (by decide)]; exact hx2.sy.tr (CG.ex (pw_eq (fun x a b => heq x a (by omega))))⟩), (fun _ => rfl)⟩
                              · intro c11
                                refine Z.aload_n hX dX7_isPower_314 rfl rfl ?_
                                refine Z.getf hX 7 0 15 dX7_isPower_315 rfl rfl inX7 (by decide) fl_X7_48 rfl rfl ?_
                                refine Z.iload hX dX7_isPower_318 rfl ?_
                                refine Z.laload hX 13 1 dX7_isPower_320 rfl rfl (by omega) (by omega) (by decide) ?_
                                refine Z.aload_n hX dX7_isPower_321 rfl rfl ?_
                                refine Z.getf hX 7 0 13 dX7_isPower_322 rfl rfl inX7 (by decide) fl_X7_42 rfl rfl ?_
                                refine Z.iload hX dX7_isPower_325 rfl ?_
                                refine Z.laload hX 11 1 dX7_isPower_327 rfl rfl (by omega) (by omega) (by decide) ?_
                                refine Z.lcmp_eq hX 334 dX7_isPower_328 dX7_isPower_329 (by decide) ?_ ?_
                                · intro c12
                                  refine Z.iinc (lv' := [(12, .int (zI (q + 1))), (1, .int (zI k)), (0, .ref (h 0))]) hX dX7_isPower_334 rfl (by decide) rfl ?_
                                  refine Z.goto hX 307 dX7_isPower_337 (by decide) ?_
                                  refine Z.pick [1, 2, 0] rfl ?_
                                  exact ih_307 _ (by omega) (by omega) (eq_s (by omega) (by assumption) heq)
                                · intro c12
                                  refine Z.iconst hX dX7_isPower_332 ?_
                                  exact hR _ _ _ _ dX7_isPower_333 rfl ⟨0, Je, rfl, rfl, (by omega), (fun j_ h_7 h_8 h_9 => ((hx1 j_ h_8 h_9).trans (hM j_ h_7 h_8 h_9))), (fun q => absurd q (by decide)), (fun hq_ => by obtain ⟨E, hE⟩ := hq_; exact absurd (ip_end (f6 := Je 6) hk.1 hkD hd6 hr6 (by rw [hx1 6 (by decide) (by decide), hM 6 (by decide) (by decide) (by decide)]; exact hs6) hsu hx2 (by rw [hx1 6 (by decide) (by decide), hM 6 (by decide) (by decide) (by decide)]; exact hE) (hpt E hE) (by omega) q (by omega) (by omega)) (by assumption))⟩
                          refine Z.pick [1, 8, 0] rfl ?_
                          exact key_307 _ _ (Nat.lt_succ_self _) (by omega) (fun x a b => by omega)
                        · intro c9
                          refine Z.iload hX dX7_isPower_139 rfl ?_
                          refine Z.istore (lv' := [(13, .int (zI ev)), (1, .int (zI k)), (2, .int (zI first)), (5, .long lead), (7, .int (zI ri)), (8, .int (zI rj)), (9, .long u), (11, .int (zI (ri + rj))), (12, .int (zI ev)), (0, .ref (h 0))]) hX dX7_isPower_141 (by decide) rfl ?_
                          have key_143 : ∀ (N : Nat), ∀ (i : Int) (M : Nat → Nat → Int64), (i + 1).toNat < N → (hi : -1 ≤ i ∧ i ≤ ev) → (hM : ∀ k, k ≠ 7 → k ≠ 8 → k ≠ 9 → M k = J k) → (hsu : SU (M 7) (ri + rj)) → (hbd : RZ (M 7) k ri rj lead) → (hpt : ∀ E, RT0 (J 6) k first E → PRt (M 7) E ri rj (ev) (i)) → Z p l e { frames := 2, cells := 0, slots := 0, locals := 56 } s m args below meth c D A 18 0 0 Q 143 [(1, .int (zI k)), (2, .int (zI first)), (5, .long lead), (7, .int (zI ri)), (8, .int (zI rj)), (9, .long u), (11, .int (zI (ri + rj))), (12, .int (zI ev)), (13, .int (zI i)), (0, .ref (h 0))] [] (rW ce h F I M) := by
                            intro N
                            induction N with
                            | zero => intro i M hm; exact absurd hm (Nat.not_lt_zero _)
                            | succ N ih_143 =>
                              intro i M hm hi hM hsu hbd hpt
                              refine Z.iload hX dX7_isPower_143 rfl ?_
                              refine Z.if_lt hX 293 dX7_isPower_145 (by decide) ⟨by omega, by omega⟩ ?_ ?_
                              · intro c13
                                refine Z.iinc (lv' := [(12, .int (zI (ev + -1))), (1, .int (zI k)), (2, .int (zI first)), (5, .long lead), (7, .int (zI ri)), (8, .int (zI rj)), (9, .long u), (11, .int (zI (ri + rj))), (13, .int (zI i)), (0, .ref (h 0))]) hX dX7_isPower_293 rfl (by decide) rfl ?_
                                refine Z.goto hX 134 dX7_isPower_296 (by decide) ?_
                                refine Z.pick [1, 2, 3, 4, 5, 6, 7, 0, 9] rfl ?_
                                exact ih_134 _ _ (by omega) (by omega) (fun j_ h_7 h_8 h_9 => (hM j_ h_7 h_8 h_9)) hsu hbd (fun E hE => PRt_c (fun _ _ _ => rfl) (hpt E hE) (fun a b hab => by unfold PRc; omega))
                              · intro c13
                                have key_167 : ∀ (bh : Int), (hbh : (bh = 0 ∧ ¬ (ev < ri + rj ∨ i < ri)) ∨ (bh = 1 ∧ (ev < ri + rj ∨ i < ri))) → Z p l e { frames := 2, cells := 0, slots := 0, locals := 56 } s m args below meth c D A 18 0 0 Q 167 [(1, .int (zI k)), (2, .int (zI first)), (5, .long lead), (7, .int (zI ri)), (8, .int (zI rj)), (9, .long u), (11, .int (zI (ri + rj))), (12, .int (zI ev)), (13, .int (zI i)), (0, .ref (h 0))] [.int (zI bh)] (rW ce h F I M) := by
                                  intro bh hbh
                                  refine Z.istore (lv' := [(14, .int (zI bh)), (1, .int (zI k)), (2, .int (zI first)), (5, .long lead), (7, .int (zI ri)), (8, .int (zI rj)), (9, .long u), (11, .int (zI (ri + rj))), (12, .int (zI ev)), (13, .int (zI i)), (0, .ref (h 0))]) hX dX7_isPower_167 (by decide) rfl ?_
                                  refine Z.bipush hX dX7_isPower_169 (by decide) ?_
                                  refine Z.iload hX dX7_isPower_171 rfl ?_
                                  refine Z.iload_n hX dX7_isPower_173 rfl rfl ?_
                                  refine Z.iconst hX dX7_isPower_174 ?_
                                  refine Z.isub hX dX7_isPower_175 ?_
                                  refine Z.iload hX dX7_isPower_176 rfl ?_
                                  refine Z.imul hX dX7_isPower_178 ?_
                                  refine Z.iadd hX dX7_isPower_179 ?_
                                  refine Z.imul hX dX7_isPower_180 ?_
                                  refine Z.iload hX dX7_isPower_181 rfl ?_
                                  refine Z.iadd hX dX7_isPower_183 ?_
                                  refine Z.iload hX dX7_isPower_184 rfl ?_
                                  refine Z.isub hX dX7_isPower_186 ?_
                                  refine Z.iload_n hX dX7_isPower_187 rfl rfl ?_
                                  refine Z.iconst hX dX7_isPower_188 ?_
                                  refine Z.isub hX dX7_isPower_189 ?_
                                  refine Z.iload hX dX7_isPower_190 rfl ?_
                                  refine Z.imul hX dX7_isPower_192 ?_
                                  refine Z.iadd hX dX7_isPower_193 ?_
                                  refine Z.istore (lv' := [(15, .int (zI ((((7 * (i + ((k - 1) * ri))) + ev) - i) + ((k - 1) * rj)))), (14, .int (zI bh)), (1, .int (zI k)), (2, .int (zI first)), (5, .long lead), (7, .int (zI ri)), (8, .int (zI rj)), (9, .long u), (11, .int (zI (ri + rj))), (12, .int (zI ev)), (13, .int (zI i)), (0, .ref (h 0))]) hX dX7_isPower_194 (by decide) rfl ?_
                                  have key_287 : ∀ (M : Nat → Nat → Int64), (hM : ∀ k, k ≠ 7 → k ≠ 8 → k ≠ 9 → M k = J k) → (hsu : SU (M 7) (ri + rj)) → (hbd : RZ (M 7) k ri rj lead) → (hpt : ∀ E, RT0 (J 6) k first E → PRt (M 7) E ri rj (ev) (i + -1)) → Z p l e { frames := 2, cells := 0, slots := 0, locals := 56 } s m args below meth c D A 18 0 0 Q 287 [(1, .int (zI k)), (2, .int (zI first)), (5, .long lead), (7, .int (zI ri)), (8, .int (zI rj)), (9, .long u), (11, .int (zI (ri + rj))), (12, .int (zI ev)), (13, .int (zI i)), (0, .ref (h 0))] [] (rW ce h F I M) := by
                                    intro M hM hsu hbd hpt
                                    refine Z.iinc (lv' := [(13, .int (zI (i + -1))), (1, .int (zI k)), (2, .int (zI first)), (5, .long lead), (7, .int (zI ri)), (8, .int (zI rj)), (9, .long u), (11, .int (zI (ri + rj))), (12, .int (zI ev)), (0, .ref (h 0))]) hX dX7_isPower_287 rfl (by decide) rfl ?_
                                    refine Z.goto hX 143 dX7_isPower_290 (by decide) ?_
                                    refine Z.pick [1, 2, 3, 4, 5, 6, 7, 8, 0, 9] rfl ?_
                                    exact ih_143 _ _ (by omega) (by omega) (fun j_ h_7 h_8 h_9 => (hM j_ h_7 h_8 h_9)) hsu hbd hpt
                                  refine Z.iload hX dX7_isPower_196 rfl ?_
                                  refine Z.if_eq hX 287 dX7_isPower_198 (by decide) ⟨by omega, by omega⟩ ?_ ?_
                                  · intro c14
                                    refine Z.pick [2, 3, 4, 5, 6, 7, 8, 9, 10, 11] rfl ?_
                                    exact key_287 _ (fun j_ h_7 h_8 h_9 => (hM j_ h_7 h_8 h_9)) hsu hbd (fun E hE => PRt_k hk.1 hf hk1 hk2 hr6 (by omega) (by omega) hE (hpt E hE))
                                  · intro c14
                                    refine Z.iload hX dX7_isPower_201 rfl ?_
                                    refine Z.iload_n hX dX7_isPower_203 rfl rfl ?_
                                    refine Z.iconst hX dX7_isPower_204 ?_
                                    refine Z.isub hX dX7_isPower_205 ?_
                                    refine Z.iload hX dX7_isPower_206 rfl ?_
                                    refine Z.imul hX dX7_isPower_208 ?_
                                    refine Z.iadd hX dX7_isPower_209 ?_
                                    refine Z.bipush hX dX7_isPower_210 (by decide) ?_
                                    refine Z.icmp_ge hX 287 dX7_isPower_212 (by decide) ⟨by omega, by omega⟩ ⟨by omega, by omega⟩ ?_ ?_
                                    · intro c15
                                      refine Z.pick [2, 3, 4, 5, 6, 7, 8, 9, 10, 11] rfl ?_
                                      exact key_287 _ (fun j_ h_7 h_8 h_9 => (hM j_ h_7 h_8 h_9)) hsu hbd (by exfalso; omega)
                                    · intro c15
                                      refine Z.iload hX dX7_isPower_215 rfl ?_
                                      refine Z.iload hX dX7_isPower_217 rfl ?_
                                      refine Z.isub hX dX7_isPower_219 ?_
                                      refine Z.iload_n hX dX7_isPower_220 rfl rfl ?_
                                      refine Z.iconst hX dX7_isPower_221 ?_
                                      refine Z.isub hX dX7_isPower_222 ?_
                                      refine Z.iload hX dX7_isPower_223 rfl ?_
                                      refine Z.imul hX dX7_isPower_225 ?_
                                      refine Z.iadd hX dX7_isPower_226 ?_
                                      refine Z.bipush hX dX7_isPower_227 (by decide) ?_
                                      refine Z.icmp_ge hX 287 dX7_isPower_229 (by decide) ⟨by omega, by omega⟩ ⟨by omega, by omega⟩ ?_ ?_
                                      · intro c16
                                        refine Z.pick [2, 3, 4, 5, 6, 7, 8, 9, 10, 11] rfl ?_
                                        exact key_287 _ (fun j_ h_7 h_8 h_9 => (hM j_ h_7 h_8 h_9)) hsu hbd (by exfalso; omega)
                                      · intro c16
                                        refine Z.aload_n hX dX7_isPower_232 rfl rfl ?_
                                        refine Z.iload_n hX dX7_isPower_233 rfl rfl ?_
                                        refine Z.callVfv (As := [.int (zI k)]) (rest := []) hX 7 0 rfl rfl (ct_X7_raise_y l D ce h F I M k (ri + rj) (by omega) ⟨by omega, by rw [hkD]; exact hd6⟩ hsu) mc_X7_raise ml_X7_127 im_X7_raise se_X7_raise ini_X7 nd_X7_raise ⟨Nat.le_of_ble_eq_true rfl, Nat.le_of_ble_eq_true rfl⟩ ⟨rfl, rfl⟩ ⟨Nat.le_refl _, Nat.le_refl _⟩ rfl (Nat.le_of_ble_eq_true rfl) dX7_isPower_234 ?_
                                        rintro w1 ⟨Jr, hw_, hr1, hr2⟩
                                        subst hw_
                                        refine Z.aload_n hX dX7_isPower_237 rfl rfl ?_
                                        refine Z.getf hX 7 0 13 dX7_isPower_238 rfl rfl inX7 (by decide) fl_X7_42 rfl rfl ?_
                                        refine Z.iload hX dX7_isPower_241 rfl ?_
                                        refine Z.laload hX 11 1 dX7_isPower_243 rfl rfl (by omega) (by omega) (by decide) ?_
                                        refine Z.aload_n hX dX7_isPower_244 rfl rfl ?_
                                        refine Z.getf hX 7 0 15 dX7_isPower_245 rfl rfl inX7 (by decide) fl_X7_48 rfl rfl ?_
                                        refine Z.iload hX dX7_isPower_248 rfl ?_
                                        refine Z.laload hX 13 1 dX7_isPower_250 rfl rfl (by omega) (by omega) (by decide) ?_
                                        refine Z.lsub hX dX7_isPower_251 ?_
                                        refine Z.lstore (lv' := [(16, .long ((Jr 6 ((((7 * (i + ((k - 1) * ri))) + ev) - i) + ((k - 1) * rj) : Int).toNat) - (Jr 8 ((((7 * (i + ((k - 1) * ri))) + ev) - i) + ((k - 1) * rj) : Int).toNat))), (15, .int (zI ((((7 * (i + ((k - 1) * ri))) + ev) - i) + ((k - 1) * rj)))), (14, .int (zI bh)), (1, .int (zI k)), (2, .int (zI first)), (5, .long lead), (7, .int (zI ri)), (8, .int (zI rj)), (9, .long u), (11, .int (zI (ri + rj))), (12, .int (zI ev)), (13, .int (zI i)), (0, .ref (h 0))]) hX dX7_isPower_252 (by decide) rfl ?_
                                        obtain ⟨lf, elf⟩ : ∃ x : Int64, x = (Jr 6 ((((7 * (i + ((k - 1) * ri))) + ev) - i) + ((k - 1) * rj) : Int).toNat) - (Jr 8 ((((7 * (i + ((k - 1) * ri))) + ev) - i) + ((k - 1) * rj) : Int).toNat) := ⟨_, rfl⟩
                                        rw [← elf]
                                        have hdig : ∀ E, RT0 (J 6) k first E → (lf / u).toInt = E (7 * i.toNat + (ev - i).toNat) ∧ lf - lf / u * u = 0 := fun E hE => ip_dig (r := M 7) hk hf hd6 hk1 hk2 hkD hr6 (by omega) (by omega) hS (Nat.le_refl _) hsu hbd.1 hr2 hu2 hu1 (by rw [elf, hr1 6 (by decide) (by decide), hM 6 (by decide) (by decide) (by decide)]) hE (hpt E hE)
                                        refine Z.lload hX dX7_isPower_254 rfl ?_
                                        refine Z.lload hX dX7_isPower_256 rfl ?_
                                        refine Z.lrem hX dX7_isPower_258 hu0 ?_
                                        refine Z.lconst (v := 0) hX dX7_isPower_259 rfl ?_
                                        refine Z.lcmp_eq hX 266 dX7_isPower_260 dX7_isPower_261 (by decide) ?_ ?_
                                        · intro c18
                                          refine Z.aload_n hX dX7_isPower_266 rfl rfl ?_
                                          refine Z.getf hX 7 0 14 dX7_isPower_267 rfl rfl inX7 (by decide) fl_X7_45 rfl rfl ?_
                                          refine Z.bipush hX dX7_isPower_270 (by decide) ?_
                                          refine Z.iload hX dX7_isPower_272 rfl ?_
                                          refine Z.imul hX dX7_isPower_274 ?_
                                          refine Z.iload hX dX7_isPower_275 rfl ?_
                                          refine Z.iadd hX dX7_isPower_277 ?_
                                          refine Z.iload hX dX7_isPower_278 rfl ?_
                                          refine Z.isub hX dX7_isPower_280 ?_
                                          refine Z.lload hX dX7_isPower_281 rfl ?_
                                          refine Z.lload hX dX7_isPower_283 rfl ?_
                                          refine Z.ldiv hX dX7_isPower_285 hu0 ?_
                                          refine Z.lastore hX 12 1 dX7_isPower_286 rfl rfl (by omega) (by omega) (by decide) ?_
                                          obtain ⟨J19, eJ19⟩ : ∃ J' : Nat → Nat → Int64, J' = va_up Jr 7 (vp_updL (Jr 7) (((7 * i) + ev) - i : Int).toNat (lf / u)) := ⟨_, rfl⟩
                                          refine Z.toW (w' := rW ce h F I J19) (by rw [eJ19]; rfl) ?_
                                          have gJ19 : J19 7 = vp_updL (Jr 7) (((7 * i) + ev) - i : Int).toNat (lf / u) := by rw [eJ19]; exact up_eq
                                          have fJ19 : ∀ j_, j_ ≠ 7 → J19 j_ = Jr j_ := fun j_ hj_ => by rw [eJ19]; exact up_ne hj_
                                          refine Z.pick [3, 4, 5, 6, 7, 8, 9, 10, 11, 12] rfl ?_
                                          exact key_287 _ (fun j_ h_7 h_8 h_9 => ((fJ19 j_ h_7).trans ((hr1 j_ h_8 h_9).trans (hM j_ h_7 h_8 h_9)))) (SU_u (by omega) (by omega) gJ19 (by rw [hr1 7 (by decide) (by decide)]; exact hsu)) (RZ_u (i := i) (ev := ev) (by omega) (by omega) hr6 (by omega) gJ19 (ip_qz hk.1 hu1 hu2) (by rw [hr1 7 (by decide) (by decide)]; exact hbd)) (fun E hE => PRt_d hr6 (by omega) (by omega) (by omega) gJ19 (hdig E hE).1 (PRt_c (fun q _ _ => by rw [hr1 7 (by decide) (by decide)]) (hpt E hE) (fun _ _ _ => Iff.rfl)))
                                        · intro c18
                                          refine Z.iconst hX dX7_isPower_264 ?_
                                          exact hR _ _ _ _ dX7_isPower_265 rfl ⟨0, Jr, rfl, rfl, (by omega), (fun j_ h_7 h_8 h_9 => ((hr1 j_ h_8 h_9).trans (hM j_ h_7 h_8 h_9))), (fun q => absurd q (by decide)), (fun q => by obtain ⟨E, hE⟩ := q; exact absurd (hdig E hE).2 (by assumption))⟩
                                refine Z.iload hX dX7_isPower_148 rfl ?_
                                refine Z.iload hX dX7_isPower_150 rfl ?_
                                refine Z.icmp_lt hX 162 dX7_isPower_152 (by decide) ⟨by omega, by omega⟩ ⟨by omega, by omega⟩ ?_ ?_
                                · intro c20
                                  refine Z.iconst hX dX7_isPower_162 ?_
                                  refine Z.goto hX 167 dX7_isPower_163 (by decide) ?_
                                  refine Z.pick [0, 1, 2, 3, 4, 5, 6, 7, 8, 9] rfl ?_
                                  exact key_167 _ (by omega)
                                · intro c20
                                  refine Z.iload hX dX7_isPower_155 rfl ?_
                                  refine Z.iload hX dX7_isPower_157 rfl ?_
                                  refine Z.icmp_ge hX 166 dX7_isPower_159 (by decide) ⟨by omega, by omega⟩ ⟨by omega, by omega⟩ ?_ ?_
                                  · intro c21
                                    refine Z.iconst hX dX7_isPower_166 ?_
                                    refine Z.pick [0, 1, 2, 3, 4, 5, 6, 7, 8, 9] rfl ?_
                                    exact key_167 _ (by omega)
                                  · intro c21
                                    refine Z.iconst hX dX7_isPower_162 ?_
                                    refine Z.goto hX 167 dX7_isPower_163 (by decide) ?_
                                    refine Z.pick [0, 1, 2, 3, 4, 5, 6, 7, 8, 9] rfl ?_
                                    exact key_167 _ (by omega)
                          refine Z.pick [1, 2, 3, 4, 5, 6, 7, 8, 0, 9] rfl ?_
                          exact key_143 _ _ _ (Nat.lt_succ_self _) (by omega) (fun j_ h_7 h_8 h_9 => (hM j_ h_7 h_8 h_9)) hsu hbd hpt
                    refine Z.pick [2, 3, 4, 5, 6, 7, 1, 0, 8] rfl ?_
                    exact key_134 _ _ _ (Nat.lt_succ_self _) (by omega) (fun j_ h_7 h_8 h_9 => (hM j_ h_7 h_8 h_9)) hsu hbd hpt
                  · intro c8
                    refine Z.lload hX dX7_isPower_110 rfl ?_
                    refine Z.lload hX dX7_isPower_112 rfl ?_
                    refine Z.lmul hX dX7_isPower_114 ?_
                    refine Z.lstore (lv' := [(9, .long (u * lead)), (1, .int (zI k)), (2, .int (zI first)), (5, .long lead), (7, .int (zI ri)), (8, .int (zI rj)), (0, .ref (h 0)), (11, .int (zI n))]) hX dX7_isPower_115 (by decide) rfl ?_
                    refine Z.iinc (lv' := [(11, .int (zI (n + 1))), (9, .long (u * lead)), (1, .int (zI k)), (2, .int (zI first)), (5, .long lead), (7, .int (zI ri)), (8, .int (zI rj)), (0, .ref (h 0))]) hX dX7_isPower_117 rfl (by decide) rfl ?_
                    refine Z.goto hX 104 dX7_isPower_120 (by decide) ?_
                    refine Z.pick [2, 3, 4, 5, 6, 1, 7, 0] rfl ?_
                    exact ih_104 _ _ _ (by omega) (by omega) (ip_us hn.1 hu) (fun j_ h_7 h_8 h_9 => (hM j_ h_7 h_8 h_9)) hsu hbd hpt
              refine Z.pick [4, 5, 8, 3, 2, 1, 9, 0] rfl ?_
              exact key_104 _ _ _ _ (Nat.lt_succ_self _) (by omega) (by rw [show ((1 : Int) - 1).toNat = 0 by rfl, Int.pow_zero, Int.mul_one]) (fun j_ h_7 h_8 h_9 => ((fJ7 j_ h_7).trans (hM j_ h_7 h_8 h_9))) (SU_u (by omega) (by omega) gJ7 (SU_z (fun q a b => hz q a (by omega)))) (RZ_0 hr6 gJ7 (fun q a b => hz q a (by omega))) (fun E hE => PRt_0 hk.1 hf hd6 hk1 hk2 hr6 hS (Nat.le_refl _) gJ7 (fun q a b => hz q a (by omega)) hl1 hl3 hE)
            · intro c6
              refine Z.aload_n hX dX7_isPower_57 rfl rfl ?_
              refine Z.getf hX 7 0 14 dX7_isPower_58 rfl rfl inX7 (by decide) fl_X7_45 rfl rfl ?_
              refine Z.iload hX dX7_isPower_61 rfl ?_
              refine Z.lconst (v := 0) hX dX7_isPower_63 rfl ?_
              refine Z.lastore hX 12 1 dX7_isPower_64 rfl rfl (by omega) (by omega) (by decide) ?_
              obtain ⟨J22, eJ22⟩ : ∃ J' : Nat → Nat → Int64, J' = va_up M 7 (vp_updL (M 7) (i : Int).toNat (0)) := ⟨_, rfl⟩
              refine Z.toW (w' := rW ce h F I J22) (by rw [eJ22]; rfl) ?_
              have gJ22 : J22 7 = vp_updL (M 7) (i : Int).toNat (0) := by rw [eJ22]; exact up_eq
              have fJ22 : ∀ j_, j_ ≠ 7 → J22 j_ = M j_ := fun j_ hj_ => by rw [eJ22]; exact up_ne hj_
              refine Z.iinc (lv' := [(7, .int (zI (i + 1))), (1, .int (zI k)), (2, .int (zI first)), (3, .int (zI (first / 7))), (4, .int (zI (first % 7))), (5, .long lead), (0, .ref (h 0))]) hX dX7_isPower_65 rfl (by decide) rfl ?_
              refine Z.goto hX 50 dX7_isPower_68 (by decide) ?_
              refine Z.pick [1, 2, 3, 4, 5, 6, 0] rfl ?_
              exact ih_50 _ _ (by omega) (by omega) (fun j_ h_7 h_8 h_9 => ((fJ22 j_ h_7).trans (hM j_ h_7 h_8 h_9))) (z_fill hi.1 gJ22 hz)
        refine Z.pick [5, 6, 3, 2, 1, 4, 0] rfl ?_
        exact key_50 _ _ _ (Nat.lt_succ_self _) (by omega) (fun j_ h_7 h_8 h_9 => rfl) (fun q a b => by omega)
      · intro c5
        refine Z.iconst hX dX7_isPower_45 ?_
        exact hR _ _ _ _ dX7_isPower_46 rfl ⟨0, J, rfl, rfl, (by omega), (fun j_ h_7 h_8 h_9 => rfl), (fun q => absurd q (by decide)), (fun q => by obtain ⟨E, hE⟩ := q; obtain ⟨L, m1, m2, m3, _⟩ := rt_lead hk.1 hf hd6 hS (Nat.le_refl _) hE; exact absurd m3 (hlno (by assumption) (by rw [← m3]; exact Int.le_of_lt (Int.pow_pos (by omega))) L m1 m2))⟩
    · intro c2
      refine Z.iconst hX dX7_isPower_24 ?_
      exact hR _ _ _ _ dX7_isPower_25 rfl ⟨0, J, rfl, rfl, (by omega), (fun j_ h_7 h_8 h_9 => rfl), (fun q => absurd q (by decide)), (fun q => absurd (rt_mod hk.1 hf q) (by omega))⟩

