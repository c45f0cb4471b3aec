set_option maxHeartbeats 4000000 in
set_option maxRecDepth 100000 in
theorem ct_X7_rootOf_z (l : Launch) (D : va_G) (ce : Nat → ClassId) (v : Int64) (k : Int) (hk : -2147483648 ≤ k ∧ k < 2147483648) (hk0 : 0 ≤ k) : Ct l yX7_rootOf cX7_rootOf 10 (some .long) { frames := 1, cells := 0, slots := 0, locals := 27 } 0 0 D (TY ce) [.long v, .int (zI k)] ([]) (QL D (TY ce) (fun r w1 => ∃ r0 : Int64, r = r0 ∧ w1 = [] ∧ (r0 = 0 ∨ (1 ≤ r0.toInt ∧ r0.toInt ≤ 2000000000 ∧ r0.toInt ^ k.toNat = v.toInt)))) := by
  refine Ct.ofL (by decide) (Nat.le_of_ble_eq_true rfl) ?_
  intro p e s m args below meth c A Q hX hnm hR
  refine Z.pick (lv' := [(0, .long v), (2, .int (zI k))]) [0, 1] rfl ?_
  refine Z.lconst (v := 1) hX dX7_rootOf_0 rfl ?_
  refine Z.vall (y := zL 1) rfl ?_
  refine Z.lstore_n (lv' := [(3, .long (zL 1)), (0, .long v), (2, .int (zI k))]) hX dX7_rootOf_1 rfl (by decide) rfl ?_
  refine Z.ldc2 hX dX7_rootOf_2 co_X7_115 ?_
  refine Z.vall (y := zL 2000000000) rfl ?_
  refine Z.lstore (lv' := [(5, .long (zL 2000000000)), (3, .long (zL 1)), (0, .long v), (2, .int (zI k))]) hX dX7_rootOf_5 (by decide) rfl ?_
  have key_7 : ∀ (N : Nat), ∀ (a b : Int), (b - a).toNat < N → (hab : 1 ≤ a ∧ a ≤ b ∧ b ≤ 2000000000) → (hv : a = 1 ∨ a ^ k.toNat ≤ v.toInt) → Z p l e { frames := 1, cells := 0, slots := 0, locals := 27 } s m args below meth c D A 10 0 0 Q 7 [(3, .long (zL a)), (5, .long (zL b)), (0, .long v), (2, .int (zI k))] [] ([]) := by
    intro N
    induction N with
    | zero => intro a b hm; exact absurd hm (Nat.not_lt_zero _)
    | succ N ih_7 =>
      intro a b hm hab hv
      refine Z.lload_n hX dX7_rootOf_7 rfl rfl ?_
      refine Z.lload hX dX7_rootOf_8 rfl ?_
      refine Z.lcmp_ge hX 51 dX7_rootOf_10 dX7_rootOf_11 (by decide) ?_ ?_
      · intro c1
        refine Z.lconst (v := 1) hX dX7_rootOf_51 rfl ?_
        refine Z.lstore (lv' := [(7, .long 1), (3, .long (zL a)), (5, .long (zL b)), (0, .long v), (2, .int (zI k))]) hX dX7_rootOf_52 (by decide) rfl ?_
        refine Z.iconst hX dX7_rootOf_54 ?_
        refine Z.istore (lv' := [(9, .int (zI 0)), (7, .long 1), (3, .long (zL a)), (5, .long (zL b)), (0, .long v), (2, .int (zI k))]) hX dX7_rootOf_55 (by decide) rfl ?_
        have key_57 : ∀ (N : Nat), ∀ (i : Int) (q : Int64), (k - i).toNat < N → (hi : 0 ≤ i ∧ (i ≤ k ∨ i = 0)) → (hq : q = lpow (zL a) i.toNat) → Z p l e { frames := 1, cells := 0, slots := 0, locals := 27 } s m args below meth c D A 10 0 0 Q 57 [(9, .int (zI i)), (7, .long q), (3, .long (zL a)), (0, .long v), (2, .int (zI k))] [] ([]) := by
          intro N
          induction N with
          | zero => intro i q hm; exact absurd hm (Nat.not_lt_zero _)
          | succ N ih_57 =>
            intro i q hm hi hq
            refine Z.iload hX dX7_rootOf_57 rfl ?_
            refine Z.iload_n hX dX7_rootOf_59 rfl rfl ?_
            refine Z.icmp_ge hX 75 dX7_rootOf_60 (by decide) ⟨by omega, by omega⟩ ⟨by omega, by omega⟩ ?_ ?_
            · intro c2
              refine Z.lload hX dX7_rootOf_75 rfl ?_
              refine Z.lload_n hX dX7_rootOf_77 rfl rfl ?_
              refine Z.lcmp_ne hX 86 dX7_rootOf_78 dX7_rootOf_79 (by decide) ?_ ?_
              · intro c3
                refine Z.lconst (v := 0) hX dX7_rootOf_86 rfl ?_
                exact hR _ _ _ _ dX7_rootOf_87 ⟨0, rfl, rfl, Or.inl rfl⟩
              · intro c3
                refine Z.lload_n hX dX7_rootOf_82 rfl rfl ?_
                refine Z.goto hX 87 dX7_rootOf_83 (by decide) ?_
                exact hR _ _ _ _ dX7_rootOf_87 ⟨(zL a), rfl, rfl, rt_endz hab hv (by omega) hq (by assumption)⟩
            · intro c2
              refine Z.lload hX dX7_rootOf_63 rfl ?_
              refine Z.lload_n hX dX7_rootOf_65 rfl rfl ?_
              refine Z.lmul hX dX7_rootOf_66 ?_
              refine Z.lstore (lv' := [(7, .long (q * (zL a))), (9, .int (zI i)), (3, .long (zL a)), (0, .long v), (2, .int (zI k))]) hX dX7_rootOf_67 (by decide) rfl ?_
              refine Z.iinc (lv' := [(9, .int (zI (i + 1))), (7, .long (q * (zL a))), (3, .long (zL a)), (0, .long v), (2, .int (zI k))]) hX dX7_rootOf_69 rfl (by decide) rfl ?_
              refine Z.goto hX 57 dX7_rootOf_72 (by decide) ?_
              refine Z.pick [0, 1, 2, 3, 4] rfl ?_
              exact ih_57 _ _ (by omega) (by omega) (by rw [hq]; exact lpow_s hi.1)
        refine Z.pick [0, 1, 2, 4, 5] rfl ?_
        exact key_57 _ _ _ (Nat.lt_succ_self _) (by omega) rfl
      · intro c1
        have hlt : a < b := zL_nle (by omega) (by omega) (by assumption)
        refine Z.lload_n hX dX7_rootOf_14 rfl rfl ?_
        refine Z.lload hX dX7_rootOf_15 rfl ?_
        refine Z.ladd hX dX7_rootOf_17 ?_
        refine Z.lconst (v := 1) hX dX7_rootOf_18 rfl ?_
        refine Z.ladd hX dX7_rootOf_19 ?_
        refine Z.ldc2 hX dX7_rootOf_20 co_X7_117 ?_
        refine Z.ldiv hX dX7_rootOf_23 (by decide) ?_
        refine Z.vall (y := zL ((a + b + 1) / 2)) (zL_mid hab) ?_
        refine Z.lstore (lv' := [(7, .long (zL ((a + b + 1) / 2))), (3, .long (zL a)), (5, .long (zL b)), (0, .long v), (2, .int (zI k))]) hX dX7_rootOf_24 (by decide) rfl ?_
        refine Z.lload hX dX7_rootOf_26 rfl ?_
        refine Z.iload_n hX dX7_rootOf_28 rfl rfl ?_
        refine Z.lload_n hX dX7_rootOf_29 rfl rfl ?_
        refine Z.callS0i (As := [.long (zL ((a + b + 1) / 2)), .int (zI k), .long v]) (rest := []) hX (ct_X7_isAbove l D ce (zL ((a + b + 1) / 2)) k v (by rw [zL_toInt (by omega) (by omega)]; omega) hk) mc_X7_isAbove ml_X7_119 st_X7_isAbove ini_X7 nd_X7_isAbove ⟨Nat.le_of_ble_eq_true rfl, Nat.le_of_ble_eq_true rfl⟩ ⟨rfl, rfl⟩ ⟨Nat.le_refl _, Nat.le_refl _⟩ rfl (Nat.le_of_ble_eq_true rfl) dX7_rootOf_30 ?_
        rintro r_4 w1 ⟨z5, hr_, hw_, hq6, hq7⟩
        subst hr_
        refine ⟨hw_, ?_⟩
        refine Z.if_eq hX 45 dX7_rootOf_33 (by decide) ⟨by omega, by omega⟩ ?_ ?_
        · intro c8
          refine Z.lload hX dX7_rootOf_45 rfl ?_
          refine Z.lstore_n (lv' := [(3, .long (zL ((a + b + 1) / 2))), (7, .long (zL ((a + b + 1) / 2))), (5, .long (zL b)), (0, .long v), (2, .int (zI k))]) hX dX7_rootOf_47 rfl (by decide) rfl ?_
          refine Z.goto hX 7 dX7_rootOf_48 (by decide) ?_
          refine Z.pick [0, 2, 3, 4] rfl ?_
          exact ih_7 _ _ (by omega) (by omega) (by first | exact hv | exact rt_mid hab (by apply_assumption <;> omega))
        · intro c8
          refine Z.lload hX dX7_rootOf_36 rfl ?_
          refine Z.lconst (v := 1) hX dX7_rootOf_38 rfl ?_
          refine Z.lsub hX dX7_rootOf_39 ?_
          refine Z.vall (y := zL ((a + b + 1) / 2 - 1)) (zL_sub _ 1) ?_
          refine Z.lstore (lv' := [(5, .long (zL ((a + b + 1) / 2 - 1))), (7, .long (zL ((a + b + 1) / 2))), (3, .long (zL a)), (0, .long v), (2, .int (zI k))]) hX dX7_rootOf_40 (by decide) rfl ?_
          refine Z.goto hX 48 dX7_rootOf_42 (by decide) ?_
          refine Z.goto hX 7 dX7_rootOf_48 (by decide) ?_
          refine Z.pick [2, 0, 3, 4] rfl ?_
          exact ih_7 _ _ (by omega) (by omega) (by first | exact hv | exact rt_mid hab (by apply_assumption <;> omega))
  refine Z.pick [1, 0, 2, 3] rfl ?_
  exact key_7 _ _ _ (Nat.lt_succ_self _) (by omega) (Or.inl rfl)

set_option maxHeartbeats 4000000 in
set_option maxRecDepth 100000 in
theorem ct_X7_firstOf_z (l : Launch) (D : va_G) (ce : Nat → ClassId) (ad : Nat) (f : Nat → Int64)  : Ct l yX7_firstOf cX7_firstOf 3 (some .int) { frames := 1, cells := 0, slots := 0, locals := 23 } 0 0 D (TY ce) [.ref ad] ([(ad, .inl (ce 1, 49, .inr (.inl f)))]) (QI D (TY ce) (fun r w1 => ∃ z : Int, r = zI z ∧ w1 = [(ad, .inl (ce 1, 49, .inr (.inl f)))] ∧ ((0 ≤ z ∧ z < 49 ∧ f z.toNat ≠ 0 ∧ (∀ a b : Int, 0 ≤ a → a < 7 → 0 ≤ b → b < 7 → f (7 * a + b).toNat ≠ 0 → a + b ≤ z / 7 + z % 7) ∧ (∀ a b : Int, 0 ≤ a → a < 7 → 0 ≤ b → b < 7 → f (7 * a + b).toNat ≠ 0 → a + b = z / 7 + z % 7 → a ≤ z / 7)) ∨ (z = -1 ∧ ∀ a b : Int, 0 ≤ a → a < 7 → 0 ≤ b → b < 7 → f (7 * a + b).toNat = 0)))) := by
  refine Ct.ofI (by decide) (Nat.le_of_ble_eq_true rfl) ?_
  intro p e s m args below meth c A Q hX hnm hR
  refine Z.pick (lv' := [(0, .ref ad)]) [0] rfl ?_
  refine Z.aload_n hX dX7_firstOf_0 rfl rfl ?_
  refine Z.callS1i (As := [.ref ad]) (rest := []) hX 0 rfl (ct_X7_degree2 l D ce ad f ) mc_X7_degree2 ml_X7_105 st_X7_degree2 ini_X7 nd_X7_degree2 ⟨Nat.le_of_ble_eq_true rfl, Nat.le_of_ble_eq_true rfl⟩ ⟨rfl, rfl⟩ ⟨Nat.le_refl _, Nat.le_refl _⟩ rfl (Nat.le_of_ble_eq_true rfl) dX7_firstOf_1 ?_
  rintro r_1 w1 ⟨d, hr_, hw_, d1, d2, d3⟩
  subst hr_
  refine ⟨_, hw_, ?_⟩
  refine Z.toW (w' := [(ad, .inl (ce 1, 49, .inr (.inl f)))]) rfl ?_
  refine Z.istore_n (lv' := [(1, .int (zI d)), (0, .ref ad)]) hX dX7_firstOf_4 rfl (by decide) rfl ?_
  refine Z.iload_n hX dX7_firstOf_5 rfl rfl ?_
  refine Z.bipush hX dX7_firstOf_6 (by decide) ?_
  refine Z.icmp_ge hX 15 dX7_firstOf_8 (by decide) ⟨by omega, by omega⟩ ⟨by omega, by omega⟩ ?_ ?_
  · intro c2
    refine Z.bipush hX dX7_firstOf_15 (by decide) ?_
    refine Z.istore_n (lv' := [(2, .int (zI 6)), (1, .int (zI d)), (0, .ref ad)]) hX dX7_firstOf_17 rfl (by decide) rfl ?_
    have key_18 : ∀ (N : Nat), ∀ (i : Int), (i + 1).toNat < N → (hi : -1 ≤ i ∧ i ≤ 6 ∧ i ≤ d) → (hn : ∀ a : Int, i < a → a < 7 → 0 ≤ d - a → d - a < 7 → f (7 * a + (d - a)).toNat = 0) → Z p l e { frames := 1, cells := 0, slots := 0, locals := 23 } s m args below meth c D A 3 0 0 Q 18 [(2, .int (zI i)), (1, .int (zI d)), (0, .ref ad)] [] ([(ad, .inl (ce 1, 49, .inr (.inl f)))]) := by
      intro N
      induction N with
      | zero => intro i hm; exact absurd hm (Nat.not_lt_zero _)
      | succ N ih_18 =>
        intro i hm hi hn
        refine Z.iload_n hX dX7_firstOf_18 rfl rfl ?_
        refine Z.if_lt hX 60 dX7_firstOf_19 (by decide) ⟨by omega, by omega⟩ ?_ ?_
        · intro c3
          refine Z.iconst hX dX7_firstOf_60 ?_
          exact hR _ _ _ _ dX7_firstOf_61 ⟨(-1), rfl, rfl, Or.inr ⟨rfl, fo_no hn (by omega) d2 d3⟩⟩
        · intro c3
          refine Z.iload_n hX dX7_firstOf_22 rfl rfl ?_
          refine Z.iload_n hX dX7_firstOf_23 rfl rfl ?_
          refine Z.isub hX dX7_firstOf_24 ?_
          refine Z.bipush hX dX7_firstOf_25 (by decide) ?_
          refine Z.icmp_ge hX 54 dX7_firstOf_27 (by decide) ⟨by omega, by omega⟩ ⟨by omega, by omega⟩ ?_ ?_
          · intro c4
            refine Z.iinc (lv' := [(2, .int (zI (i + -1))), (1, .int (zI d)), (0, .ref ad)]) hX dX7_firstOf_54 rfl (by decide) rfl ?_
            refine Z.goto hX 18 dX7_firstOf_57 (by decide) ?_
            refine Z.pick [0, 1, 2] rfl ?_
            exact ih_18 _ (by omega) (by omega) (fo_s hn (fun h1 h2 => by first | omega | (rw [show 7 * i + (d - i) = 7 * i + d - i by omega]; assumption)))
          · intro c4
            refine Z.aload_n hX dX7_firstOf_30 rfl rfl ?_
            refine Z.bipush hX dX7_firstOf_31 (by decide) ?_
            refine Z.iload_n hX dX7_firstOf_33 rfl rfl ?_
            refine Z.imul hX dX7_firstOf_34 ?_
            refine Z.iload_n hX dX7_firstOf_35 rfl rfl ?_
            refine Z.iadd hX dX7_firstOf_36 ?_
            refine Z.iload_n hX dX7_firstOf_37 rfl rfl ?_
            refine Z.isub hX dX7_firstOf_38 ?_
            refine Z.laload hX 0 1 dX7_firstOf_39 rfl rfl (by omega) (by omega) (by decide) ?_
            refine Z.lconst (v := 0) hX dX7_firstOf_40 rfl ?_
            refine Z.lcmp_eq hX 54 dX7_firstOf_41 dX7_firstOf_42 (by decide) ?_ ?_
            · intro c5
              refine Z.iinc (lv' := [(2, .int (zI (i + -1))), (1, .int (zI d)), (0, .ref ad)]) hX dX7_firstOf_54 rfl (by decide) rfl ?_
              refine Z.goto hX 18 dX7_firstOf_57 (by decide) ?_
              refine Z.pick [0, 1, 2] rfl ?_
              exact ih_18 _ (by omega) (by omega) (fo_s hn (fun h1 h2 => by first | omega | (rw [show 7 * i + (d - i) = 7 * i + d - i by omega]; assumption)))
            · intro c5
              refine Z.bipush hX dX7_firstOf_45 (by decide) ?_
              refine Z.iload_n hX dX7_firstOf_47 rfl rfl ?_
              refine Z.imul hX dX7_firstOf_48 ?_
              refine Z.iload_n hX dX7_firstOf_49 rfl rfl ?_
              refine Z.iadd hX dX7_firstOf_50 ?_
              refine Z.iload_n hX dX7_firstOf_51 rfl rfl ?_
              refine Z.isub hX dX7_firstOf_52 ?_
              exact hR _ _ _ _ dX7_firstOf_53 ⟨(((7 * i) + d) - i), rfl, rfl, Or.inl ⟨by omega, by omega, by assumption, fun a b x1 x2 x3 x4 x5 => by have := d3 a b x1 x2 x3 x4 x5; omega, fun a b x1 x2 x3 x4 x5 x6 => Classical.byContradiction fun y => x5 (by have := hn a (by omega) (by omega) (by omega) (by omega); rw [show b = d - a by omega]; exact this)⟩⟩
    refine Z.pick [0, 1, 2] rfl ?_
    exact key_18 _ _ (Nat.lt_succ_self _) (by omega) (fun a h1 h2 h3 h4 => by omega)
  · intro c2
    refine Z.iload_n hX dX7_firstOf_11 rfl rfl ?_
    refine Z.goto hX 17 dX7_firstOf_12 (by decide) ?_
    refine Z.istore_n (lv' := [(2, .int (zI d)), (1, .int (zI d)), (0, .ref ad)]) hX dX7_firstOf_17 rfl (by decide) rfl ?_
    have key_18 : ∀ (N : Nat), ∀ (i : Int), (i + 1).toNat < N → (hi : -1 ≤ i ∧ i ≤ 6 ∧ i ≤ d) → (hn : ∀ a : Int, i < a → a < 7 → 0 ≤ d - a → d - a < 7 → f (7 * a + (d - a)).toNat = 0) → Z p l e { frames := 1, cells := 0, slots := 0, locals := 23 } s m args below meth c D A 3 0 0 Q 18 [(2, .int (zI i)), (1, .int (zI d)), (0, .ref ad)] [] ([(ad, .inl (ce 1, 49, .inr (.inl f)))]) := by
      intro N
      induction N with
      | zero => intro i hm; exact absurd hm (Nat.not_lt_zero _)
      | succ N ih_18 =>
        intro i hm hi hn
        refine Z.iload_n hX dX7_firstOf_18 rfl rfl ?_
        refine Z.if_lt hX 60 dX7_firstOf_19 (by decide) ⟨by omega, by omega⟩ ?_ ?_
        · intro c6
          refine Z.iconst hX dX7_firstOf_60 ?_
          exact hR _ _ _ _ dX7_firstOf_61 ⟨(-1), rfl, rfl, Or.inr ⟨rfl, fo_no hn (by omega) d2 d3⟩⟩
        · intro c6
          refine Z.iload_n hX dX7_firstOf_22 rfl rfl ?_
          refine Z.iload_n hX dX7_firstOf_23 rfl rfl ?_
          refine Z.isub hX dX7_firstOf_24 ?_
          refine Z.bipush hX dX7_firstOf_25 (by decide) ?_
          refine Z.icmp_ge hX 54 dX7_firstOf_27 (by decide) ⟨by omega, by omega⟩ ⟨by omega, by omega⟩ ?_ ?_
          · intro c7
            refine Z.iinc (lv' := [(2, .int (zI (i + -1))), (1, .int (zI d)), (0, .ref ad)]) hX dX7_firstOf_54 rfl (by decide) rfl ?_
            refine Z.goto hX 18 dX7_firstOf_57 (by decide) ?_
            refine Z.pick [0, 1, 2] rfl ?_
            exact ih_18 _ (by omega) (by omega) (fo_s hn (fun h1 h2 => by first | omega | (rw [show 7 * i + (d - i) = 7 * i + d - i by omega]; assumption)))
          · intro c7
            refine Z.aload_n hX dX7_firstOf_30 rfl rfl ?_
            refine Z.bipush hX dX7_firstOf_31 (by decide) ?_
            refine Z.iload_n hX dX7_firstOf_33 rfl rfl ?_
            refine Z.imul hX dX7_firstOf_34 ?_
            refine Z.iload_n hX dX7_firstOf_35 rfl rfl ?_
            refine Z.iadd hX dX7_firstOf_36 ?_
            refine Z.iload_n hX dX7_firstOf_37 rfl rfl ?_
            refine Z.isub hX dX7_firstOf_38 ?_
            refine Z.laload hX 0 1 dX7_firstOf_39 rfl rfl (by omega) (by omega) (by decide) ?_
            refine Z.lconst (v := 0) hX dX7_firstOf_40 rfl ?_
            refine Z.lcmp_eq hX 54 dX7_firstOf_41 dX7_firstOf_42 (by decide) ?_ ?_
            · intro c8
              refine Z.iinc (lv' := [(2, .int (zI (i + -1))), (1, .int (zI d)), (0, .ref ad)]) hX dX7_firstOf_54 rfl (by decide) rfl ?_
              refine Z.goto hX 18 dX7_firstOf_57 (by decide) ?_
              refine Z.pick [0, 1, 2] rfl ?_
              exact ih_18 _ (by omega) (by omega) (fo_s hn (fun h1 h2 => by first | omega | (rw [show 7 * i + (d - i) = 7 * i + d - i by omega]; assumption)))
            · intro c8
              refine Z.bipush hX dX7_firstOf_45 (by decide) ?_
              refine Z.iload_n hX dX7_firstOf_47 rfl rfl ?_
              refine Z.imul hX dX7_firstOf_48 ?_
              refine Z.iload_n hX dX7_firstOf_49 rfl rfl ?_
              refine Z.iadd hX dX7_firstOf_50 ?_
              refine Z.iload_n hX dX7_firstOf_51 rfl rfl ?_
              refine Z.isub hX dX7_firstOf_52 ?_
              exact hR _ _ _ _ dX7_firstOf_53 ⟨(((7 * i) + d) - i), rfl, rfl, Or.inl ⟨by omega, by omega, by assumption, fun a b x1 x2 x3 x4 x5 => by have := d3 a b x1 x2 x3 x4 x5; omega, fun a b x1 x2 x3 x4 x5 x6 => Classical.byContradiction fun y => x5 (by have := hn a (by omega) (by omega) (by omega) (by omega); rw [show b = d - a by omega]; exact this)⟩⟩
    refine Z.pick [0, 1, 2] rfl ?_
    exact key_18 _ _ (Nat.lt_succ_self _) (by omega) (fun a h1 h2 h3 h4 => by omega)

set_option maxHeartbeats 4000000 in
set_option maxRecDepth 100000 in
theorem ct_X7_isPower_z (l : Launch) (D : va_G) (ce : Nat → ClassId) (h : Nat → Nat) (F : Nat → Int) (I : Nat → Nat → Int32) (J : Nat → Nat → Int64) (k first : Int) (hk : 2 ≤ k ∧ k ≤ 12) (hf : 0 ≤ first ∧ first < 49) (hd6 : first / 7 + first % 7 ≤ 6) : Ct l yX7_isPower cX7_isPower 18 (some .boolean) { frames := 2, cells := 0, slots := 0, locals := 56 } 0 0 D (TY ce) [.ref (h 0), .int (zI k), .int (zI first)] (rW ce h F I J) (QI D (TY ce) (fun r w1 => ∃ z : Int, ∃ J2 : Nat → Nat → Int64, r = zI z ∧ w1 = rW ce h F I J2 ∧ (z = 0 ∨ z = 1) ∧ (∀ k, k ≠ 7 → k ≠ 8 → k ≠ 9 → J2 k = J k) ∧ (z = 1 → PWz (J2 7) (J 6) k first))) := by
  refine Ct.ofB (by decide) (Nat.le_of_ble_eq_true rfl) ?_
  intro p e s m args below meth c A Q hX hnm hR
  refine Z.pick (lv' := [(0, .ref (h 0)), (1, .int (zI k)), (2, .int (zI first))]) [0, 1, 2] rfl ?_
  refine Z.iload_n hX dX7_isPower_0 rfl rfl ?_
  refine Z.bipush hX dX7_isPower_1 (by decide) ?_
  refine Z.idiv hX dX7_isPower_3 (by omega) (by omega) (by omega) (by omega) ?_
  refine Z.istore_n (lv' := [(3, .int (zI (first / 7))), (0, .ref (h 0)), (1, .int (zI k)), (2, .int (zI first))]) hX dX7_isPower_4 rfl (by decide) rfl ?_
  refine Z.iload_n hX dX7_isPower_5 rfl rfl ?_
  refine Z.bipush hX dX7_isPower_6 (by decide) ?_
  refine Z.irem hX dX7_isPower_8 (by omega) (by omega) (by omega) (by omega) ?_
  refine Z.istore (lv' := [(4, .int (zI (first % 7))), (3, .int (zI (first / 7))), (0, .ref (h 0)), (1, .int (zI k)), (2, .int (zI first))]) hX dX7_isPower_9 (by decide) rfl ?_
  refine Z.iload_n hX dX7_isPower_11 rfl rfl ?_
  refine Z.iload_n hX dX7_isPower_12 rfl rfl ?_
  refine Z.irem hX dX7_isPower_13 (by omega) (by omega) (by omega) (by omega) ?_
  refine Z.if_ne hX 24 dX7_isPower_14 (by decide) (zR_mod hk) ?_ ?_
  · intro c1
    refine Z.iconst hX dX7_isPower_24 ?_
    exact hR _ _ _ _ dX7_isPower_25 rfl ⟨0, J, rfl, rfl, (by omega), (fun j_ h_7 h_8 h_9 => rfl), (fun q => absurd q (by decide))⟩
  · intro c1
    refine Z.iload hX dX7_isPower_17 rfl ?_
    refine Z.iload_n hX dX7_isPower_19 rfl rfl ?_
    refine Z.irem hX dX7_isPower_20 (by omega) (by omega) (by omega) (by omega) ?_
    refine Z.if_eq hX 26 dX7_isPower_21 (by decide) (zR_mod hk) ?_ ?_
    · intro c2
      refine Z.aload_n hX dX7_isPower_26 rfl rfl ?_
      refine Z.getf hX 7 0 13 dX7_isPower_27 rfl rfl inX7 (by decide) fl_X7_42 rfl rfl ?_
      refine Z.iload_n hX dX7_isPower_30 rfl rfl ?_
      refine Z.laload hX 11 1 dX7_isPower_31 rfl rfl (by omega) (by omega) (by decide) ?_
      refine Z.iload_n hX dX7_isPower_32 rfl rfl ?_
      refine Z.callS0l (As := [.long (J 6 (first : Int).toNat), .int (zI k)]) (rest := []) hX (ct_X7_rootOf_z l D ce (J 6 (first : Int).toNat) k (by omega) (by omega)) mc_X7_rootOf ml_X7_123 st_X7_rootOf ini_X7 nd_X7_rootOf ⟨Nat.le_of_ble_eq_true rfl, Nat.le_of_ble_eq_true rfl⟩ ⟨rfl, rfl⟩ ⟨Nat.le_refl _, Nat.le_refl _⟩ rfl (Nat.le_of_ble_eq_true rfl) dX7_isPower_33 ?_
      rintro lead w1 ⟨r04, hr_, hw_, hl⟩
      subst hr_
      refine ⟨hw_, ?_⟩
      refine Z.lstore (lv' := [(5, .long lead), (4, .int (zI (first % 7))), (3, .int (zI (first / 7))), (0, .ref (h 0)), (1, .int (zI k)), (2, .int (zI first))]) hX dX7_isPower_36 (by decide) rfl ?_
      refine Z.lload hX dX7_isPower_38 rfl ?_
      refine Z.lconst (v := 0) hX dX7_isPower_40 rfl ?_
      refine Z.lcmp_ne hX 47 dX7_isPower_41 dX7_isPower_42 (by decide) ?_ ?_
      · intro c5
        obtain ⟨hl1, hl2, hl3⟩ := hl.resolve_left (by assumption)
        refine Z.iconst hX dX7_isPower_47 ?_
        refine Z.istore (lv' := [(7, .int (zI 0)), (5, .long lead), (4, .int (zI (first % 7))), (3, .int (zI (first / 7))), (0, .ref (h 0)), (1, .int (zI k)), (2, .int (zI first))]) hX dX7_isPower_48 (by decide) rfl ?_
        have key_50 : ∀ (N : Nat), ∀ (i : Int) (M : Nat → Nat → Int64), (49 - i).toNat < N → (hi : 0 ≤ i ∧ i ≤ 49) → (hM : ∀ k, k ≠ 7 → k ≠ 8 → k ≠ 9 → M k = J k) → (hz : ∀ q : Int, 0 ≤ q → q < i → M 7 q.toNat = 0) → Z p l e { frames := 2, cells := 0, slots := 0, locals := 56 } s m args below meth c D A 18 0 0 Q 50 [(1, .int (zI k)), (2, .int (zI first)), (3, .int (zI (first / 7))), (4, .int (zI (first % 7))), (5, .long lead), (0, .ref (h 0)), (7, .int (zI i))] [] (rW ce h F I M) := by
          intro N
          induction N with
          | zero => intro i M hm; exact absurd hm (Nat.not_lt_zero _)
          | succ N ih_50 =>
            intro i M hm hi hM hz
            refine Z.iload hX dX7_isPower_50 rfl ?_
            refine Z.bipush hX dX7_isPower_52 (by decide) ?_
            refine Z.icmp_ge hX 71 dX7_isPower_54 (by decide) ⟨by omega, by omega⟩ ⟨by omega, by omega⟩ ?_ ?_
            · intro c6
              refine Z.iload_n hX dX7_isPower_71 rfl rfl ?_
              refine Z.iload_n hX dX7_isPower_72 rfl rfl ?_
              refine Z.idiv hX dX7_isPower_73 (by omega) (by omega) (by omega) (by omega) ?_
              obtain ⟨ri, eri⟩ : ∃ x, x = first / 7 / k := ⟨_, rfl⟩
              rw [← eri]
              have hri := ip_div (a := first / 7) (k := k) (by omega) hk
              rw [← eri] at hri
              refine Z.istore (lv' := [(7, .int (zI ri)), (1, .int (zI k)), (2, .int (zI first)), (3, .int (zI (first / 7))), (4, .int (zI (first % 7))), (5, .long lead), (0, .ref (h 0))]) hX dX7_isPower_74 (by decide) rfl ?_
              refine Z.iload hX dX7_isPower_76 rfl ?_
              refine Z.iload_n hX dX7_isPower_78 rfl rfl ?_
              refine Z.idiv hX dX7_isPower_79 (by omega) (by omega) (by omega) (by omega) ?_
              obtain ⟨rj, erj⟩ : ∃ x, x = first % 7 / k := ⟨_, rfl⟩
              rw [← erj]
              have hrj := ip_div (a := first % 7) (k := k) (by omega) hk
              rw [← erj] at hrj
              have hk1 : k * ri = first / 7 := ip_ex eri (by first | assumption | omega)
              have hk2 : k * rj = first % 7 := ip_ex erj (by first | assumption | omega)
              have hkD : k * (ri + rj) = first / 7 + first % 7 := by rw [Int.mul_add, hk1, hk2]
              have hr6 : 0 ≤ ri ∧ 0 ≤ rj ∧ ri + rj ≤ 6 := ip_r6 hk.1 (by omega) (by omega) hkD hd6
              refine Z.istore (lv' := [(8, .int (zI rj)), (7, .int (zI ri)), (1, .int (zI k)), (2, .int (zI first)), (3, .int (zI (first / 7))), (4, .int (zI (first % 7))), (5, .long lead), (0, .ref (h 0))]) hX dX7_isPower_80 (by decide) rfl ?_
              refine Z.aload_n hX dX7_isPower_82 rfl rfl ?_
              refine Z.getf hX 7 0 14 dX7_isPower_83 rfl rfl inX7 (by decide) fl_X7_45 rfl rfl ?_
              refine Z.bipush hX dX7_isPower_86 (by decide) ?_
              refine Z.iload hX dX7_isPower_88 rfl ?_
              refine Z.imul hX dX7_isPower_90 ?_
              refine Z.iload hX dX7_isPower_91 rfl ?_
              refine Z.iadd hX dX7_isPower_93 ?_
              refine Z.lload hX dX7_isPower_94 rfl ?_
              refine Z.lastore hX 12 1 dX7_isPower_96 rfl rfl (by omega) (by omega) (by decide) ?_
              obtain ⟨J7, eJ7⟩ : ∃ J' : Nat → Nat → Int64, J' = va_up M 7 (vp_updL (M 7) ((7 * ri) + rj : Int).toNat (lead)) := ⟨_, rfl⟩
              refine Z.toW (w' := rW ce h F I J7) (by rw [eJ7]; rfl) ?_
              have gJ7 : J7 7 = vp_updL (M 7) ((7 * ri) + rj : Int).toNat (lead) := by rw [eJ7]; exact up_eq
              have fJ7 : ∀ j_, j_ ≠ 7 → J7 j_ = M j_ := fun j_ hj_ => by rw [eJ7]; exact up_ne hj_
              refine Z.iload_n hX dX7_isPower_97 rfl rfl ?_
              refine Z.i2l hX dX7_isPower_98 ⟨by omega, by omega⟩ ?_
              refine Z.lstore (lv' := [(9, .long (zL k)), (8, .int (zI rj)), (7, .int (zI ri)), (1, .int (zI k)), (2, .int (zI first)), (3, .int (zI (first / 7))), (4, .int (zI (first % 7))), (5, .long lead), (0, .ref (h 0))]) hX dX7_isPower_99 (by decide) rfl ?_
              refine Z.iconst hX dX7_isPower_101 ?_
              refine Z.istore (lv' := [(11, .int (zI 1)), (9, .long (zL k)), (8, .int (zI rj)), (7, .int (zI ri)), (1, .int (zI k)), (2, .int (zI first)), (3, .int (zI (first / 7))), (4, .int (zI (first % 7))), (5, .long lead), (0, .ref (h 0))]) hX dX7_isPower_102 (by decide) rfl ?_
              have key_104 : ∀ (N : Nat), ∀ (n : Int) (u : Int64) (M : Nat → Nat → Int64), (k - n).toNat < N → (hn : 1 ≤ n ∧ n ≤ k) → (hu : u = zL (k * lead.toInt ^ (n - 1).toNat)) → (hM : ∀ k, k ≠ 7 → k ≠ 8 → k ≠ 9 → M k = J k) → (hsu : SU (M 7) (ri + rj)) → (hbd : RZ (M 7) k ri rj lead) → Z p l e { frames := 2, cells := 0, slots := 0, locals := 56 } s m args below meth c D A 18 0 0 Q 104 [(1, .int (zI k)), (2, .int (zI first)), (5, .long lead), (7, .int (zI ri)), (8, .int (zI rj)), (9, .long u), (0, .ref (h 0)), (11, .int (zI n))] [] (rW ce h F I M) := by
                intro N
                induction N with
                | zero => intro n u M hm; exact absurd hm (Nat.not_lt_zero _)
                | succ N ih_104 =>
                  intro n u M hm hn hu hM hsu hbd
                  refine Z.iload hX dX7_isPower_104 rfl ?_
                  refine Z.iload_n hX dX7_isPower_106 rfl rfl ?_
                  refine Z.icmp_ge hX 123 dX7_isPower_107 (by decide) ⟨by omega, by omega⟩ ⟨by omega, by omega⟩ ?_ ?_
                  · intro c8
                    have hu0 : ¬ u = 0 := by rw [hu, show n = k by omega]; exact ip_un hk hl1 hl2 (Int.le_of_eq hl3)
                    have hu1 : k ≤ u.toInt := by rw [hu, show n = k by omega]; exact ip_uv hk hl1 hl2 (Int.le_of_eq hl3)
                    have hu2 : u.toInt = k * lead.toInt ^ (k - 1).toNat := by rw [hu, show n = k by omega]; exact ip_uz hk hl1 hl2 hl3
                    refine Z.iload hX dX7_isPower_123 rfl ?_
                    refine Z.iload hX dX7_isPower_125 rfl ?_
                    refine Z.iadd hX dX7_isPower_127 ?_
                    refine Z.istore (lv' := [(11, .int (zI (ri + rj))), (1, .int (zI k)), (2, .int (zI first)), (5, .long lead), (7, .int (zI ri)), (8, .int (zI rj)), (9, .long u), (0, .ref (h 0))]) hX dX7_isPower_128 (by decide) rfl ?_
                    refine Z.iload hX dX7_isPower_130 rfl ?_
                    refine Z.istore (lv' := [(12, .int (zI (ri + rj))), (11, .int (zI (ri + rj))), (1, .int (zI k)), (2, .int (zI first)), (5, .long lead), (7, .int (zI ri)), (8, .int (zI rj)), (9, .long u), (0, .ref (h 0))]) hX dX7_isPower_132 (by decide) rfl ?_
                    have key_134 : ∀ (N : Nat), ∀ (ev : Int) (M : Nat → Nat → Int64), (ev + 1).toNat < N → (he : -1 ≤ ev ∧ ev ≤ ri + rj) → (hM : ∀ k, k ≠ 7 → k ≠ 8 → k ≠ 9 → M k = J k) → (hsu : SU (M 7) (ri + rj)) → (hbd : RZ (M 7) k ri rj lead) → Z p l e { frames := 2, cells := 0, slots := 0, locals := 56 } s m args below meth c D A 18 0 0 Q 134 [(1, .int (zI k)), (2, .int (zI first)), (5, .long lead), (7, .int (zI ri)), (8, .int (zI rj)), (9, .long u), (11, .int (zI (ri + rj))), (12, .int (zI ev)), (0, .ref (h 0))] [] (rW ce h F I M) := by
                      intro N
                      induction N with
                      | zero => intro ev M hm; exact absurd hm (Nat.not_lt_zero _)
                      | succ N ih_134 =>
                        intro ev M hm he hM hsu hbd
                        refine Z.iload hX dX7_isPower_134 rfl ?_
                        refine Z.if_lt hX 299 dX7_isPower_136 (by decide) ⟨by omega, by omega⟩ ?_ ?_
                        · intro c9
                          refine Z.aload_n hX dX7_isPower_299 rfl rfl ?_
                          refine Z.iload_n hX dX7_isPower_300 rfl rfl ?_
                          refine Z.callVfv (As := [.int (zI k)]) (rest := []) hX 7 0 rfl rfl (ct_X7_raise_y l D ce h F I M k (ri + rj) (by omega) ⟨by omega, by rw [hkD]; exact hd6⟩ hsu) mc_X7_raise ml_X7_127 im_X7_raise se_X7_raise ini_X7 nd_X7_raise ⟨Nat.le_of_ble_eq_true rfl, Nat.le_of_ble_eq_true rfl⟩ ⟨rfl, rfl⟩ ⟨Nat.le_refl _, Nat.le_refl _⟩ rfl (Nat.le_of_ble_eq_true rfl) dX7_isPower_301 ?_
                          rintro w1 ⟨Je, hw_, hx1, hx2⟩
                          subst hw_
                          refine Z.iconst hX dX7_isPower_304 ?_
                          refine Z.istore (lv' := [(12, .int (zI 0)), (1, .int (zI k)), (2, .int (zI first)), (5, .long lead), (7, .int (zI ri)), (8, .int (zI rj)), (9, .long u), (11, .int (zI (ri + rj))), (0, .ref (h 0))]) hX dX7_isPower_305 (by decide) rfl ?_
                          have key_307 : ∀ (N : Nat), ∀ (q : Int), (49 - q).toNat < N → (hq : 0 ≤ q ∧ q ≤ 49) → (heq : ∀ x : Int, 0 ≤ x → x < q → Je 8 x.toNat = Je 6 x.toNat) → Z p l e { frames := 2, cells := 0, slots := 0, locals := 56 } s m args below meth c D A 18 0 0 Q 307 [(1, .int (zI k)), (0, .ref (h 0)), (12, .int (zI q))] [] (rW ce h F I Je) := by
                            intro N
                            induction N with
                            | zero => intro q hm; exact absurd hm (Nat.not_lt_zero _)
                            | succ N ih_307 =>
                              intro q hm hq heq
                              refine Z.iload hX dX7_isPower_307 rfl ?_
                              refine Z.bipush hX dX7_isPower_309 (by decide) ?_
                              refine Z.icmp_ge hX 340 dX7_isPower_311 (by decide) ⟨by omega, by omega⟩ ⟨by omega, by omega⟩ ?_ ?_
                              · intro c11
                                refine Z.iconst hX dX7_isPower_340 ?_
                                exact hR _ _ _ _ dX7_isPower_341 rfl ⟨1, Je, rfl, rfl, (by omega), (fun j_ h_7 h_8 h_9 => ((hx1 j_ h_8 h_9).trans (hM j_ h_7 h_8 h_9))), (fun _ => ⟨ri, rj, lead, hr6.1, hr6.2.1, hk1, hk2, by rw [hx1 7 (by decide) (by decide)]; exact hsu, by rw [hx1 7 (by decide) (by decide)]; exact hbd, hl1, hl3, by rw [hx1 7 (by decide) (by decide), ← hM 6 (by decide) (by decide) (by decide), ← hx1 6 (by decide) (by decide)]; exact hx2.sy.tr (CG.ex (pw_eq (fun x a b => heq x a (by omega))))⟩)⟩
                              · intro c11
                                refine Z.aload_n hX dX7_isPower_314 rfl rfl ?_
                                refine Z.getf hX 7 0 15 dX7_isPower_315 rfl rfl inX7 (by decide) fl_X7_48 rfl rfl ?_
                                refine Z.iload hX dX7_isPower_318 rfl ?_
                                refine Z.laload hX 13 1 dX7_isPower_320 rfl rfl (by omega) (by omega) (by decide) ?_
                                refine Z.aload_n hX dX7_isPower_321 rfl rfl ?_
                                refine Z.getf hX 7 0 13 dX7_isPower_322 rfl rfl inX7 (by decide) fl_X7_42 rfl rfl ?_
                                refine Z.iload hX dX7_isPower_325 rfl ?_
                                refine Z.laload hX 11 1 dX7_isPower_327 rfl rfl (by omega) (by omega) (by decide) ?_
                                refine Z.lcmp_eq hX 334 dX7_isPower_328 dX7_isPower_329 (by decide) ?_ ?_
                                · intro c12
                                  refine Z.iinc (lv' := [(12, .int (zI (q + 1))), (1, .int (zI k)), (0, .ref (h 0))]) hX dX7_isPower_334 rfl (by decide) rfl ?_
                                  refine Z.goto hX 307 dX7_isPower_337 (by decide) ?_
                                  refine Z.pick [1, 2, 0] rfl ?_
                                  exact ih_307 _ (by omega) (by omega) (eq_s (by omega) (by assumption) heq)
                                · intro c12
                                  refine Z.iconst hX dX7_isPower_332 ?_
                                  exact hR _ _ _ _ dX7_isPower_333 rfl ⟨0, Je, rfl, rfl, (by omega), (fun j_ h_7 h_8 h_9 => ((hx1 j_ h_8 h_9).trans (hM j_ h_7 h_8 h_9))), (fun q => absurd q (by decide))⟩
                          refine Z.pick [1, 8, 0] rfl ?_
                          exact key_307 _ _ (Nat.lt_succ_self _) (by omega) (fun x a b => by omega)
                        · intro c9
                          refine Z.iload hX dX7_isPower_139 rfl ?_
                          refine Z.istore (lv' := [(13, .int (zI ev)), (1, .int (zI k)), (2, .int (zI first)), (5, .long lead), (7, .int (zI ri)), (8, .int (zI rj)), (9, .long u), (11, .int (zI (ri + rj))), (12, .int (zI ev)), (0, .ref (h 0))]) hX dX7_isPower_141 (by decide) rfl ?_
                          have key_143 : ∀ (N : Nat), ∀ (i : Int) (M : Nat → Nat → Int64), (i + 1).toNat < N → (hi : -1 ≤ i ∧ i ≤ ev) → (hM : ∀ k, k ≠ 7 → k ≠ 8 → k ≠ 9 → M k = J k) → (hsu : SU (M 7) (ri + rj)) → (hbd : RZ (M 7) k ri rj lead) → Z p l e { frames := 2, cells := 0, slots := 0, locals := 56 } s m args below meth c D A 18 0 0 Q 143 [(1, .int (zI k)), (2, .int (zI first)), (5, .long lead), (7, .int (zI ri)), (8, .int (zI rj)), (9, .long u), (11, .int (zI (ri + rj))), (12, .int (zI ev)), (13, .int (zI i)), (0, .ref (h 0))] [] (rW ce h F I M) := by
                            intro N
                            induction N with
                            | zero => intro i M hm; exact absurd hm (Nat.not_lt_zero _)
                            | succ N ih_143 =>
                              intro i M hm hi hM hsu hbd
                              refine Z.iload hX dX7_isPower_143 rfl ?_
                              refine Z.if_lt hX 293 dX7_isPower_145 (by decide) ⟨by omega, by omega⟩ ?_ ?_
                              · intro c13
                                refine Z.iinc (lv' := [(12, .int (zI (ev + -1))), (1, .int (zI k)), (2, .int (zI first)), (5, .long lead), (7, .int (zI ri)), (8, .int (zI rj)), (9, .long u), (11, .int (zI (ri + rj))), (13, .int (zI i)), (0, .ref (h 0))]) hX dX7_isPower_293 rfl (by decide) rfl ?_
                                refine Z.goto hX 134 dX7_isPower_296 (by decide) ?_
                                refine Z.pick [1, 2, 3, 4, 5, 6, 7, 0, 9] rfl ?_
                                exact ih_134 _ _ (by omega) (by omega) (fun j_ h_7 h_8 h_9 => (hM j_ h_7 h_8 h_9)) hsu hbd
                              · intro c13
                                have key_167 : ∀ (bh : Int), (hbh : bh = 0 ∨ (bh = 1 ∧ (ev < ri + rj ∨ i < ri))) → Z p l e { frames := 2, cells := 0, slots := 0, locals := 56 } s m args below meth c D A 18 0 0 Q 167 [(1, .int (zI k)), (2, .int (zI first)), (5, .long lead), (7, .int (zI ri)), (8, .int (zI rj)), (9, .long u), (11, .int (zI (ri + rj))), (12, .int (zI ev)), (13, .int (zI i)), (0, .ref (h 0))] [.int (zI bh)] (rW ce h F I M) := by
                                  intro bh hbh
                                  refine Z.istore (lv' := [(14, .int (zI bh)), (1, .int (zI k)), (2, .int (zI first)), (5, .long lead), (7, .int (zI ri)), (8, .int (zI rj)), (9, .long u), (11, .int (zI (ri + rj))), (12, .int (zI ev)), (13, .int (zI i)), (0, .ref (h 0))]) hX dX7_isPower_167 (by decide) rfl ?_
                                  refine Z.bipush hX dX7_isPower_169 (by decide) ?_
                                  refine Z.iload hX dX7_isPower_171 rfl ?_
                                  refine Z.iload_n hX dX7_isPower_173 rfl rfl ?_
                                  refine Z.iconst hX dX7_isPower_174 ?_
                                  refine Z.isub hX dX7_isPower_175 ?_
                                  refine Z.iload hX dX7_isPower_176 rfl ?_
                                  refine Z.imul hX dX7_isPower_178 ?_
                                  refine Z.iadd hX dX7_isPower_179 ?_
                                  refine Z.imul hX dX7_isPower_180 ?_
                                  refine Z.iload hX dX7_isPower_181 rfl ?_
                                  refine Z.iadd hX dX7_isPower_183 ?_
                                  refine Z.iload hX dX7_isPower_184 rfl ?_
                                  refine Z.isub hX dX7_isPower_186 ?_
                                  refine Z.iload_n hX dX7_isPower_187 rfl rfl ?_
                                  refine Z.iconst hX dX7_isPower_188 ?_
                                  refine Z.isub hX dX7_isPower_189 ?_
                                  refine Z.iload hX dX7_isPower_190 rfl ?_
                                  refine Z.imul hX dX7_isPower_192 ?_
                                  refine Z.iadd hX dX7_isPower_193 ?_
                                  refine Z.istore (lv' := [(15, .int (zI ((((7 * (i + ((k - 1) * ri))) + ev) - i) + ((k - 1) * rj)))), (14, .int (zI bh)), (1, .int (zI k)), (2, .int (zI first)), (5, .long lead), (7, .int (zI ri)), (8, .int (zI rj)), (9, .long u), (11, .int (zI (ri + rj))), (12, .int (zI ev)), (13, .int (zI i)), (0, .ref (h 0))]) hX dX7_isPower_194 (by decide) rfl ?_
                                  have key_287 : ∀ (M : Nat → Nat → Int64), (hM : ∀ k, k ≠ 7 → k ≠ 8 → k ≠ 9 → M k = J k) → (hsu : SU (M 7) (ri + rj)) → (hbd : RZ (M 7) k ri rj lead) → Z p l e { frames := 2, cells := 0, slots := 0, locals := 56 } s m args below meth c D A 18 0 0 Q 287 [(1, .int (zI k)), (2, .int (zI first)), (5, .long lead), (7, .int (zI ri)), (8, .int (zI rj)), (9, .long u), (11, .int (zI (ri + rj))), (12, .int (zI ev)), (13, .int (zI i)), (0, .ref (h 0))] [] (rW ce h F I M) := by
                                    intro M hM hsu hbd
                                    refine Z.iinc (lv' := [(13, .int (zI (i + -1))), (1, .int (zI k)), (2, .int (zI first)), (5, .long lead), (7, .int (zI ri)), (8, .int (zI rj)), (9, .long u), (11, .int (zI (ri + rj))), (12, .int (zI ev)), (0, .ref (h 0))]) hX dX7_isPower_287 rfl (by decide) rfl ?_
                                    refine Z.goto hX 143 dX7_isPower_290 (by decide) ?_
                                    refine Z.pick [1, 2, 3, 4, 5, 6, 7, 8, 0, 9] rfl ?_
                                    exact ih_143 _ _ (by omega) (by omega) (fun j_ h_7 h_8 h_9 => (hM j_ h_7 h_8 h_9)) hsu hbd
                                  refine Z.iload hX dX7_isPower_196 rfl ?_
                                  refine Z.if_eq hX 287 dX7_isPower_198 (by decide) ⟨by omega, by omega⟩ ?_ ?_
                                  · intro c14
                                    refine Z.pick [2, 3, 4, 5, 6, 7, 8, 9, 10, 11] rfl ?_
                                    exact key_287 _ (fun j_ h_7 h_8 h_9 => (hM j_ h_7 h_8 h_9)) hsu hbd
                                  · intro c14
                                    refine Z.iload hX dX7_isPower_201 rfl ?_
                                    refine Z.iload_n hX dX7_isPower_203 rfl rfl ?_
                                    refine Z.iconst hX dX7_isPower_204 ?_
                                    refine Z.isub hX dX7_isPower_205 ?_
                                    refine Z.iload hX dX7_isPower_206 rfl ?_
                                    refine Z.imul hX dX7_isPower_208 ?_
                                    refine Z.iadd hX dX7_isPower_209 ?_
                                    refine Z.bipush hX dX7_isPower_210 (by decide) ?_
                                    refine Z.icmp_ge hX 287 dX7_isPower_212 (by decide) ⟨by omega, by omega⟩ ⟨by omega, by omega⟩ ?_ ?_
                                    · intro c15
                                      refine Z.pick [2, 3, 4, 5, 6, 7, 8, 9, 10, 11] rfl ?_
                                      exact key_287 _ (fun j_ h_7 h_8 h_9 => (hM j_ h_7 h_8 h_9)) hsu hbd
                                    · intro c15
                                      refine Z.iload hX dX7_isPower_215 rfl ?_
                                      refine Z.iload hX dX7_isPower_217 rfl ?_
                                      refine Z.isub hX dX7_isPower_219 ?_
                                      refine Z.iload_n hX dX7_isPower_220 rfl rfl ?_
                                      refine Z.iconst hX dX7_isPower_221 ?_
                                      refine Z.isub hX dX7_isPower_222 ?_
                                      refine Z.iload hX dX7_isPower_223 rfl ?_
                                      refine Z.imul hX dX7_isPower_225 ?_
                                      refine Z.iadd hX dX7_isPower_226 ?_
                                      refine Z.bipush hX dX7_isPower_227 (by decide) ?_
                                      refine Z.icmp_ge hX 287 dX7_isPower_229 (by decide) ⟨by omega, by omega⟩ ⟨by omega, by omega⟩ ?_ ?_
                                      · intro c16
                                        refine Z.pick [2, 3, 4, 5, 6, 7, 8, 9, 10, 11] rfl ?_
                                        exact key_287 _ (fun j_ h_7 h_8 h_9 => (hM j_ h_7 h_8 h_9)) hsu hbd
                                      · intro c16
                                        refine Z.aload_n hX dX7_isPower_232 rfl rfl ?_
                                        refine Z.iload_n hX dX7_isPower_233 rfl rfl ?_
                                        refine Z.callVfv (As := [.int (zI k)]) (rest := []) hX 7 0 rfl rfl (ct_X7_raise_y l D ce h F I M k (ri + rj) (by omega) ⟨by omega, by rw [hkD]; exact hd6⟩ hsu) mc_X7_raise ml_X7_127 im_X7_raise se_X7_raise ini_X7 nd_X7_raise ⟨Nat.le_of_ble_eq_true rfl, Nat.le_of_ble_eq_true rfl⟩ ⟨rfl, rfl⟩ ⟨Nat.le_refl _, Nat.le_refl _⟩ rfl (Nat.le_of_ble_eq_true rfl) dX7_isPower_234 ?_
                                        rintro w1 ⟨Jr, hw_, hr1, hr2⟩
                                        subst hw_
                                        refine Z.aload_n hX dX7_isPower_237 rfl rfl ?_
                                        refine Z.getf hX 7 0 13 dX7_isPower_238 rfl rfl inX7 (by decide) fl_X7_42 rfl rfl ?_
                                        refine Z.iload hX dX7_isPower_241 rfl ?_
                                        refine Z.laload hX 11 1 dX7_isPower_243 rfl rfl (by omega) (by omega) (by decide) ?_
                                        refine Z.aload_n hX dX7_isPower_244 rfl rfl ?_
                                        refine Z.getf hX 7 0 15 dX7_isPower_245 rfl rfl inX7 (by decide) fl_X7_48 rfl rfl ?_
                                        refine Z.iload hX dX7_isPower_248 rfl ?_
                                        refine Z.laload hX 13 1 dX7_isPower_250 rfl rfl (by omega) (by omega) (by decide) ?_
                                        refine Z.lsub hX dX7_isPower_251 ?_
                                        refine Z.lstore (lv' := [(16, .long ((Jr 6 ((((7 * (i + ((k - 1) * ri))) + ev) - i) + ((k - 1) * rj) : Int).toNat) - (Jr 8 ((((7 * (i + ((k - 1) * ri))) + ev) - i) + ((k - 1) * rj) : Int).toNat))), (15, .int (zI ((((7 * (i + ((k - 1) * ri))) + ev) - i) + ((k - 1) * rj)))), (14, .int (zI bh)), (1, .int (zI k)), (2, .int (zI first)), (5, .long lead), (7, .int (zI ri)), (8, .int (zI rj)), (9, .long u), (11, .int (zI (ri + rj))), (12, .int (zI ev)), (13, .int (zI i)), (0, .ref (h 0))]) hX dX7_isPower_252 (by decide) rfl ?_
                                        refine Z.lload hX dX7_isPower_254 rfl ?_
                                        refine Z.lload hX dX7_isPower_256 rfl ?_
                                        refine Z.lrem hX dX7_isPower_258 hu0 ?_
                                        refine Z.lconst (v := 0) hX dX7_isPower_259 rfl ?_
                                        refine Z.lcmp_eq hX 266 dX7_isPower_260 dX7_isPower_261 (by decide) ?_ ?_
                                        · intro c18
                                          refine Z.aload_n hX dX7_isPower_266 rfl rfl ?_
                                          refine Z.getf hX 7 0 14 dX7_isPower_267 rfl rfl inX7 (by decide) fl_X7_45 rfl rfl ?_
                                          refine Z.bipush hX dX7_isPower_270 (by decide) ?_
                                          refine Z.iload hX dX7_isPower_272 rfl ?_
                                          refine Z.imul hX dX7_isPower_274 ?_
                                          refine Z.iload hX dX7_isPower_275 rfl ?_
                                          refine Z.iadd hX dX7_isPower_277 ?_
                                          refine Z.iload hX dX7_isPower_278 rfl ?_
                                          refine Z.isub hX dX7_isPower_280 ?_
                                          refine Z.lload hX dX7_isPower_281 rfl ?_
                                          refine Z.lload hX dX7_isPower_283 rfl ?_
                                          refine Z.ldiv hX dX7_isPower_285 hu0 ?_
                                          refine Z.lastore hX 12 1 dX7_isPower_286 rfl rfl (by omega) (by omega) (by decide) ?_
                                          obtain ⟨J19, eJ19⟩ : ∃ J' : Nat → Nat → Int64, J' = va_up Jr 7 (vp_updL (Jr 7) (((7 * i) + ev) - i : Int).toNat (((Jr 6 ((((7 * (i + ((k - 1) * ri))) + ev) - i) + ((k - 1) * rj) : Int).toNat) - (Jr 8 ((((7 * (i + ((k - 1) * ri))) + ev) - i) + ((k - 1) * rj) : Int).toNat)) / u)) := ⟨_, rfl⟩
                                          refine Z.toW (w' := rW ce h F I J19) (by rw [eJ19]; rfl) ?_
                                          have gJ19 : J19 7 = vp_updL (Jr 7) (((7 * i) + ev) - i : Int).toNat (((Jr 6 ((((7 * (i + ((k - 1) * ri))) + ev) - i) + ((k - 1) * rj) : Int).toNat) - (Jr 8 ((((7 * (i + ((k - 1) * ri))) + ev) - i) + ((k - 1) * rj) : Int).toNat)) / u) := by rw [eJ19]; exact up_eq
                                          have fJ19 : ∀ j_, j_ ≠ 7 → J19 j_ = Jr j_ := fun j_ hj_ => by rw [eJ19]; exact up_ne hj_
                                          refine Z.pick [3, 4, 5, 6, 7, 8, 9, 10, 11, 12] rfl ?_
                                          exact key_287 _ (fun j_ h_7 h_8 h_9 => ((fJ19 j_ h_7).trans ((hr1 j_ h_8 h_9).trans (hM j_ h_7 h_8 h_9)))) (SU_u (by omega) (by omega) gJ19 (by rw [hr1 7 (by decide) (by decide)]; exact hsu)) (RZ_u (i := i) (ev := ev) (by omega) (by omega) hr6 (by omega) gJ19 (ip_qz hk.1 hu1 hu2) (by rw [hr1 7 (by decide) (by decide)]; exact hbd))
                                        · intro c18
                                          refine Z.iconst hX dX7_isPower_264 ?_
                                          exact hR _ _ _ _ dX7_isPower_265 rfl ⟨0, Jr, rfl, rfl, (by omega), (fun j_ h_7 h_8 h_9 => ((hr1 j_ h_8 h_9).trans (hM j_ h_7 h_8 h_9))), (fun q => absurd q (by decide))⟩
                                refine Z.iload hX dX7_isPower_148 rfl ?_
                                refine Z.iload hX dX7_isPower_150 rfl ?_
                                refine Z.icmp_lt hX 162 dX7_isPower_152 (by decide) ⟨by omega, by omega⟩ ⟨by omega, by omega⟩ ?_ ?_
                                · intro c20
                                  refine Z.iconst hX dX7_isPower_162 ?_
                                  refine Z.goto hX 167 dX7_isPower_163 (by decide) ?_
                                  refine Z.pick [0, 1, 2, 3, 4, 5, 6, 7, 8, 9] rfl ?_
                                  exact key_167 _ (by omega)
                                · intro c20
                                  refine Z.iload hX dX7_isPower_155 rfl ?_
                                  refine Z.iload hX dX7_isPower_157 rfl ?_
                                  refine Z.icmp_ge hX 166 dX7_isPower_159 (by decide) ⟨by omega, by omega⟩ ⟨by omega, by omega⟩ ?_ ?_
                                  · intro c21
                                    refine Z.iconst hX dX7_isPower_166 ?_
                                    refine Z.pick [0, 1, 2, 3, 4, 5, 6, 7, 8, 9] rfl ?_
                                    exact key_167 _ (by omega)
                                  · intro c21
                                    refine Z.iconst hX dX7_isPower_162 ?_
                                    refine Z.goto hX 167 dX7_isPower_163 (by decide) ?_
                                    refine Z.pick [0, 1, 2, 3, 4, 5, 6, 7, 8, 9] rfl ?_
                                    exact key_167 _ (by omega)
                          refine Z.pick [1, 2, 3, 4, 5, 6, 7, 8, 0, 9] rfl ?_
                          exact key_143 _ _ _ (Nat.lt_succ_self _) (by omega) (fun j_ h_7 h_8 h_9 => (hM j_ h_7 h_8 h_9)) hsu hbd
                    refine Z.pick [2, 3, 4, 5, 6, 7, 1, 0, 8] rfl ?_
                    exact key_134 _ _ _ (Nat.lt_succ_self _) (by omega) (fun j_ h_7 h_8 h_9 => (hM j_ h_7 h_8 h_9)) hsu hbd
                  · intro c8
                    refine Z.lload hX dX7_isPower_110 rfl ?_
                    refine Z.lload hX dX7_isPower_112 rfl ?_
                    refine Z.lmul hX dX7_isPower_114 ?_
                    refine Z.lstore (lv' := [(9, .long (u * lead)), (1, .int (zI k)), (2, .int (zI first)), (5, .long lead), (7, .int (zI ri)), (8, .int (zI rj)), (0, .ref (h 0)), (11, .int (zI n))]) hX dX7_isPower_115 (by decide) rfl ?_
                    refine Z.iinc (lv' := [(11, .int (zI (n + 1))), (9, .long (u * lead)), (1, .int (zI k)), (2, .int (zI first)), (5, .long lead), (7, .int (zI ri)), (8, .int (zI rj)), (0, .ref (h 0))]) hX dX7_isPower_117 rfl (by decide) rfl ?_
                    refine Z.goto hX 104 dX7_isPower_120 (by decide) ?_
                    refine Z.pick [2, 3, 4, 5, 6, 1, 7, 0] rfl ?_
                    exact ih_104 _ _ _ (by omega) (by omega) (ip_us hn.1 hu) (fun j_ h_7 h_8 h_9 => (hM j_ h_7 h_8 h_9)) hsu hbd
              refine Z.pick [4, 5, 8, 3, 2, 1, 9, 0] rfl ?_
              exact key_104 _ _ _ _ (Nat.lt_succ_self _) (by omega) (by rw [show ((1 : Int) - 1).toNat = 0 by rfl, Int.pow_zero, Int.mul_one]) (fun j_ h_7 h_8 h_9 => ((fJ7 j_ h_7).trans (hM j_ h_7 h_8 h_9))) (SU_u (by omega) (by omega) gJ7 (SU_z (fun q a b => hz q a (by omega)))) (RZ_0 hr6 gJ7 (fun q a b => hz q a (by omega)))
            · intro c6
              refine Z.aload_n hX dX7_isPower_57 rfl rfl ?_
              refine Z.getf hX 7 0 14 dX7_isPower_58 rfl rfl inX7 (by decide) fl_X7_45 rfl rfl ?_
              refine Z.iload hX dX7_isPower_61 rfl ?_
              refine Z.lconst (v := 0) hX dX7_isPower_63 rfl ?_
              refine Z.lastore hX 12 1 dX7_isPower_64 rfl rfl (by omega) (by omega) (by decide) ?_
              obtain ⟨J22, eJ22⟩ : ∃ J' : Nat → Nat → Int64, J' = va_up M 7 (vp_updL (M 7) (i : Int).toNat (0)) := ⟨_, rfl⟩
              refine Z.toW (w' := rW ce h F I J22) (by rw [eJ22]; rfl) ?_
              have gJ22 : J22 7 = vp_updL (M 7) (i : Int).toNat (0) := by rw [eJ22]; exact up_eq
              have fJ22 : ∀ j_, j_ ≠ 7 → J22 j_ = M j_ := fun j_ hj_ => by rw [eJ22]; exact up_ne hj_
              refine Z.iinc (lv' := [(7, .int (zI (i + 1))), (1, .int (zI k)), (2, .int (zI first)), (3, .int (zI (first / 7))), (4, .int (zI (first % 7))), (5, .long lead), (0, .ref (h 0))]) hX dX7_isPower_65 rfl (by decide) rfl ?_
              refine Z.goto hX 50 dX7_isPower_68 (by decide) ?_
              refine Z.pick [1, 2, 3, 4, 5, 6, 0] rfl ?_
              exact ih_50 _ _ (by omega) (by omega) (fun j_ h_7 h_8 h_9 => ((fJ22 j_ h_7).trans (hM j_ h_7 h_8 h_9))) (z_fill hi.1 gJ22 hz)
        refine Z.pick [5, 6, 3, 2, 1, 4, 0] rfl ?_
        exact key_50 _ _ _ (Nat.lt_succ_self _) (by omega) (fun j_ h_7 h_8 h_9 => rfl) (fun q a b => by omega)
      · intro c5
        refine Z.iconst hX dX7_isPower_45 ?_
        exact hR _ _ _ _ dX7_isPower_46 rfl ⟨0, J, rfl, rfl, (by omega), (fun j_ h_7 h_8 h_9 => rfl), (fun q => absurd q (by decide))⟩
    · intro c2
      refine Z.iconst hX dX7_isPower_24 ?_
      exact hR _ _ _ _ dX7_isPower_25 rfl ⟨0, J, rfl, rfl, (by omega), (fun j_ h_7 h_8 h_9 => rfl), (fun q => absurd q (by decide))⟩

