theorem dX7_degree2_0 : decode cX7_degree2 0 = .ok (.iconst (-1), 1) := by decide +kernel
theorem dX7_degree2_1 : decode cX7_degree2 1 = .ok (.istore_n 1, 1) := by decide +kernel
theorem dX7_degree2_2 : decode cX7_degree2 2 = .ok (.iconst 0, 1) := by decide +kernel
theorem dX7_degree2_3 : decode cX7_degree2 3 = .ok (.istore_n 2, 1) := by decide +kernel
theorem dX7_degree2_4 : decode cX7_degree2 4 = .ok (.iload_n 2, 1) := by decide +kernel
theorem dX7_degree2_5 : decode cX7_degree2 5 = .ok (.bipush 7, 2) := by decide +kernel
theorem dX7_degree2_7 : decode cX7_degree2 7 = .ok (.if_icmp .ge 51, 3) := by decide +kernel
theorem dX7_degree2_10 : decode cX7_degree2 10 = .ok (.iconst 0, 1) := by decide +kernel
theorem dX7_degree2_11 : decode cX7_degree2 11 = .ok (.istore_n 3, 1) := by decide +kernel
theorem dX7_degree2_12 : decode cX7_degree2 12 = .ok (.iload_n 3, 1) := by decide +kernel
theorem dX7_degree2_13 : decode cX7_degree2 13 = .ok (.bipush 7, 2) := by decide +kernel
theorem dX7_degree2_15 : decode cX7_degree2 15 = .ok (.if_icmp .ge 37, 3) := by decide +kernel
theorem dX7_degree2_18 : decode cX7_degree2 18 = .ok (.aload_n 0, 1) := by decide +kernel
theorem dX7_degree2_19 : decode cX7_degree2 19 = .ok (.bipush 7, 2) := by decide +kernel
theorem dX7_degree2_21 : decode cX7_degree2 21 = .ok (.iload_n 2, 1) := by decide +kernel
theorem dX7_degree2_22 : decode cX7_degree2 22 = .ok (.imul, 1) := by decide +kernel
theorem dX7_degree2_23 : decode cX7_degree2 23 = .ok (.iload_n 3, 1) := by decide +kernel
theorem dX7_degree2_24 : decode cX7_degree2 24 = .ok (.iadd, 1) := by decide +kernel
theorem dX7_degree2_25 : decode cX7_degree2 25 = .ok (.laload, 1) := by decide +kernel
theorem dX7_degree2_26 : decode cX7_degree2 26 = .ok (.lconst 0, 1) := by decide +kernel
theorem dX7_degree2_27 : decode cX7_degree2 27 = .ok (.lcmp, 1) := by decide +kernel
theorem dX7_degree2_28 : decode cX7_degree2 28 = .ok (.ifCond .eq 16, 3) := by decide +kernel
theorem dX7_degree2_31 : decode cX7_degree2 31 = .ok (.iload_n 2, 1) := by decide +kernel
theorem dX7_degree2_32 : decode cX7_degree2 32 = .ok (.iload_n 3, 1) := by decide +kernel
theorem dX7_degree2_33 : decode cX7_degree2 33 = .ok (.iadd, 1) := by decide +kernel
theorem dX7_degree2_34 : decode cX7_degree2 34 = .ok (.iload_n 1, 1) := by decide +kernel
theorem dX7_degree2_35 : decode cX7_degree2 35 = .ok (.if_icmp .le 9, 3) := by decide +kernel
theorem dX7_degree2_38 : decode cX7_degree2 38 = .ok (.iload_n 2, 1) := by decide +kernel
theorem dX7_degree2_39 : decode cX7_degree2 39 = .ok (.iload_n 3, 1) := by decide +kernel
theorem dX7_degree2_40 : decode cX7_degree2 40 = .ok (.iadd, 1) := by decide +kernel
theorem dX7_degree2_41 : decode cX7_degree2 41 = .ok (.goto 4, 3) := by decide +kernel
theorem dX7_degree2_44 : decode cX7_degree2 44 = .ok (.iload_n 1, 1) := by decide +kernel
theorem dX7_degree2_45 : decode cX7_degree2 45 = .ok (.istore_n 1, 1) := by decide +kernel
theorem dX7_degree2_46 : decode cX7_degree2 46 = .ok (.iinc 3 1, 3) := by decide +kernel
theorem dX7_degree2_49 : decode cX7_degree2 49 = .ok (.goto (-37), 3) := by decide +kernel
theorem dX7_degree2_52 : decode cX7_degree2 52 = .ok (.iinc 2 1, 3) := by decide +kernel
theorem dX7_degree2_55 : decode cX7_degree2 55 = .ok (.goto (-51), 3) := by decide +kernel
theorem dX7_degree2_58 : decode cX7_degree2 58 = .ok (.iload_n 1, 1) := by decide +kernel
theorem dX7_degree2_59 : decode cX7_degree2 59 = .ok (.ireturn, 1) := by decide +kernel
set_option maxHeartbeats 4000000 in
set_option maxRecDepth 100000 in
theorem ct_X7_degree2 (l : Launch) (D : va_G) (ce : Nat → ClassId) (ad : Nat) (f : Nat → Int64)  : Ct l yX7_degree2 cX7_degree2 4 (some .int) { frames := 0, cells := 0, slots := 0, locals := 0 } 0 0 D (TY ce) [.ref ad] ([(ad, .inl (ce 1, 49, .inr (.inl f)))]) (QI D (TY ce) (fun r w1 => ∃ z : Int, r = zI z ∧ w1 = [(ad, .inl (ce 1, 49, .inr (.inl f)))] ∧ (-1 ≤ z ∧ z ≤ 12) ∧ (d2x f z) ∧ (∀ a b : Int, 0 ≤ a → a < 7 → 0 ≤ b → b < 7 →  f (7 * a + b).toNat ≠ 0 → a + b ≤ z))) := by
  refine Ct.ofI (by decide) (Nat.le_of_ble_eq_true rfl) ?_
  intro p e s m args below meth c A Q hX hnm hR
  refine Z.pick (lv' := [(0, .ref ad)]) [0] rfl ?_
  refine Z.iconst hX dX7_degree2_0 ?_
  refine Z.istore_n (lv' := [(1, .int (zI (-1))), (0, .ref ad)]) hX dX7_degree2_1 rfl (by decide) rfl ?_
  refine Z.iconst hX dX7_degree2_2 ?_
  refine Z.istore_n (lv' := [(2, .int (zI 0)), (1, .int (zI (-1))), (0, .ref ad)]) hX dX7_degree2_3 rfl (by decide) rfl ?_
  have key_4 : ∀ (N : Nat), ∀ (i z : Int), (7 - i).toNat < N → (hi : 0 ≤ i ∧ i ≤ 7) → (hz : -1 ≤ z ∧ z ≤ 12) → (hd : d2x f z) → (hv : ∀ a b : Int, 0 ≤ a → a < 7 → 0 ≤ b → b < 7 → a < i → f (7 * a + b).toNat ≠ 0 → a + b ≤ z) → Z p l e { frames := 0, cells := 0, slots := 0, locals := 0 } s m args below meth c D A 4 0 0 Q 4 [(2, .int (zI i)), (1, .int (zI z)), (0, .ref ad)] [] ([(ad, .inl (ce 1, 49, .inr (.inl f)))]) := by
    intro N
    induction N with
    | zero => intro i z hm; exact absurd hm (Nat.not_lt_zero _)
    | succ N ih_4 =>
      intro i z hm hi hz hd hv
      refine Z.iload_n hX dX7_degree2_4 rfl rfl ?_
      refine Z.bipush hX dX7_degree2_5 (by decide) ?_
      refine Z.icmp_ge hX 58 dX7_degree2_7 (by decide) ⟨by omega, by omega⟩ ⟨by omega, by omega⟩ ?_ ?_
      · intro c1
        refine Z.iload_n hX dX7_degree2_58 rfl rfl ?_
        exact hR _ _ _ _ dX7_degree2_59 ⟨z, rfl, rfl, hz, hd, (fun a b h1 h2 h3 h4 h5 => hv a b h1 h2 h3 h4 (by omega) h5)⟩
      · intro c1
        refine Z.iconst hX dX7_degree2_10 ?_
        refine Z.istore_n (lv' := [(3, .int (zI 0)), (2, .int (zI i)), (1, .int (zI z)), (0, .ref ad)]) hX dX7_degree2_11 rfl (by decide) rfl ?_
        have key_12 : ∀ (N : Nat), ∀ (j z : Int), (7 - j).toNat < N → (hj : 0 ≤ j ∧ j ≤ 7) → (hz : -1 ≤ z ∧ z ≤ 12) → (hd : d2x f z) → (hv : ∀ a b : Int, 0 ≤ a → a < 7 → 0 ≤ b → b < 7 → (a < i ∨ a = i ∧ b < j) → f (7 * a + b).toNat ≠ 0 → a + b ≤ z) → Z p l e { frames := 0, cells := 0, slots := 0, locals := 0 } s m args below meth c D A 4 0 0 Q 12 [(3, .int (zI j)), (2, .int (zI i)), (1, .int (zI z)), (0, .ref ad)] [] ([(ad, .inl (ce 1, 49, .inr (.inl f)))]) := by
          intro N
          induction N with
          | zero => intro j z hm; exact absurd hm (Nat.not_lt_zero _)
          | succ N ih_12 =>
            intro j z hm hj hz hd hv
            refine Z.iload_n hX dX7_degree2_12 rfl rfl ?_
            refine Z.bipush hX dX7_degree2_13 (by decide) ?_
            refine Z.icmp_ge hX 52 dX7_degree2_15 (by decide) ⟨by omega, by omega⟩ ⟨by omega, by omega⟩ ?_ ?_
            · intro c2
              refine Z.iinc (lv' := [(2, .int (zI (i + 1))), (3, .int (zI j)), (1, .int (zI z)), (0, .ref ad)]) hX dX7_degree2_52 rfl (by decide) rfl ?_
              refine Z.goto hX 4 dX7_degree2_55 (by decide) ?_
              refine Z.pick [0, 2, 3] rfl ?_
              exact ih_4 _ _ (by omega) (by omega) hz hd (fun a b h1 h2 h3 h4 h5 => hv a b h1 h2 h3 h4 (by omega))
            · intro c2
              have key_45 : ∀ (zz : Int), (hz2 : -1 ≤ zz ∧ zz ≤ 12) → (hd2 : d2x f zz) → (hv2 : ∀ a b : Int, 0 ≤ a → a < 7 → 0 ≤ b → b < 7 → (a < i ∨ a = i ∧ b < j + 1) → f (7 * a + b).toNat ≠ 0 → a + b ≤ zz) → Z p l e { frames := 0, cells := 0, slots := 0, locals := 0 } s m args below meth c D A 4 0 0 Q 45 [(3, .int (zI j)), (2, .int (zI i)), (0, .ref ad)] [.int (zI zz)] ([(ad, .inl (ce 1, 49, .inr (.inl f)))]) := by
                intro zz hz2 hd2 hv2
                refine Z.istore_n (lv' := [(1, .int (zI zz)), (3, .int (zI j)), (2, .int (zI i)), (0, .ref ad)]) hX dX7_degree2_45 rfl (by decide) rfl ?_
                refine Z.iinc (lv' := [(3, .int (zI (j + 1))), (1, .int (zI zz)), (2, .int (zI i)), (0, .ref ad)]) hX dX7_degree2_46 rfl (by decide) rfl ?_
                refine Z.goto hX 12 dX7_degree2_49 (by decide) ?_
                refine Z.pick [0, 2, 1, 3] rfl ?_
                exact ih_12 _ _ (by omega) (by omega) hz2 hd2 hv2
              refine Z.aload_n hX dX7_degree2_18 rfl rfl ?_
              refine Z.bipush hX dX7_degree2_19 (by decide) ?_
              refine Z.iload_n hX dX7_degree2_21 rfl rfl ?_
              refine Z.imul hX dX7_degree2_22 ?_
              refine Z.iload_n hX dX7_degree2_23 rfl rfl ?_
              refine Z.iadd hX dX7_degree2_24 ?_
              refine Z.laload hX 0 1 dX7_degree2_25 rfl rfl (by omega) (by omega) (by decide) ?_
              refine Z.lconst (v := 0) hX dX7_degree2_26 rfl ?_
              refine Z.lcmp_eq hX 44 dX7_degree2_27 dX7_degree2_28 (by decide) ?_ ?_
              · intro c3
                refine Z.iload_n hX dX7_degree2_44 rfl rfl ?_
                refine Z.pick [0, 1, 3] rfl ?_
                exact key_45 _ hz hd (d2_v hv (Int.le_refl _) (fun q => by first | omega | exact absurd (by assumption) q))
              · intro c3
                refine Z.iload_n hX dX7_degree2_31 rfl rfl ?_
                refine Z.iload_n hX dX7_degree2_32 rfl rfl ?_
                refine Z.iadd hX dX7_degree2_33 ?_
                refine Z.iload_n hX dX7_degree2_34 rfl rfl ?_
                refine Z.icmp_le hX 44 dX7_degree2_35 (by decide) ⟨by omega, by omega⟩ ⟨by omega, by omega⟩ ?_ ?_
                · intro c4
                  refine Z.iload_n hX dX7_degree2_44 rfl rfl ?_
                  refine Z.pick [0, 1, 3] rfl ?_
                  exact key_45 _ hz hd (d2_v hv (Int.le_refl _) (fun q => by first | omega | exact absurd (by assumption) q))
                · intro c4
                  refine Z.iload_n hX dX7_degree2_38 rfl rfl ?_
                  refine Z.iload_n hX dX7_degree2_39 rfl rfl ?_
                  refine Z.iadd hX dX7_degree2_40 ?_
                  refine Z.goto hX 45 dX7_degree2_41 (by decide) ?_
                  refine Z.pick [0, 1, 3] rfl ?_
                  exact key_45 _ (by omega) (d2_s (by omega) (by omega) hd (by assumption)) (d2_v hv (by omega) (fun _ => by omega))
        refine Z.pick [0, 1, 2, 3] rfl ?_
        exact key_12 _ _ _ (Nat.lt_succ_self _) (by omega) hz hd (fun a b h1 h2 h3 h4 h5 => hv a b h1 h2 h3 h4 (by omega))
  refine Z.pick [0, 1, 2] rfl ?_
  exact key_4 _ _ _ (Nat.lt_succ_self _) (by omega) (by omega) (fun h => absurd h (by omega)) (fun a b _ _ _ _ h => by omega)

theorem dX7_firstOf_0 : decode cX7_firstOf 0 = .ok (.aload_n 0, 1) := by decide +kernel
theorem dX7_firstOf_1 : decode cX7_firstOf 1 = .ok (.invokestatic 105, 3) := by decide +kernel
theorem dX7_firstOf_4 : decode cX7_firstOf 4 = .ok (.istore_n 1, 1) := by decide +kernel
theorem dX7_firstOf_5 : decode cX7_firstOf 5 = .ok (.iload_n 1, 1) := by decide +kernel
theorem dX7_firstOf_6 : decode cX7_firstOf 6 = .ok (.bipush 6, 2) := by decide +kernel
theorem dX7_firstOf_8 : decode cX7_firstOf 8 = .ok (.if_icmp .ge 7, 3) := by decide +kernel
theorem dX7_firstOf_11 : decode cX7_firstOf 11 = .ok (.iload_n 1, 1) := by decide +kernel
theorem dX7_firstOf_12 : decode cX7_firstOf 12 = .ok (.goto 5, 3) := by decide +kernel
theorem dX7_firstOf_15 : decode cX7_firstOf 15 = .ok (.bipush 6, 2) := by decide +kernel
theorem dX7_firstOf_17 : decode cX7_firstOf 17 = .ok (.istore_n 2, 1) := by decide +kernel
theorem dX7_firstOf_18 : decode cX7_firstOf 18 = .ok (.iload_n 2, 1) := by decide +kernel
theorem dX7_firstOf_19 : decode cX7_firstOf 19 = .ok (.ifCond .lt 41, 3) := by decide +kernel
theorem dX7_firstOf_22 : decode cX7_firstOf 22 = .ok (.iload_n 1, 1) := by decide +kernel
theorem dX7_firstOf_23 : decode cX7_firstOf 23 = .ok (.iload_n 2, 1) := by decide +kernel
theorem dX7_firstOf_24 : decode cX7_firstOf 24 = .ok (.isub, 1) := by decide +kernel
theorem dX7_firstOf_25 : decode cX7_firstOf 25 = .ok (.bipush 7, 2) := by decide +kernel
theorem dX7_firstOf_27 : decode cX7_firstOf 27 = .ok (.if_icmp .ge 27, 3) := by decide +kernel
theorem dX7_firstOf_30 : decode cX7_firstOf 30 = .ok (.aload_n 0, 1) := by decide +kernel
theorem dX7_firstOf_31 : decode cX7_firstOf 31 = .ok (.bipush 7, 2) := by decide +kernel
theorem dX7_firstOf_33 : decode cX7_firstOf 33 = .ok (.iload_n 2, 1) := by decide +kernel
theorem dX7_firstOf_34 : decode cX7_firstOf 34 = .ok (.imul, 1) := by decide +kernel
theorem dX7_firstOf_35 : decode cX7_firstOf 35 = .ok (.iload_n 1, 1) := by decide +kernel
theorem dX7_firstOf_36 : decode cX7_firstOf 36 = .ok (.iadd, 1) := by decide +kernel
theorem dX7_firstOf_37 : decode cX7_firstOf 37 = .ok (.iload_n 2, 1) := by decide +kernel
theorem dX7_firstOf_38 : decode cX7_firstOf 38 = .ok (.isub, 1) := by decide +kernel
theorem dX7_firstOf_39 : decode cX7_firstOf 39 = .ok (.laload, 1) := by decide +kernel
theorem dX7_firstOf_40 : decode cX7_firstOf 40 = .ok (.lconst 0, 1) := by decide +kernel
theorem dX7_firstOf_41 : decode cX7_firstOf 41 = .ok (.lcmp, 1) := by decide +kernel
theorem dX7_firstOf_42 : decode cX7_firstOf 42 = .ok (.ifCond .eq 12, 3) := by decide +kernel
theorem dX7_firstOf_45 : decode cX7_firstOf 45 = .ok (.bipush 7, 2) := by decide +kernel
theorem dX7_firstOf_47 : decode cX7_firstOf 47 = .ok (.iload_n 2, 1) := by decide +kernel
theorem dX7_firstOf_48 : decode cX7_firstOf 48 = .ok (.imul, 1) := by decide +kernel
theorem dX7_firstOf_49 : decode cX7_firstOf 49 = .ok (.iload_n 1, 1) := by decide +kernel
theorem dX7_firstOf_50 : decode cX7_firstOf 50 = .ok (.iadd, 1) := by decide +kernel
theorem dX7_firstOf_51 : decode cX7_firstOf 51 = .ok (.iload_n 2, 1) := by decide +kernel
theorem dX7_firstOf_52 : decode cX7_firstOf 52 = .ok (.isub, 1) := by decide +kernel
theorem dX7_firstOf_53 : decode cX7_firstOf 53 = .ok (.ireturn, 1) := by decide +kernel
theorem dX7_firstOf_54 : decode cX7_firstOf 54 = .ok (.iinc 2 (-1), 3) := by decide +kernel
theorem dX7_firstOf_57 : decode cX7_firstOf 57 = .ok (.goto (-39), 3) := by decide +kernel
theorem dX7_firstOf_60 : decode cX7_firstOf 60 = .ok (.iconst (-1), 1) := by decide +kernel
theorem dX7_firstOf_61 : decode cX7_firstOf 61 = .ok (.ireturn, 1) := by decide +kernel
set_option maxHeartbeats 4000000 in
set_option maxRecDepth 100000 in
theorem ct_X7_firstOf (l : Launch) (D : va_G) (ce : Nat → ClassId) (ad : Nat) (f : Nat → Int64)  : Ct l yX7_firstOf cX7_firstOf 3 (some .int) { frames := 1, cells := 0, slots := 0, locals := 23 } 0 0 D (TY ce) [.ref ad] ([(ad, .inl (ce 1, 49, .inr (.inl f)))]) (QI D (TY ce) (fun r w1 => ∃ z : Int, r = zI z ∧ w1 = [(ad, .inl (ce 1, 49, .inr (.inl f)))] ∧ ((0 ≤ z ∧ z < 49 ∧ f z.toNat ≠ 0) ∨ (z = -1 ∧ ∀ a b : Int, 0 ≤ a → a < 7 → 0 ≤ b → b < 7 → f (7 * a + b).toNat = 0)))) := by
  refine Ct.ofI (by decide) (Nat.le_of_ble_eq_true rfl) ?_
  intro p e s m args below meth c A Q hX hnm hR
  refine Z.pick (lv' := [(0, .ref ad)]) [0] rfl ?_
  refine Z.aload_n hX dX7_firstOf_0 rfl rfl ?_
  refine Z.callS1i (As := [.ref ad]) (rest := []) hX 0 rfl (ct_X7_degree2 l D ce ad f ) mc_X7_degree2 ml_X7_105 st_X7_degree2 ini_X7 nd_X7_degree2 ⟨Nat.le_of_ble_eq_true rfl, Nat.le_of_ble_eq_true rfl⟩ ⟨rfl, rfl⟩ ⟨Nat.le_refl _, Nat.le_refl _⟩ rfl (Nat.le_of_ble_eq_true rfl) dX7_firstOf_1 ?_
  rintro r_1 w1 ⟨d, hr_, hw_, d1, d2, d3⟩
  subst hr_
  refine ⟨_, hw_, ?_⟩
  refine Z.toW (w' := [(ad, .inl (ce 1, 49, .inr (.inl f)))]) rfl ?_
  refine Z.istore_n (lv' := [(1, .int (zI d)), (0, .ref ad)]) hX dX7_firstOf_4 rfl (by decide) rfl ?_
  refine Z.iload_n hX dX7_firstOf_5 rfl rfl ?_
  refine Z.bipush hX dX7_firstOf_6 (by decide) ?_
  refine Z.icmp_ge hX 15 dX7_firstOf_8 (by decide) ⟨by omega, by omega⟩ ⟨by omega, by omega⟩ ?_ ?_
  · intro c2
    refine Z.bipush hX dX7_firstOf_15 (by decide) ?_
    refine Z.istore_n (lv' := [(2, .int (zI 6)), (1, .int (zI d)), (0, .ref ad)]) hX dX7_firstOf_17 rfl (by decide) rfl ?_
    have key_18 : ∀ (N : Nat), ∀ (i : Int), (i + 1).toNat < N → (hi : -1 ≤ i ∧ i ≤ 6 ∧ i ≤ d) → (hn : ∀ a : Int, i < a → a < 7 → 0 ≤ d - a → d - a < 7 → f (7 * a + (d - a)).toNat = 0) → Z p l e { frames := 1, cells := 0, slots := 0, locals := 23 } s m args below meth c D A 3 0 0 Q 18 [(2, .int (zI i)), (1, .int (zI d)), (0, .ref ad)] [] ([(ad, .inl (ce 1, 49, .inr (.inl f)))]) := by
      intro N
      induction N with
      | zero => intro i hm; exact absurd hm (Nat.not_lt_zero _)
      | succ N ih_18 =>
        intro i hm hi hn
        refine Z.iload_n hX dX7_firstOf_18 rfl rfl ?_
        refine Z.if_lt hX 60 dX7_firstOf_19 (by decide) ⟨by omega, by omega⟩ ?_ ?_
        · intro c3
          refine Z.iconst hX dX7_firstOf_60 ?_
          exact hR _ _ _ _ dX7_firstOf_61 ⟨(-1), rfl, rfl, Or.inr ⟨rfl, fo_no hn (by omega) d2 d3⟩⟩
        · intro c3
          refine Z.iload_n hX dX7_firstOf_22 rfl rfl ?_
          refine Z.iload_n hX dX7_firstOf_23 rfl rfl ?_
          refine Z.isub hX dX7_firstOf_24 ?_
          refine Z.bipush hX dX7_firstOf_25 (by decide) ?_
          refine Z.icmp_ge hX 54 dX7_firstOf_27 (by decide) ⟨by omega, by omega⟩ ⟨by omega, by omega⟩ ?_ ?_
          · intro c4
            refine Z.iinc (lv' := [(2, .int (zI (i + -1))), (1, .int (zI d)), (0, .ref ad)]) hX dX7_firstOf_54 rfl (by decide) rfl ?_
            refine Z.goto hX 18 dX7_firstOf_57 (by decide) ?_
            refine Z.pick [0, 1, 2] rfl ?_
            exact ih_18 _ (by omega) (by omega) (fo_s hn (fun h1 h2 => by first | omega | (rw [show 7 * i + (d - i) = 7 * i + d - i by omega]; assumption)))
          · intro c4
            refine Z.aload_n hX dX7_firstOf_30 rfl rfl ?_
            refine Z.bipush hX dX7_firstOf_31 (by decide) ?_
            refine Z.iload_n hX dX7_firstOf_33 rfl rfl ?_
            refine Z.imul hX dX7_firstOf_34 ?_
            refine Z.iload_n hX dX7_firstOf_35 rfl rfl ?_
            refine Z.iadd hX dX7_firstOf_36 ?_
            refine Z.iload_n hX dX7_firstOf_37 rfl rfl ?_
            refine Z.isub hX dX7_firstOf_38 ?_
            refine Z.laload hX 0 1 dX7_firstOf_39 rfl rfl (by omega) (by omega) (by decide) ?_
            refine Z.lconst (v := 0) hX dX7_firstOf_40 rfl ?_
            refine Z.lcmp_eq hX 54 dX7_firstOf_41 dX7_firstOf_42 (by decide) ?_ ?_
            · intro c5
              refine Z.iinc (lv' := [(2, .int (zI (i + -1))), (1, .int (zI d)), (0, .ref ad)]) hX dX7_firstOf_54 rfl (by decide) rfl ?_
              refine Z.goto hX 18 dX7_firstOf_57 (by decide) ?_
              refine Z.pick [0, 1, 2] rfl ?_
              exact ih_18 _ (by omega) (by omega) (fo_s hn (fun h1 h2 => by first | omega | (rw [show 7 * i + (d - i) = 7 * i + d - i by omega]; assumption)))
            · intro c5
              refine Z.bipush hX dX7_firstOf_45 (by decide) ?_
              refine Z.iload_n hX dX7_firstOf_47 rfl rfl ?_
              refine Z.imul hX dX7_firstOf_48 ?_
              refine Z.iload_n hX dX7_firstOf_49 rfl rfl ?_
              refine Z.iadd hX dX7_firstOf_50 ?_
              refine Z.iload_n hX dX7_firstOf_51 rfl rfl ?_
              refine Z.isub hX dX7_firstOf_52 ?_
              exact hR _ _ _ _ dX7_firstOf_53 ⟨(((7 * i) + d) - i), rfl, rfl, Or.inl ⟨by omega, by omega, by assumption⟩⟩
    refine Z.pick [0, 1, 2] rfl ?_
    exact key_18 _ _ (Nat.lt_succ_self _) (by omega) (fun a h1 h2 h3 h4 => by omega)
  · intro c2
    refine Z.iload_n hX dX7_firstOf_11 rfl rfl ?_
    refine Z.goto hX 17 dX7_firstOf_12 (by decide) ?_
    refine Z.istore_n (lv' := [(2, .int (zI d)), (1, .int (zI d)), (0, .ref ad)]) hX dX7_firstOf_17 rfl (by decide) rfl ?_
    have key_18 : ∀ (N : Nat), ∀ (i : Int), (i + 1).toNat < N → (hi : -1 ≤ i ∧ i ≤ 6 ∧ i ≤ d) → (hn : ∀ a : Int, i < a → a < 7 → 0 ≤ d - a → d - a < 7 → f (7 * a + (d - a)).toNat = 0) → Z p l e { frames := 1, cells := 0, slots := 0, locals := 23 } s m args below meth c D A 3 0 0 Q 18 [(2, .int (zI i)), (1, .int (zI d)), (0, .ref ad)] [] ([(ad, .inl (ce 1, 49, .inr (.inl f)))]) := by
      intro N
      induction N with
      | zero => intro i hm; exact absurd hm (Nat.not_lt_zero _)
      | succ N ih_18 =>
        intro i hm hi hn
        refine Z.iload_n hX dX7_firstOf_18 rfl rfl ?_
        refine Z.if_lt hX 60 dX7_firstOf_19 (by decide) ⟨by omega, by omega⟩ ?_ ?_
        · intro c6
          refine Z.iconst hX dX7_firstOf_60 ?_
          exact hR _ _ _ _ dX7_firstOf_61 ⟨(-1), rfl, rfl, Or.inr ⟨rfl, fo_no hn (by omega) d2 d3⟩⟩
        · intro c6
          refine Z.iload_n hX dX7_firstOf_22 rfl rfl ?_
          refine Z.iload_n hX dX7_firstOf_23 rfl rfl ?_
          refine Z.isub hX dX7_firstOf_24 ?_
          refine Z.bipush hX dX7_firstOf_25 (by decide) ?_
          refine Z.icmp_ge hX 54 dX7_firstOf_27 (by decide) ⟨by omega, by omega⟩ ⟨by omega, by omega⟩ ?_ ?_
          · intro c7
            refine Z.iinc (lv' := [(2, .int (zI (i + -1))), (1, .int (zI d)), (0, .ref ad)]) hX dX7_firstOf_54 rfl (by decide) rfl ?_
            refine Z.goto hX 18 dX7_firstOf_57 (by decide) ?_
            refine Z.pick [0, 1, 2] rfl ?_
            exact ih_18 _ (by omega) (by omega) (fo_s hn (fun h1 h2 => by first | omega | (rw [show 7 * i + (d - i) = 7 * i + d - i by omega]; assumption)))
          · intro c7
            refine Z.aload_n hX dX7_firstOf_30 rfl rfl ?_
            refine Z.bipush hX dX7_firstOf_31 (by decide) ?_
            refine Z.iload_n hX dX7_firstOf_33 rfl rfl ?_
            refine Z.imul hX dX7_firstOf_34 ?_
            refine Z.iload_n hX dX7_firstOf_35 rfl rfl ?_
            refine Z.iadd hX dX7_firstOf_36 ?_
            refine Z.iload_n hX dX7_firstOf_37 rfl rfl ?_
            refine Z.isub hX dX7_firstOf_38 ?_
            refine Z.laload hX 0 1 dX7_firstOf_39 rfl rfl (by omega) (by omega) (by decide) ?_
            refine Z.lconst (v := 0) hX dX7_firstOf_40 rfl ?_
            refine Z.lcmp_eq hX 54 dX7_firstOf_41 dX7_firstOf_42 (by decide) ?_ ?_
            · intro c8
              refine Z.iinc (lv' := [(2, .int (zI (i + -1))), (1, .int (zI d)), (0, .ref ad)]) hX dX7_firstOf_54 rfl (by decide) rfl ?_
              refine Z.goto hX 18 dX7_firstOf_57 (by decide) ?_
              refine Z.pick [0, 1, 2] rfl ?_
              exact ih_18 _ (by omega) (by omega) (fo_s hn (fun h1 h2 => by first | omega | (rw [show 7 * i + (d - i) = 7 * i + d - i by omega]; assumption)))
            · intro c8
              refine Z.bipush hX dX7_firstOf_45 (by decide) ?_
              refine Z.iload_n hX dX7_firstOf_47 rfl rfl ?_
              refine Z.imul hX dX7_firstOf_48 ?_
              refine Z.iload_n hX dX7_firstOf_49 rfl rfl ?_
              refine Z.iadd hX dX7_firstOf_50 ?_
              refine Z.iload_n hX dX7_firstOf_51 rfl rfl ?_
              refine Z.isub hX dX7_firstOf_52 ?_
              exact hR _ _ _ _ dX7_firstOf_53 ⟨(((7 * i) + d) - i), rfl, rfl, Or.inl ⟨by omega, by omega, by assumption⟩⟩
    refine Z.pick [0, 1, 2] rfl ?_
    exact key_18 _ _ (Nat.lt_succ_self _) (by omega) (fun a h1 h2 h3 h4 => by omega)

theorem dX7_raise_0 : decode cX7_raise 0 = .ok (.iconst 0, 1) := by decide +kernel
theorem dX7_raise_1 : decode cX7_raise 1 = .ok (.istore_n 2, 1) := by decide +kernel
theorem dX7_raise_2 : decode cX7_raise 2 = .ok (.iload_n 2, 1) := by decide +kernel
theorem dX7_raise_3 : decode cX7_raise 3 = .ok (.bipush 49, 2) := by decide +kernel
theorem dX7_raise_5 : decode cX7_raise 5 = .ok (.if_icmp .ge 24, 3) := by decide +kernel
theorem dX7_raise_8 : decode cX7_raise 8 = .ok (.aload_n 0, 1) := by decide +kernel
theorem dX7_raise_9 : decode cX7_raise 9 = .ok (.getfield 48, 3) := by decide +kernel
theorem dX7_raise_12 : decode cX7_raise 12 = .ok (.iload_n 2, 1) := by decide +kernel
theorem dX7_raise_13 : decode cX7_raise 13 = .ok (.iload_n 2, 1) := by decide +kernel
theorem dX7_raise_14 : decode cX7_raise 14 = .ok (.ifCond .ne 7, 3) := by decide +kernel
theorem dX7_raise_17 : decode cX7_raise 17 = .ok (.lconst 1, 1) := by decide +kernel
theorem dX7_raise_18 : decode cX7_raise 18 = .ok (.goto 4, 3) := by decide +kernel
theorem dX7_raise_21 : decode cX7_raise 21 = .ok (.lconst 0, 1) := by decide +kernel
theorem dX7_raise_22 : decode cX7_raise 22 = .ok (.lastore, 1) := by decide +kernel
theorem dX7_raise_23 : decode cX7_raise 23 = .ok (.iinc 2 1, 3) := by decide +kernel
theorem dX7_raise_26 : decode cX7_raise 26 = .ok (.goto (-24), 3) := by decide +kernel
theorem dX7_raise_29 : decode cX7_raise 29 = .ok (.iconst 0, 1) := by decide +kernel
theorem dX7_raise_30 : decode cX7_raise 30 = .ok (.istore_n 2, 1) := by decide +kernel
theorem dX7_raise_31 : decode cX7_raise 31 = .ok (.iload_n 2, 1) := by decide +kernel
theorem dX7_raise_32 : decode cX7_raise 32 = .ok (.iload_n 1, 1) := by decide +kernel
theorem dX7_raise_33 : decode cX7_raise 33 = .ok (.if_icmp .ge 165, 3) := by decide +kernel
theorem dX7_raise_36 : decode cX7_raise 36 = .ok (.iconst 0, 1) := by decide +kernel
theorem dX7_raise_37 : decode cX7_raise 37 = .ok (.istore_n 3, 1) := by decide +kernel
theorem dX7_raise_38 : decode cX7_raise 38 = .ok (.iload_n 3, 1) := by decide +kernel
theorem dX7_raise_39 : decode cX7_raise 39 = .ok (.bipush 49, 2) := by decide +kernel
theorem dX7_raise_41 : decode cX7_raise 41 = .ok (.if_icmp .ge 16, 3) := by decide +kernel
theorem dX7_raise_44 : decode cX7_raise 44 = .ok (.aload_n 0, 1) := by decide +kernel
theorem dX7_raise_45 : decode cX7_raise 45 = .ok (.getfield 51, 3) := by decide +kernel
theorem dX7_raise_48 : decode cX7_raise 48 = .ok (.iload_n 3, 1) := by decide +kernel
theorem dX7_raise_49 : decode cX7_raise 49 = .ok (.lconst 0, 1) := by decide +kernel
theorem dX7_raise_50 : decode cX7_raise 50 = .ok (.lastore, 1) := by decide +kernel
theorem dX7_raise_51 : decode cX7_raise 51 = .ok (.iinc 3 1, 3) := by decide +kernel
theorem dX7_raise_54 : decode cX7_raise 54 = .ok (.goto (-16), 3) := by decide +kernel
theorem dX7_raise_57 : decode cX7_raise 57 = .ok (.iconst 0, 1) := by decide +kernel
theorem dX7_raise_58 : decode cX7_raise 58 = .ok (.istore_n 3, 1) := by decide +kernel
theorem dX7_raise_59 : decode cX7_raise 59 = .ok (.iload_n 3, 1) := by decide +kernel
theorem dX7_raise_60 : decode cX7_raise 60 = .ok (.bipush 49, 2) := by decide +kernel
theorem dX7_raise_62 : decode cX7_raise 62 = .ok (.if_icmp .ge 104, 3) := by decide +kernel
theorem dX7_raise_65 : decode cX7_raise 65 = .ok (.iconst 0, 1) := by decide +kernel
theorem dX7_raise_66 : decode cX7_raise 66 = .ok (.istore 4, 2) := by decide +kernel
theorem dX7_raise_68 : decode cX7_raise 68 = .ok (.iload 4, 2) := by decide +kernel
theorem dX7_raise_70 : decode cX7_raise 70 = .ok (.bipush 49, 2) := by decide +kernel
theorem dX7_raise_72 : decode cX7_raise 72 = .ok (.if_icmp .ge 88, 3) := by decide +kernel
theorem dX7_raise_75 : decode cX7_raise 75 = .ok (.aload_n 0, 1) := by decide +kernel
theorem dX7_raise_76 : decode cX7_raise 76 = .ok (.getfield 48, 3) := by decide +kernel
theorem dX7_raise_79 : decode cX7_raise 79 = .ok (.iload_n 3, 1) := by decide +kernel
theorem dX7_raise_80 : decode cX7_raise 80 = .ok (.laload, 1) := by decide +kernel
theorem dX7_raise_81 : decode cX7_raise 81 = .ok (.lconst 0, 1) := by decide +kernel
theorem dX7_raise_82 : decode cX7_raise 82 = .ok (.lcmp, 1) := by decide +kernel
theorem dX7_raise_83 : decode cX7_raise 83 = .ok (.ifCond .eq 77, 3) := by decide +kernel
theorem dX7_raise_86 : decode cX7_raise 86 = .ok (.aload_n 0, 1) := by decide +kernel
theorem dX7_raise_87 : decode cX7_raise 87 = .ok (.getfield 45, 3) := by decide +kernel
theorem dX7_raise_90 : decode cX7_raise 90 = .ok (.iload 4, 2) := by decide +kernel
theorem dX7_raise_92 : decode cX7_raise 92 = .ok (.laload, 1) := by decide +kernel
theorem dX7_raise_93 : decode cX7_raise 93 = .ok (.lconst 0, 1) := by decide +kernel
theorem dX7_raise_94 : decode cX7_raise 94 = .ok (.lcmp, 1) := by decide +kernel
theorem dX7_raise_95 : decode cX7_raise 95 = .ok (.ifCond .eq 59, 3) := by decide +kernel
theorem dX7_raise_98 : decode cX7_raise 98 = .ok (.iload_n 3, 1) := by decide +kernel
theorem dX7_raise_99 : decode cX7_raise 99 = .ok (.bipush 7, 2) := by decide +kernel
theorem dX7_raise_101 : decode cX7_raise 101 = .ok (.idiv, 1) := by decide +kernel
theorem dX7_raise_102 : decode cX7_raise 102 = .ok (.iload 4, 2) := by decide +kernel
theorem dX7_raise_104 : decode cX7_raise 104 = .ok (.bipush 7, 2) := by decide +kernel
theorem dX7_raise_106 : decode cX7_raise 106 = .ok (.idiv, 1) := by decide +kernel
theorem dX7_raise_107 : decode cX7_raise 107 = .ok (.iadd, 1) := by decide +kernel
theorem dX7_raise_108 : decode cX7_raise 108 = .ok (.bipush 7, 2) := by decide +kernel
theorem dX7_raise_110 : decode cX7_raise 110 = .ok (.if_icmp .ge 44, 3) := by decide +kernel
theorem dX7_raise_113 : decode cX7_raise 113 = .ok (.iload_n 3, 1) := by decide +kernel
theorem dX7_raise_114 : decode cX7_raise 114 = .ok (.bipush 7, 2) := by decide +kernel
theorem dX7_raise_116 : decode cX7_raise 116 = .ok (.irem, 1) := by decide +kernel
theorem dX7_raise_117 : decode cX7_raise 117 = .ok (.iload 4, 2) := by decide +kernel
theorem dX7_raise_119 : decode cX7_raise 119 = .ok (.bipush 7, 2) := by decide +kernel
theorem dX7_raise_121 : decode cX7_raise 121 = .ok (.irem, 1) := by decide +kernel
theorem dX7_raise_122 : decode cX7_raise 122 = .ok (.iadd, 1) := by decide +kernel
theorem dX7_raise_123 : decode cX7_raise 123 = .ok (.bipush 7, 2) := by decide +kernel
theorem dX7_raise_125 : decode cX7_raise 125 = .ok (.if_icmp .ge 29, 3) := by decide +kernel
theorem dX7_raise_128 : decode cX7_raise 128 = .ok (.aload_n 0, 1) := by decide +kernel
theorem dX7_raise_129 : decode cX7_raise 129 = .ok (.getfield 51, 3) := by decide +kernel
theorem dX7_raise_132 : decode cX7_raise 132 = .ok (.iload_n 3, 1) := by decide +kernel
theorem dX7_raise_133 : decode cX7_raise 133 = .ok (.iload 4, 2) := by decide +kernel
theorem dX7_raise_135 : decode cX7_raise 135 = .ok (.iadd, 1) := by decide +kernel
theorem dX7_raise_136 : decode cX7_raise 136 = .ok (.dup2, 1) := by decide +kernel
theorem dX7_raise_137 : decode cX7_raise 137 = .ok (.laload, 1) := by decide +kernel
theorem dX7_raise_138 : decode cX7_raise 138 = .ok (.aload_n 0, 1) := by decide +kernel
theorem dX7_raise_139 : decode cX7_raise 139 = .ok (.getfield 48, 3) := by decide +kernel
theorem dX7_raise_142 : decode cX7_raise 142 = .ok (.iload_n 3, 1) := by decide +kernel
theorem dX7_raise_143 : decode cX7_raise 143 = .ok (.laload, 1) := by decide +kernel
theorem dX7_raise_144 : decode cX7_raise 144 = .ok (.aload_n 0, 1) := by decide +kernel
theorem dX7_raise_145 : decode cX7_raise 145 = .ok (.getfield 45, 3) := by decide +kernel
theorem dX7_raise_148 : decode cX7_raise 148 = .ok (.iload 4, 2) := by decide +kernel
theorem dX7_raise_150 : decode cX7_raise 150 = .ok (.laload, 1) := by decide +kernel
theorem dX7_raise_151 : decode cX7_raise 151 = .ok (.lmul, 1) := by decide +kernel
theorem dX7_raise_152 : decode cX7_raise 152 = .ok (.ladd, 1) := by decide +kernel
theorem dX7_raise_153 : decode cX7_raise 153 = .ok (.lastore, 1) := by decide +kernel
theorem dX7_raise_154 : decode cX7_raise 154 = .ok (.iinc 4 1, 3) := by decide +kernel
theorem dX7_raise_157 : decode cX7_raise 157 = .ok (.goto (-89), 3) := by decide +kernel
theorem dX7_raise_160 : decode cX7_raise 160 = .ok (.iinc 3 1, 3) := by decide +kernel
theorem dX7_raise_163 : decode cX7_raise 163 = .ok (.goto (-104), 3) := by decide +kernel
theorem dX7_raise_166 : decode cX7_raise 166 = .ok (.iconst 0, 1) := by decide +kernel
theorem dX7_raise_167 : decode cX7_raise 167 = .ok (.istore_n 3, 1) := by decide +kernel
theorem dX7_raise_168 : decode cX7_raise 168 = .ok (.iload_n 3, 1) := by decide +kernel
theorem dX7_raise_169 : decode cX7_raise 169 = .ok (.bipush 49, 2) := by decide +kernel
theorem dX7_raise_171 : decode cX7_raise 171 = .ok (.if_icmp .ge 21, 3) := by decide +kernel
theorem dX7_raise_174 : decode cX7_raise 174 = .ok (.aload_n 0, 1) := by decide +kernel
theorem dX7_raise_175 : decode cX7_raise 175 = .ok (.getfield 48, 3) := by decide +kernel
theorem dX7_raise_178 : decode cX7_raise 178 = .ok (.iload_n 3, 1) := by decide +kernel
theorem dX7_raise_179 : decode cX7_raise 179 = .ok (.aload_n 0, 1) := by decide +kernel
theorem dX7_raise_180 : decode cX7_raise 180 = .ok (.getfield 51, 3) := by decide +kernel
theorem dX7_raise_183 : decode cX7_raise 183 = .ok (.iload_n 3, 1) := by decide +kernel
theorem dX7_raise_184 : decode cX7_raise 184 = .ok (.laload, 1) := by decide +kernel
theorem dX7_raise_185 : decode cX7_raise 185 = .ok (.lastore, 1) := by decide +kernel
theorem dX7_raise_186 : decode cX7_raise 186 = .ok (.iinc 3 1, 3) := by decide +kernel
theorem dX7_raise_189 : decode cX7_raise 189 = .ok (.goto (-21), 3) := by decide +kernel
theorem dX7_raise_192 : decode cX7_raise 192 = .ok (.iinc 2 1, 3) := by decide +kernel
theorem dX7_raise_195 : decode cX7_raise 195 = .ok (.goto (-164), 3) := by decide +kernel
theorem dX7_raise_198 : decode cX7_raise 198 = .ok (.return_, 1) := by decide +kernel
set_option maxHeartbeats 4000000 in
set_option maxRecDepth 100000 in
theorem ct_X7_raise (l : Launch) (D : va_G) (ce : Nat → ClassId) (h : Nat → Nat) (F : Nat → Int) (I : Nat → Nat → Int32) (J : Nat → Nat → Int64) (k : Int) (hk : 0 ≤ k ∧ k ≤ 12) : Ct l yX7_raise cX7_raise 5 none { frames := 0, cells := 0, slots := 0, locals := 0 } 0 0 D (TY ce) [.ref (h 0), .int (zI k)] (rW ce h F I J) (QV D (TY ce) (fun w1 => ∃ J2 : Nat → Nat → Int64, w1 = rW ce h F I J2 ∧ (∀ k, k ≠ 8 → k ≠ 9 → J2 k = J k))) := by
  refine Ct.ofV (by decide) (Nat.le_of_ble_eq_true rfl) ?_
  intro p e s m args below meth c A Q hX hnm hR
  refine Z.pick (lv' := [(0, .ref (h 0)), (1, .int (zI k))]) [0, 1] rfl ?_
  refine Z.iconst hX dX7_raise_0 ?_
  refine Z.istore_n (lv' := [(2, .int (zI 0)), (0, .ref (h 0)), (1, .int (zI k))]) hX dX7_raise_1 rfl (by decide) rfl ?_
  have key_2 : ∀ (N : Nat), ∀ (i : Int) (M : Nat → Nat → Int64), (49 - i).toNat < N → (hi : 0 ≤ i ∧ i ≤ 49) → (hM : ∀ k, k ≠ 8 → k ≠ 9 → M k = J k) → Z p l e { frames := 0, cells := 0, slots := 0, locals := 0 } s m args below meth c D A 5 0 0 Q 2 [(2, .int (zI i)), (1, .int (zI k)), (0, .ref (h 0))] [] (rW ce h F I M) := by
    intro N
    induction N with
    | zero => intro i M hm; exact absurd hm (Nat.not_lt_zero _)
    | succ N ih_2 =>
      intro i M hm hi hM
      refine Z.iload_n hX dX7_raise_2 rfl rfl ?_
      refine Z.bipush hX dX7_raise_3 (by decide) ?_
      refine Z.icmp_ge hX 29 dX7_raise_5 (by decide) ⟨by omega, by omega⟩ ⟨by omega, by omega⟩ ?_ ?_
      · intro c1
        refine Z.iconst hX dX7_raise_29 ?_
        refine Z.istore_n (lv' := [(2, .int (zI 0)), (1, .int (zI k)), (0, .ref (h 0))]) hX dX7_raise_30 rfl (by decide) rfl ?_
        have key_31 : ∀ (N : Nat), ∀ (n : Int) (M : Nat → Nat → Int64), (k - n).toNat < N → (hn : 0 ≤ n ∧ n ≤ k) → (hM : ∀ k, k ≠ 8 → k ≠ 9 → M k = J k) → Z p l e { frames := 0, cells := 0, slots := 0, locals := 0 } s m args below meth c D A 5 0 0 Q 31 [(2, .int (zI n)), (1, .int (zI k)), (0, .ref (h 0))] [] (rW ce h F I M) := by
          intro N
          induction N with
          | zero => intro n M hm; exact absurd hm (Nat.not_lt_zero _)
          | succ N ih_31 =>
            intro n M hm hn hM
            refine Z.iload_n hX dX7_raise_31 rfl rfl ?_
            refine Z.iload_n hX dX7_raise_32 rfl rfl ?_
            refine Z.icmp_ge hX 198 dX7_raise_33 (by decide) ⟨by omega, by omega⟩ ⟨by omega, by omega⟩ ?_ ?_
            · intro c2
              exact hR _ _ _ dX7_raise_198 ⟨M, rfl, (fun k h8 h9 => (hM k h8 h9))⟩
            · intro c2
              refine Z.iconst hX dX7_raise_36 ?_
              refine Z.istore_n (lv' := [(3, .int (zI 0)), (2, .int (zI n)), (1, .int (zI k)), (0, .ref (h 0))]) hX dX7_raise_37 rfl (by decide) rfl ?_
              have key_38 : ∀ (N : Nat), ∀ (i : Int) (M : Nat → Nat → Int64), (49 - i).toNat < N → (hi : 0 ≤ i ∧ i ≤ 49) → (hM : ∀ k, k ≠ 8 → k ≠ 9 → M k = J k) → Z p l e { frames := 0, cells := 0, slots := 0, locals := 0 } s m args below meth c D A 5 0 0 Q 38 [(3, .int (zI i)), (2, .int (zI n)), (1, .int (zI k)), (0, .ref (h 0))] [] (rW ce h F I M) := by
                intro N
                induction N with
                | zero => intro i M hm; exact absurd hm (Nat.not_lt_zero _)
                | succ N ih_38 =>
                  intro i M hm hi hM
                  refine Z.iload_n hX dX7_raise_38 rfl rfl ?_
                  refine Z.bipush hX dX7_raise_39 (by decide) ?_
                  refine Z.icmp_ge hX 57 dX7_raise_41 (by decide) ⟨by omega, by omega⟩ ⟨by omega, by omega⟩ ?_ ?_
                  · intro c3
                    refine Z.iconst hX dX7_raise_57 ?_
                    refine Z.istore_n (lv' := [(3, .int (zI 0)), (2, .int (zI n)), (1, .int (zI k)), (0, .ref (h 0))]) hX dX7_raise_58 rfl (by decide) rfl ?_
                    have key_59 : ∀ (N : Nat), ∀ (a : Int) (M : Nat → Nat → Int64), (49 - a).toNat < N → (ha : 0 ≤ a ∧ a ≤ 49) → (hM : ∀ k, k ≠ 8 → k ≠ 9 → M k = J k) → Z p l e { frames := 0, cells := 0, slots := 0, locals := 0 } s m args below meth c D A 5 0 0 Q 59 [(3, .int (zI a)), (2, .int (zI n)), (1, .int (zI k)), (0, .ref (h 0))] [] (rW ce h F I M) := by
                      intro N
                      induction N with
                      | zero => intro a M hm; exact absurd hm (Nat.not_lt_zero _)
                      | succ N ih_59 =>
                        intro a M hm ha hM
                        refine Z.iload_n hX dX7_raise_59 rfl rfl ?_
                        refine Z.bipush hX dX7_raise_60 (by decide) ?_
                        refine Z.icmp_ge hX 166 dX7_raise_62 (by decide) ⟨by omega, by omega⟩ ⟨by omega, by omega⟩ ?_ ?_
                        · intro c4
                          refine Z.iconst hX dX7_raise_166 ?_
                          refine Z.istore_n (lv' := [(3, .int (zI 0)), (2, .int (zI n)), (1, .int (zI k)), (0, .ref (h 0))]) hX dX7_raise_167 rfl (by decide) rfl ?_
                          have key_168 : ∀ (N : Nat), ∀ (i : Int) (M : Nat → Nat → Int64), (49 - i).toNat < N → (hi : 0 ≤ i ∧ i ≤ 49) → (hM : ∀ k, k ≠ 8 → k ≠ 9 → M k = J k) → Z p l e { frames := 0, cells := 0, slots := 0, locals := 0 } s m args below meth c D A 5 0 0 Q 168 [(3, .int (zI i)), (2, .int (zI n)), (1, .int (zI k)), (0, .ref (h 0))] [] (rW ce h F I M) := by
                            intro N
                            induction N with
                            | zero => intro i M hm; exact absurd hm (Nat.not_lt_zero _)
                            | succ N ih_168 =>
                              intro i M hm hi hM
                              refine Z.iload_n hX dX7_raise_168 rfl rfl ?_
                              refine Z.bipush hX dX7_raise_169 (by decide) ?_
                              refine Z.icmp_ge hX 192 dX7_raise_171 (by decide) ⟨by omega, by omega⟩ ⟨by omega, by omega⟩ ?_ ?_
                              · intro c5
                                refine Z.iinc (lv' := [(2, .int (zI (n + 1))), (3, .int (zI i)), (1, .int (zI k)), (0, .ref (h 0))]) hX dX7_raise_192 rfl (by decide) rfl ?_
                                refine Z.goto hX 31 dX7_raise_195 (by decide) ?_
                                refine Z.pick [0, 2, 3] rfl ?_
                                exact ih_31 _ _ (by omega) (by omega) (fun k h8 h9 => (hM k h8 h9))
                              · intro c5
                                refine Z.aload_n hX dX7_raise_174 rfl rfl ?_
                                refine Z.getf hX 7 0 15 dX7_raise_175 rfl rfl inX7 (by decide) fl_X7_48 rfl rfl ?_
                                refine Z.iload_n hX dX7_raise_178 rfl rfl ?_
                                refine Z.aload_n hX dX7_raise_179 rfl rfl ?_
                                refine Z.getf hX 7 0 16 dX7_raise_180 rfl rfl inX7 (by decide) fl_X7_51 rfl rfl ?_
                                refine Z.iload_n hX dX7_raise_183 rfl rfl ?_
                                refine Z.laload hX 14 1 dX7_raise_184 rfl rfl (by omega) (by omega) (by decide) ?_
                                refine Z.lastore hX 13 1 dX7_raise_185 rfl rfl (by omega) (by omega) (by decide) ?_
                                obtain ⟨J6, eJ6⟩ : ∃ J' : Nat → Nat → Int64, J' = va_up M 8 (vp_updL (M 8) (i : Int).toNat (M 9 (i : Int).toNat)) := ⟨_, rfl⟩
                                refine Z.toW (w' := rW ce h F I J6) (by rw [eJ6]; rfl) ?_
                                have gJ6 : J6 8 = vp_updL (M 8) (i : Int).toNat (M 9 (i : Int).toNat) := by rw [eJ6]; exact up_eq
                                have fJ6 : ∀ k, k ≠ 8 → J6 k = M k := fun k hk => by rw [eJ6]; exact up_ne hk
                                refine Z.iinc (lv' := [(3, .int (zI (i + 1))), (2, .int (zI n)), (1, .int (zI k)), (0, .ref (h 0))]) hX dX7_raise_186 rfl (by decide) rfl ?_
                                refine Z.goto hX 168 dX7_raise_189 (by decide) ?_
                                refine Z.pick [0, 1, 2, 3] rfl ?_
                                exact ih_168 _ _ (by omega) (by omega) (fun k h8 h9 => ((fJ6 k h8).trans (hM k h8 h9)))
                          refine Z.pick [0, 1, 2, 3] rfl ?_
                          exact key_168 _ _ _ (Nat.lt_succ_self _) (by omega) (fun k h8 h9 => (hM k h8 h9))
                        · intro c4
                          refine Z.iconst hX dX7_raise_65 ?_
                          refine Z.istore (lv' := [(4, .int (zI 0)), (3, .int (zI a)), (2, .int (zI n)), (1, .int (zI k)), (0, .ref (h 0))]) hX dX7_raise_66 (by decide) rfl ?_
                          have key_68 : ∀ (N : Nat), ∀ (b : Int) (M : Nat → Nat → Int64), (49 - b).toNat < N → (hb : 0 ≤ b ∧ b ≤ 49) → (hM : ∀ k, k ≠ 8 → k ≠ 9 → M k = J k) → Z p l e { frames := 0, cells := 0, slots := 0, locals := 0 } s m args below meth c D A 5 0 0 Q 68 [(4, .int (zI b)), (3, .int (zI a)), (2, .int (zI n)), (1, .int (zI k)), (0, .ref (h 0))] [] (rW ce h F I M) := by
                            intro N
                            induction N with
                            | zero => intro b M hm; exact absurd hm (Nat.not_lt_zero _)
                            | succ N ih_68 =>
                              intro b M hm hb hM
                              refine Z.iload hX dX7_raise_68 rfl ?_
                              refine Z.bipush hX dX7_raise_70 (by decide) ?_
                              refine Z.icmp_ge hX 160 dX7_raise_72 (by decide) ⟨by omega, by omega⟩ ⟨by omega, by omega⟩ ?_ ?_
                              · intro c7
                                refine Z.iinc (lv' := [(3, .int (zI (a + 1))), (4, .int (zI b)), (2, .int (zI n)), (1, .int (zI k)), (0, .ref (h 0))]) hX dX7_raise_160 rfl (by decide) rfl ?_
                                refine Z.goto hX 59 dX7_raise_163 (by decide) ?_
                                refine Z.pick [0, 2, 3, 4] rfl ?_
                                exact ih_59 _ _ (by omega) (by omega) (fun k h8 h9 => (hM k h8 h9))
                              · intro c7
                                refine Z.aload_n hX dX7_raise_75 rfl rfl ?_
                                refine Z.getf hX 7 0 15 dX7_raise_76 rfl rfl inX7 (by decide) fl_X7_48 rfl rfl ?_
                                refine Z.iload_n hX dX7_raise_79 rfl rfl ?_
                                refine Z.laload hX 13 1 dX7_raise_80 rfl rfl (by omega) (by omega) (by decide) ?_
                                refine Z.lconst (v := 0) hX dX7_raise_81 rfl ?_
                                refine Z.lcmp_eq hX 160 dX7_raise_82 dX7_raise_83 (by decide) ?_ ?_
                                · intro c8
                                  refine Z.iinc (lv' := [(3, .int (zI (a + 1))), (4, .int (zI b)), (2, .int (zI n)), (1, .int (zI k)), (0, .ref (h 0))]) hX dX7_raise_160 rfl (by decide) rfl ?_
                                  refine Z.goto hX 59 dX7_raise_163 (by decide) ?_
                                  refine Z.pick [0, 2, 3, 4] rfl ?_
                                  exact ih_59 _ _ (by omega) (by omega) (fun k h8 h9 => (hM k h8 h9))
                                · intro c8
                                  have key_154 : ∀ (M : Nat → Nat → Int64), (hM : ∀ k, k ≠ 8 → k ≠ 9 → M k = J k) → Z p l e { frames := 0, cells := 0, slots := 0, locals := 0 } s m args below meth c D A 5 0 0 Q 154 [(4, .int (zI b)), (3, .int (zI a)), (2, .int (zI n)), (1, .int (zI k)), (0, .ref (h 0))] [] (rW ce h F I M) := by
                                    intro M hM
                                    refine Z.iinc (lv' := [(4, .int (zI (b + 1))), (3, .int (zI a)), (2, .int (zI n)), (1, .int (zI k)), (0, .ref (h 0))]) hX dX7_raise_154 rfl (by decide) rfl ?_
                                    refine Z.goto hX 68 dX7_raise_157 (by decide) ?_
                                    refine Z.pick [0, 1, 2, 3, 4] rfl ?_
                                    exact ih_68 _ _ (by omega) (by omega) (fun k h8 h9 => (hM k h8 h9))
                                  refine Z.aload_n hX dX7_raise_86 rfl rfl ?_
                                  refine Z.getf hX 7 0 14 dX7_raise_87 rfl rfl inX7 (by decide) fl_X7_45 rfl rfl ?_
                                  refine Z.iload hX dX7_raise_90 rfl ?_
                                  refine Z.laload hX 12 1 dX7_raise_92 rfl rfl (by omega) (by omega) (by decide) ?_
                                  refine Z.lconst (v := 0) hX dX7_raise_93 rfl ?_
                                  refine Z.lcmp_eq hX 154 dX7_raise_94 dX7_raise_95 (by decide) ?_ ?_
                                  · intro c9
                                    refine Z.pick [0, 1, 2, 3, 4] rfl ?_
                                    exact key_154 _ (fun k h8 h9 => (hM k h8 h9))
                                  · intro c9
                                    refine Z.iload_n hX dX7_raise_98 rfl rfl ?_
                                    refine Z.bipush hX dX7_raise_99 (by decide) ?_
                                    refine Z.idiv hX dX7_raise_101 (by omega) (by omega) (by omega) (by omega) ?_
                                    refine Z.iload hX dX7_raise_102 rfl ?_
                                    refine Z.bipush hX dX7_raise_104 (by decide) ?_
                                    refine Z.idiv hX dX7_raise_106 (by omega) (by omega) (by omega) (by omega) ?_
                                    refine Z.iadd hX dX7_raise_107 ?_
                                    refine Z.bipush hX dX7_raise_108 (by decide) ?_
                                    refine Z.icmp_ge hX 154 dX7_raise_110 (by decide) ⟨by omega, by omega⟩ ⟨by omega, by omega⟩ ?_ ?_
                                    · intro c10
                                      refine Z.pick [0, 1, 2, 3, 4] rfl ?_
                                      exact key_154 _ (fun k h8 h9 => (hM k h8 h9))
                                    · intro c10
                                      refine Z.iload_n hX dX7_raise_113 rfl rfl ?_
                                      refine Z.bipush hX dX7_raise_114 (by decide) ?_
                                      refine Z.irem hX dX7_raise_116 (by omega) (by omega) (by omega) (by omega) ?_
                                      refine Z.iload hX dX7_raise_117 rfl ?_
                                      refine Z.bipush hX dX7_raise_119 (by decide) ?_
                                      refine Z.irem hX dX7_raise_121 (by omega) (by omega) (by omega) (by omega) ?_
                                      refine Z.iadd hX dX7_raise_122 ?_
                                      refine Z.bipush hX dX7_raise_123 (by decide) ?_
                                      refine Z.icmp_ge hX 154 dX7_raise_125 (by decide) ⟨by omega, by omega⟩ ⟨by omega, by omega⟩ ?_ ?_
                                      · intro c11
                                        refine Z.pick [0, 1, 2, 3, 4] rfl ?_
                                        exact key_154 _ (fun k h8 h9 => (hM k h8 h9))
                                      · intro c11
                                        refine Z.aload_n hX dX7_raise_128 rfl rfl ?_
                                        refine Z.getf hX 7 0 16 dX7_raise_129 rfl rfl inX7 (by decide) fl_X7_51 rfl rfl ?_
                                        refine Z.iload_n hX dX7_raise_132 rfl rfl ?_
                                        refine Z.iload hX dX7_raise_133 rfl ?_
                                        refine Z.iadd hX dX7_raise_135 ?_
                                        refine Z.dup2 hX dX7_raise_136 rfl rfl ?_
                                        refine Z.laload hX 14 1 dX7_raise_137 rfl rfl (by omega) (by omega) (by decide) ?_
                                        refine Z.aload_n hX dX7_raise_138 rfl rfl ?_
                                        refine Z.getf hX 7 0 15 dX7_raise_139 rfl rfl inX7 (by decide) fl_X7_48 rfl rfl ?_
                                        refine Z.iload_n hX dX7_raise_142 rfl rfl ?_
                                        refine Z.laload hX 13 1 dX7_raise_143 rfl rfl (by omega) (by omega) (by decide) ?_
                                        refine Z.aload_n hX dX7_raise_144 rfl rfl ?_
                                        refine Z.getf hX 7 0 14 dX7_raise_145 rfl rfl inX7 (by decide) fl_X7_45 rfl rfl ?_
                                        refine Z.iload hX dX7_raise_148 rfl ?_
                                        refine Z.laload hX 12 1 dX7_raise_150 rfl rfl (by omega) (by omega) (by decide) ?_
                                        refine Z.lmul hX dX7_raise_151 ?_
                                        refine Z.ladd hX dX7_raise_152 ?_
                                        refine Z.lastore hX 14 1 dX7_raise_153 rfl rfl (by omega) (by omega) (by decide) ?_
                                        obtain ⟨J12, eJ12⟩ : ∃ J' : Nat → Nat → Int64, J' = va_up M 9 (vp_updL (M 9) (a + b : Int).toNat ((M 9 (a + b : Int).toNat) + ((M 8 (a : Int).toNat) * (M 7 (b : Int).toNat)))) := ⟨_, rfl⟩
                                        refine Z.toW (w' := rW ce h F I J12) (by rw [eJ12]; rfl) ?_
                                        have gJ12 : J12 9 = vp_updL (M 9) (a + b : Int).toNat ((M 9 (a + b : Int).toNat) + ((M 8 (a : Int).toNat) * (M 7 (b : Int).toNat))) := by rw [eJ12]; exact up_eq
                                        have fJ12 : ∀ k, k ≠ 9 → J12 k = M k := fun k hk => by rw [eJ12]; exact up_ne hk
                                        refine Z.pick [0, 1, 2, 3, 4] rfl ?_
                                        exact key_154 _ (fun k h8 h9 => ((fJ12 k h9).trans (hM k h8 h9)))
                          refine Z.pick [0, 1, 2, 3, 4] rfl ?_
                          exact key_68 _ _ _ (Nat.lt_succ_self _) (by omega) (fun k h8 h9 => (hM k h8 h9))
                    refine Z.pick [0, 1, 2, 3] rfl ?_
                    exact key_59 _ _ _ (Nat.lt_succ_self _) (by omega) (fun k h8 h9 => (hM k h8 h9))
                  · intro c3
                    refine Z.aload_n hX dX7_raise_44 rfl rfl ?_
                    refine Z.getf hX 7 0 16 dX7_raise_45 rfl rfl inX7 (by decide) fl_X7_51 rfl rfl ?_
                    refine Z.iload_n hX dX7_raise_48 rfl rfl ?_
                    refine Z.lconst (v := 0) hX dX7_raise_49 rfl ?_
                    refine Z.lastore hX 14 1 dX7_raise_50 rfl rfl (by omega) (by omega) (by decide) ?_
                    obtain ⟨J13, eJ13⟩ : ∃ J' : Nat → Nat → Int64, J' = va_up M 9 (vp_updL (M 9) (i : Int).toNat (0)) := ⟨_, rfl⟩
                    refine Z.toW (w' := rW ce h F I J13) (by rw [eJ13]; rfl) ?_
                    have gJ13 : J13 9 = vp_updL (M 9) (i : Int).toNat (0) := by rw [eJ13]; exact up_eq
                    have fJ13 : ∀ k, k ≠ 9 → J13 k = M k := fun k hk => by rw [eJ13]; exact up_ne hk
                    refine Z.iinc (lv' := [(3, .int (zI (i + 1))), (2, .int (zI n)), (1, .int (zI k)), (0, .ref (h 0))]) hX dX7_raise_51 rfl (by decide) rfl ?_
                    refine Z.goto hX 38 dX7_raise_54 (by decide) ?_
                    refine Z.pick [0, 1, 2, 3] rfl ?_
                    exact ih_38 _ _ (by omega) (by omega) (fun k h8 h9 => ((fJ13 k h9).trans (hM k h8 h9)))
              refine Z.pick [0, 1, 2, 3] rfl ?_
              exact key_38 _ _ _ (Nat.lt_succ_self _) (by omega) (fun k h8 h9 => (hM k h8 h9))
        refine Z.pick [0, 1, 2] rfl ?_
        exact key_31 _ _ _ (Nat.lt_succ_self _) (by omega) (fun k h8 h9 => (hM k h8 h9))
      · intro c1
        refine Z.aload_n hX dX7_raise_8 rfl rfl ?_
        refine Z.getf hX 7 0 15 dX7_raise_9 rfl rfl inX7 (by decide) fl_X7_48 rfl rfl ?_
        refine Z.iload_n hX dX7_raise_12 rfl rfl ?_
        refine Z.iload_n hX dX7_raise_13 rfl rfl ?_
        refine Z.if_ne hX 21 dX7_raise_14 (by decide) ⟨by omega, by omega⟩ ?_ ?_
        · intro c14
          refine Z.lconst (v := 0) hX dX7_raise_21 rfl ?_
          refine Z.lastore hX 13 1 dX7_raise_22 rfl rfl (by omega) (by omega) (by decide) ?_
          obtain ⟨J15, eJ15⟩ : ∃ J' : Nat → Nat → Int64, J' = va_up M 8 (vp_updL (M 8) (i : Int).toNat (0)) := ⟨_, rfl⟩
          refine Z.toW (w' := rW ce h F I J15) (by rw [eJ15]; rfl) ?_
          have gJ15 : J15 8 = vp_updL (M 8) (i : Int).toNat (0) := by rw [eJ15]; exact up_eq
          have fJ15 : ∀ k, k ≠ 8 → J15 k = M k := fun k hk => by rw [eJ15]; exact up_ne hk
          refine Z.iinc (lv' := [(2, .int (zI (i + 1))), (1, .int (zI k)), (0, .ref (h 0))]) hX dX7_raise_23 rfl (by decide) rfl ?_
          refine Z.goto hX 2 dX7_raise_26 (by decide) ?_
          refine Z.pick [0, 1, 2] rfl ?_
          exact ih_2 _ _ (by omega) (by omega) (fun k h8 h9 => ((fJ15 k h8).trans (hM k h8 h9)))
        · intro c14
          refine Z.lconst (v := 1) hX dX7_raise_17 rfl ?_
          refine Z.goto hX 22 dX7_raise_18 (by decide) ?_
          refine Z.lastore hX 13 1 dX7_raise_22 rfl rfl (by omega) (by omega) (by decide) ?_
          obtain ⟨J16, eJ16⟩ : ∃ J' : Nat → Nat → Int64, J' = va_up M 8 (vp_updL (M 8) (i : Int).toNat (1)) := ⟨_, rfl⟩
          refine Z.toW (w' := rW ce h F I J16) (by rw [eJ16]; rfl) ?_
          have gJ16 : J16 8 = vp_updL (M 8) (i : Int).toNat (1) := by rw [eJ16]; exact up_eq
          have fJ16 : ∀ k, k ≠ 8 → J16 k = M k := fun k hk => by rw [eJ16]; exact up_ne hk
          refine Z.iinc (lv' := [(2, .int (zI (i + 1))), (1, .int (zI k)), (0, .ref (h 0))]) hX dX7_raise_23 rfl (by decide) rfl ?_
          refine Z.goto hX 2 dX7_raise_26 (by decide) ?_
          refine Z.pick [0, 1, 2] rfl ?_
          exact ih_2 _ _ (by omega) (by omega) (fun k h8 h9 => ((fJ16 k h8).trans (hM k h8 h9)))
  refine Z.pick [0, 2, 1] rfl ?_
  exact key_2 _ _ _ (Nat.lt_succ_self _) (by omega) (fun k h8 h9 => rfl)

