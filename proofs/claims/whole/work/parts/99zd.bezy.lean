theorem bz_I {e : Nat → Int64} {f g : Int → Nat → Int} {i j n q : Int} (hij : 0 ≤ i ∧ i ≤ j) (hq : q = i + 1 ∧ i ≤ n - 1 - j ∨ q = n - 1 - j + 1 ∧ n - 1 - j ≤ i ∧ j < n) (h : CG (pw ixs e 28) (fun z => bzs (f z) (g z) i.toNat j.toNat q.toNat)) : CG (pw ixs e 28) (fun t => bzI (f t) (g t) n.toNat i.toNat j.toNat) := h.tr (CG.ex (fun t => by
  unfold bzI
  rw [show min i.toNat j.toNat = i.toNat by omega, show max i.toNat j.toNat = j.toNat by omega, show q.toNat = min i.toNat (n.toNat - 1 - j.toNat) + 1 by omega]))
theorem bz_le1 {e : Nat → Int64} {X Y W : Nat → Int} {lo hi k : Nat} {b : Int} (h : CG (pw ixs e 28) (fun z => bzs (fX X W z) (fY Y W z) lo hi k)) (hb : b ≤ 2) (hd : b = 0 ∨ ¬ deg0 e b) : b ≤ 1 := by
  obtain ⟨α, β, γ, hl⟩ := bzs_lin X Y W lo hi k
  have h2 : deg0 e 2 := bz_deg (h.tr (CG.ex hl))
  rcases hd with z | z
  · omega
  · apply Classical.byContradiction
    intro y
    have : b = 2 := by omega
    rw [this] at z
    exact z h2
theorem pc4 {s n : Int} (hn : 1 ≤ n ∧ n ≤ 4) (h0 : 0 ≤ s) (h : s < ((2 ^ n.toNat : Nat) : Int)) : (pc8 s.toNat : Int) ≤ n := by
  have h1 : n = 1 ∨ n = 2 ∨ n = 3 ∨ n = 4 := by omega
  have hh : ∀ m : Fin 5, ∀ s : Fin 16, s.val < 2 ^ m.val → pc8 s.val ≤ m.val := by decide +kernel
  have hle : 2 ^ n.toNat ≤ 2 ^ 4 := Nat.pow_le_pow_right (by decide) (by omega)
  have := hh ⟨n.toNat, by omega⟩ ⟨s.toNat, by omega⟩ (by simp only; omega)
  simp only at this
  omega
set_option maxHeartbeats 4000000 in
set_option maxRecDepth 100000 in
theorem ct_X5_isZero_fy (l : Launch) (D : va_G) (ce : Nat → ClassId) (h pl ar : Nat → Nat) (G : Nat → Int) (L : Nat → Nat → Int64) (B : Nat → Int) (J : Nat → Nat → Int64) (i : Int) (hi : 0 ≤ i ∧ i ≤ 2) : Ct l yX5_isZero cX5_isZero 2 (some .boolean) { frames := 1, cells := 0, slots := 0, locals := 21 } 0 0 D (TY ce) [.ref (h 2), .int (zI i)] (cW ce h pl ar G L B J) (QI D (TY ce) (fun r w1 => ∃ z : Int, r = zI z ∧ w1 = cW ce h pl ar G L B J ∧ (z = 0 ∨ z = 1) ∧ (z = 1 → ¬ NZf (L (3 + i.toNat))) ∧ (z = 0 → NZf (L (3 + i.toNat))))) := by
  refine Ct.ofB (by decide) (Nat.le_of_ble_eq_true rfl) ?_
  intro p e s m args below meth c A Q hX hnm hR
  refine Z.pick (lv' := [(0, .ref (h 2)), (1, .int (zI i))]) [0, 1] rfl ?_
  refine Z.aload_n hX dX5_isZero_0 rfl rfl ?_
  refine Z.getf hX 5 2 0 dX5_isZero_1 rfl rfl inX5 (by decide) fl_X5_11 rfl rfl ?_
  refine Z.iload_n hX dX5_isZero_4 rfl rfl ?_
  refine Z.aaload hX 10 3 dX5_isZero_5 rfl rfl rfl (by omega) (by omega) (by decide) rfl ?_
  refine Z.callS1i (As := [.ref (h (18 + (3 + (i : Int).toNat)))]) (rest := []) hX (18 + (3 + (i : Int).toNat)) (cW_in (by omega)) (ct_X5_topOf l D ce ((h (18 + (3 + (i : Int).toNat)))) (L ((3 + (i : Int).toNat))) ) mc_X5_topOf ml_X5_16 st_X5_topOf ini_X5 nd_X5_topOf ⟨Nat.le_of_ble_eq_true rfl, Nat.le_of_ble_eq_true rfl⟩ ⟨rfl, rfl⟩ ⟨Nat.le_refl _, Nat.le_refl _⟩ rfl (Nat.le_of_ble_eq_true rfl) dX5_isZero_6 ?_
  rintro r_1 w1 ⟨tp, hr_, hw_, t1, t2, t3⟩
  subst hr_
  refine ⟨_, hw_, ?_⟩
  refine Z.toW (w' := cW ce h pl ar G L B J) (set_self (cW_in (by omega))) ?_
  refine Z.if_ge hX 16 dX5_isZero_9 (by decide) ⟨by omega, by omega⟩ ?_ ?_
  · intro c2
    refine Z.iconst hX dX5_isZero_16 ?_
    exact hR _ _ _ _ dX5_isZero_17 rfl ⟨0, rfl, rfl, (by omega), (fun q => by omega), (fun _ => nz_0 t1 (by omega) t3)⟩
  · intro c2
    refine Z.iconst hX dX5_isZero_12 ?_
    refine Z.goto hX 17 dX5_isZero_13 (by decide) ?_
    exact hR _ _ _ _ dX5_isZero_17 rfl ⟨1, rfl, rfl, (by omega), (fun _ => nz_1 (by omega) t2), (fun q => by omega)⟩

set_option maxHeartbeats 4000000 in
set_option maxRecDepth 100000 in
theorem ct_X2_takeMover_y (l : Launch) (D : va_G) (ce : Nat → ClassId) (h pl ar : Nat → Nat) (G : Nat → Int) (L : Nat → Nat → Int64) (B : Nat → Int) (J : Nat → Nat → Int64) (hB : BOK B) : Ct l yX2_takeMover cX2_takeMover 4 (some .int) { frames := 3, cells := 0, slots := 0, locals := 70 } 0 0 D (TY ce) [.ref (h 4), .ref (h 2)] (cW ce h pl ar G L B J) (QI D (TY ce) (fun r w1 => ∃ z : Int, ∃ B2 : Nat → Int, ∃ J2 : Nat → Nat → Int64, r = zI z ∧ w1 = cW ce h pl ar G L B2 J2 ∧ (BOK B2) ∧ (0 ≤ z ∧ z ≤ 4) ∧ (TK L z) ∧ (MVp B2 J2 L (z + 1)))) := by
  refine Ct.ofI (by decide) (Nat.le_of_ble_eq_true rfl) ?_
  intro p e s m args below meth c A Q hX hnm hR
  refine Z.pick (lv' := [(0, .ref (h 4)), (1, .ref (h 2))]) [0, 1] rfl ?_
  have key_16 : ∀ (tp : Int), (ht : 0 ≤ tp ∧ tp ≤ 4) → (htk : TK L tp) → Z p l e { frames := 3, cells := 0, slots := 0, locals := 70 } s m args below meth c D A 4 0 0 Q 16 [(1, .ref (h 2)), (0, .ref (h 4))] [.int (zI tp)] (cW ce h pl ar G L B J) := by
    intro tp ht htk
    refine Z.istore_n (lv' := [(2, .int (zI tp)), (1, .ref (h 2)), (0, .ref (h 4))]) hX dX2_takeMover_16 rfl (by decide) rfl ?_
    refine Z.iconst hX dX2_takeMover_17 ?_
    refine Z.istore_n (lv' := [(3, .int (zI 0)), (2, .int (zI tp)), (1, .ref (h 2)), (0, .ref (h 4))]) hX dX2_takeMover_18 rfl (by decide) rfl ?_
    have key_19 : ∀ (N : Nat), ∀ (i : Int) (BB : Nat → Int) (MM : Nat → Nat → Int64), (tp + 1 - i).toNat < N → (hi : 0 ≤ i ∧ i ≤ tp + 1) → (hM : BOK BB) → (hmv : MVp BB MM L i) → Z p l e { frames := 3, cells := 0, slots := 0, locals := 70 } s m args below meth c D A 4 0 0 Q 19 [(3, .int (zI i)), (2, .int (zI tp)), (1, .ref (h 2)), (0, .ref (h 4))] [] (cW ce h pl ar G L BB MM) := by
      intro N
      induction N with
      | zero => intro i BB MM hm; exact absurd hm (Nat.not_lt_zero _)
      | succ N ih_19 =>
        intro i BB MM hm hi hM hmv
        refine Z.iload_n hX dX2_takeMover_19 rfl rfl ?_
        refine Z.iload_n hX dX2_takeMover_20 rfl rfl ?_
        refine Z.icmp_gt hX 84 dX2_takeMover_21 (by decide) ⟨by omega, by omega⟩ ⟨by omega, by omega⟩ ?_ ?_
        · intro c1
          refine Z.iload_n hX dX2_takeMover_84 rfl rfl ?_
          exact hR _ _ _ _ dX2_takeMover_85 ⟨tp, BB, MM, rfl, rfl, hM, (by omega), htk, (by rw [show tp + 1 = i by omega]; exact hmv)⟩
        · intro c1
          refine Z.aload_n hX dX2_takeMover_24 rfl rfl ?_
          refine Z.getf hX 2 4 0 dX2_takeMover_25 rfl rfl inX2 (by decide) fl_X2_11 rfl rfl ?_
          refine Z.iload_n hX dX2_takeMover_28 rfl rfl ?_
          refine Z.aaload hX 14 4 dX2_takeMover_29 rfl rfl rfl (by omega) (by omega) (by decide) rfl ?_
          refine Z.aload_n hX dX2_takeMover_30 rfl rfl ?_
          refine Z.getf hX 5 2 0 dX2_takeMover_31 rfl rfl inX5 (by decide) fl_X2_37 rfl rfl ?_
          refine Z.iconst hX dX2_takeMover_34 ?_
          refine Z.aaload hX 10 3 dX2_takeMover_35 rfl rfl rfl (by omega) (by omega) (by decide) rfl ?_
          refine Z.iload_n hX dX2_takeMover_36 rfl rfl ?_
          refine Z.laload hX (18 + (3 + 2)) 1 dX2_takeMover_37 (cW_in (by omega)) rfl (by omega) (by omega) (by decide) ?_
          refine Z.lneg hX dX2_takeMover_38 ?_
          refine Z.lconst (v := 0) hX dX2_takeMover_39 rfl ?_
          refine Z.aload_n hX dX2_takeMover_40 rfl rfl ?_
          refine Z.getf hX 5 2 0 dX2_takeMover_41 rfl rfl inX5 (by decide) fl_X2_37 rfl rfl ?_
          refine Z.iconst hX dX2_takeMover_44 ?_
          refine Z.aaload hX 10 3 dX2_takeMover_45 rfl rfl rfl (by omega) (by omega) (by decide) rfl ?_
          refine Z.iload_n hX dX2_takeMover_46 rfl rfl ?_
          refine Z.laload hX (18 + (3 + 0)) 1 dX2_takeMover_47 (cW_in (by omega)) rfl (by omega) (by omega) (by decide) ?_
          refine Z.callVfv (As := [.long (-(L ((3 + 2)) (i : Int).toNat)), .long 0, .long (L ((3 + 0)) (i : Int).toNat)]) (rest := []) hX 3 (24 + (i : Int).toNat) rfl (cW_pl (by omega)) (ct_X3_setLine_y l D ce h pl ar G L BB MM ((i : Int).toNat) (-(L ((3 + 2)) (i : Int).toNat)) 0 (L ((3 + 0)) (i : Int).toNat) (by omega) hM) mc_X3_setLine ml_X2_41 im_X3_setLine se_X3_setLine ini_X3 nd_X3_setLine ⟨Nat.le_of_ble_eq_true rfl, Nat.le_of_ble_eq_true rfl⟩ ⟨rfl, rfl⟩ ⟨Nat.le_refl _, Nat.le_refl _⟩ rfl (Nat.le_of_ble_eq_true rfl) dX2_takeMover_48 ?_
          rintro w1 ⟨Bs, Js, hw_, hs1, hs2, hs3, hs4, hs5⟩
          subst hw_
          refine Z.aload_n hX dX2_takeMover_51 rfl rfl ?_
          refine Z.getf hX 2 4 1 dX2_takeMover_52 rfl rfl inX2 (by decide) fl_X2_17 rfl rfl ?_
          refine Z.iload_n hX dX2_takeMover_55 rfl rfl ?_
          refine Z.aaload hX 15 4 dX2_takeMover_56 rfl rfl rfl (by omega) (by omega) (by decide) rfl ?_
          refine Z.lconst (v := 0) hX dX2_takeMover_57 rfl ?_
          refine Z.aload_n hX dX2_takeMover_58 rfl rfl ?_
          refine Z.getf hX 5 2 0 dX2_takeMover_59 rfl rfl inX5 (by decide) fl_X2_37 rfl rfl ?_
          refine Z.iconst hX dX2_takeMover_62 ?_
          refine Z.aaload hX 10 3 dX2_takeMover_63 rfl rfl rfl (by omega) (by omega) (by decide) rfl ?_
          refine Z.iload_n hX dX2_takeMover_64 rfl rfl ?_
          refine Z.laload hX (18 + (3 + 2)) 1 dX2_takeMover_65 (cW_in (by omega)) rfl (by omega) (by omega) (by decide) ?_
          refine Z.lneg hX dX2_takeMover_66 ?_
          refine Z.aload_n hX dX2_takeMover_67 rfl rfl ?_
          refine Z.getf hX 5 2 0 dX2_takeMover_68 rfl rfl inX5 (by decide) fl_X2_37 rfl rfl ?_
          refine Z.iconst hX dX2_takeMover_71 ?_
          refine Z.aaload hX 10 3 dX2_takeMover_72 rfl rfl rfl (by omega) (by omega) (by decide) rfl ?_
          refine Z.iload_n hX dX2_takeMover_73 rfl rfl ?_
          refine Z.laload hX (18 + (3 + 1)) 1 dX2_takeMover_74 (cW_in (by omega)) rfl (by omega) (by omega) (by decide) ?_
          refine Z.callVfv (As := [.long 0, .long (-(L ((3 + 2)) (i : Int).toNat)), .long (L ((3 + 1)) (i : Int).toNat)]) (rest := []) hX 3 (24 + (5 + (i : Int).toNat)) rfl (cW_pl (by omega)) (ct_X3_setLine_y l D ce h pl ar G L Bs Js ((5 + (i : Int).toNat)) 0 (-(L ((3 + 2)) (i : Int).toNat)) (L ((3 + 1)) (i : Int).toNat) (by omega) hs3) mc_X3_setLine ml_X2_41 im_X3_setLine se_X3_setLine ini_X3 nd_X3_setLine ⟨Nat.le_of_ble_eq_true rfl, Nat.le_of_ble_eq_true rfl⟩ ⟨rfl, rfl⟩ ⟨Nat.le_refl _, Nat.le_refl _⟩ rfl (Nat.le_of_ble_eq_true rfl) dX2_takeMover_75 ?_
          rintro w1 ⟨Bt, Jt, hw_, ht1, ht2, ht3, ht4, ht5⟩
          subst hw_
          refine Z.iinc (lv' := [(3, .int (zI (i + 1))), (2, .int (zI tp)), (1, .ref (h 2)), (0, .ref (h 4))]) hX dX2_takeMover_78 rfl (by decide) rfl ?_
          refine Z.goto hX 19 dX2_takeMover_81 (by decide) ?_
          refine Z.pick [0, 1, 2, 3] rfl ?_
          exact ih_19 _ _ _ (by omega) (by omega) ht3 (mv_s (by omega) hmv hs1 hs2 hs4 hs5 ht1 ht2 ht4 ht5)
    refine Z.pick [0, 1, 2, 3] rfl ?_
    exact key_19 _ _ _ _ (Nat.lt_succ_self _) (by omega) hB mv_0
  refine Z.aload_n hX dX2_takeMover_0 rfl rfl ?_
  refine Z.iconst hX dX2_takeMover_1 ?_
  refine Z.callVfi (As := [.int (zI 2)]) (rest := []) hX 5 2 rfl rfl (ct_X5_isZero_fy l D ce h pl ar G L B J 2 (by omega)) mc_X5_isZero ml_X2_27 im_X5_isZero se_X5_isZero ini_X5 nd_X5_isZero ⟨Nat.le_of_ble_eq_true rfl, Nat.le_of_ble_eq_true rfl⟩ ⟨rfl, rfl⟩ ⟨Nat.le_refl _, Nat.le_refl _⟩ rfl (Nat.le_of_ble_eq_true rfl) dX2_takeMover_2 ?_
  rintro r_4 w1 ⟨iz, hr_, hw_, i1, i2, i3⟩
  subst hr_
  subst hw_
  refine Z.if_eq hX 12 dX2_takeMover_5 (by decide) ⟨by omega, by omega⟩ ?_ ?_
  · intro c5
    refine Z.aload_n hX dX2_takeMover_12 rfl rfl ?_
    refine Z.callVfi (As := []) (rest := []) hX 5 2 rfl rfl (ct_X5_highestPower_f l D ce h pl ar G L B J ) mc_X5_highestPower ml_X2_33 im_X5_highestPower se_X5_highestPower ini_X5 nd_X5_highestPower ⟨Nat.le_of_ble_eq_true rfl, Nat.le_of_ble_eq_true rfl⟩ ⟨rfl, rfl⟩ ⟨Nat.le_refl _, Nat.le_refl _⟩ rfl (Nat.le_of_ble_eq_true rfl) dX2_takeMover_13 ?_
    rintro r_6 w1 ⟨hp, hr_, hw_, n1, n2, n3⟩
    subst hr_
    subst hw_
    refine Z.pick [1, 0] rfl ?_
    exact key_16 _ (by omega) (by first | exact Or.inl ⟨rfl, i2 (by omega)⟩ | exact Or.inr ⟨⟨n1, n2, n3⟩, i3 (by omega)⟩)
  · intro c5
    refine Z.iconst hX dX2_takeMover_8 ?_
    refine Z.goto hX 16 dX2_takeMover_9 (by decide) ?_
    refine Z.pick [1, 0] rfl ?_
    exact key_16 _ (by omega) (by first | exact Or.inl ⟨rfl, i2 (by omega)⟩ | exact Or.inr ⟨⟨n1, n2, n3⟩, i3 (by omega)⟩)

set_option maxHeartbeats 4000000 in
set_option maxRecDepth 100000 in
theorem ct_X2_fillEntry_y (l : Launch) (D : va_G) (ce : Nat → ClassId) (h pl ar : Nat → Nat) (G : Nat → Int) (L : Nat → Nat → Int64) (B : Nat → Int) (J : Nat → Nat → Int64) (i j size : Int) (hB : BOK B) (hij : 0 ≤ i ∧ i ≤ j ∧ j < size ∧ size ≤ 4) (hmv : MVp B J L (size + 1)) (hsz : sz3 L) : Ct l yX2_fillEntry cX2_fillEntry 7 none { frames := 3, cells := 0, slots := 0, locals := 62 } 0 0 D (TY ce) [.ref (h 4), .int (zI i), .int (zI j), .int (zI size)] (cW ce h pl ar G L B J) (QV D (TY ce) (fun w1 => ∃ B2 : Nat → Int, ∃ J2 : Nat → Nat → Int64, w1 = cW ce h pl ar G L B2 J2 ∧ (BOK B2) ∧ (∀ k, k ≠ (10 + tri (i * 4 + j).toNat) → B2 k = B k) ∧ (∀ k, k ≠ (10 + tri (i * 4 + j).toNat) → J2 k = J k) ∧ (ENT B2 J2 L size.toNat i j))) := by
  refine Ct.ofV (by decide) (Nat.le_of_ble_eq_true rfl) ?_
  intro p e s m args below meth c A Q hX hnm hR
  refine Z.pick (lv' := [(0, .ref (h 4)), (1, .int (zI i)), (2, .int (zI j)), (3, .int (zI size))]) [0, 1, 2, 3] rfl ?_
  have htl := tri_lt (i * 4 + j : Int).toNat
  refine Z.aload_n hX dX2_fillEntry_0 rfl rfl ?_
  refine Z.getf hX 2 4 2 dX2_fillEntry_1 rfl rfl inX2 (by decide) fl_X2_20 rfl rfl ?_
  refine Z.iload_n hX dX2_fillEntry_4 rfl rfl ?_
  refine Z.iconst hX dX2_fillEntry_5 ?_
  refine Z.imul hX dX2_fillEntry_6 ?_
  refine Z.iload_n hX dX2_fillEntry_7 rfl rfl ?_
  refine Z.iadd hX dX2_fillEntry_8 ?_
  refine Z.aaload hX 16 4 dX2_fillEntry_9 rfl rfl rfl (by omega) (by omega) (by decide) rfl ?_
  refine Z.astore (lv' := [(4, .ref (pl (10 + tri ((i * 4) + j : Int).toNat))), (0, .ref (h 4)), (1, .int (zI i)), (2, .int (zI j)), (3, .int (zI size))]) hX dX2_fillEntry_10 (by decide) rfl ?_
  refine Z.aload hX dX2_fillEntry_12 rfl ?_
  refine Z.callVfv (As := []) (rest := []) hX 3 (24 + (10 + tri ((i * 4) + j : Int).toNat)) rfl (cW_pl (by have := tri_lt ((i * 4) + j : Int).toNat; omega)) (ct_X3_erase_y l D ce h pl ar G L B J ((10 + tri ((i * 4) + j : Int).toNat)) (by omega) hB) mc_X3_erase ml_X2_53 im_X3_erase se_X3_erase ini_X3 nd_X3_erase ⟨Nat.le_of_ble_eq_true rfl, Nat.le_of_ble_eq_true rfl⟩ ⟨rfl, rfl⟩ ⟨Nat.le_refl _, Nat.le_refl _⟩ rfl (Nat.le_of_ble_eq_true rfl) dX2_fillEntry_14 ?_
  rintro w1 ⟨Bp, Jp, hw_, hp1, hp2, hp3, hp4, hp5⟩
  subst hw_
  refine Z.iload_n hX dX2_fillEntry_17 rfl rfl ?_
  refine Z.iload_n hX dX2_fillEntry_18 rfl rfl ?_
  refine Z.iconst hX dX2_fillEntry_19 ?_
  refine Z.isub hX dX2_fillEntry_20 ?_
  refine Z.iload_n hX dX2_fillEntry_21 rfl rfl ?_
  refine Z.isub hX dX2_fillEntry_22 ?_
  refine Z.mmin hX dX2_fillEntry_23 mm_X2_64 ⟨by omega, by omega⟩ ⟨by omega, by omega⟩ (by decide) (Nat.le_of_ble_eq_true rfl) (Nat.le_refl _) (Nat.le_refl _) ?_
  obtain ⟨z2, ez2⟩ : ∃ x : Int, x = (if (size - 1) - j < i then (size - 1) - j else i) := ⟨_, rfl⟩
  rw [← ez2]
  have hla : z2 ≤ i ∧ z2 ≤ size - 1 - j := by rw [ez2]; split <;> omega
  have hla2 : z2 = i ∨ z2 = size - 1 - j := by rw [ez2]; split <;> omega
  obtain ⟨la, ela⟩ : ∃ x : Int, x = z2 := ⟨_, rfl⟩
  rw [← ela]
  rw [← ela] at hla hla2
  refine Z.istore (lv' := [(5, .int (zI la)), (4, .ref (pl (10 + tri ((i * 4) + j : Int).toNat))), (0, .ref (h 4)), (1, .int (zI i)), (2, .int (zI j)), (3, .int (zI size))]) hX dX2_fillEntry_26 (by decide) rfl ?_
  refine Z.iconst hX dX2_fillEntry_28 ?_
  refine Z.istore (lv' := [(6, .int (zI 0)), (5, .int (zI la)), (4, .ref (pl (10 + tri ((i * 4) + j : Int).toNat))), (0, .ref (h 4)), (1, .int (zI i)), (2, .int (zI j)), (3, .int (zI size))]) hX dX2_fillEntry_29 (by decide) rfl ?_
  have key_31 : ∀ (N : Nat), ∀ (q : Int) (BB : Nat → Int) (MM : Nat → Nat → Int64), (la + 1 - q).toNat < N → (hq : 0 ≤ q ∧ (q ≤ la + 1 ∨ q = 0)) → (hM : BOK BB) → (hfr : ∀ k, k ≠ (10 + tri (i * 4 + j).toNat) → BB k = B k ∧ MM k = J k) → (hC : CG (pw ixs (MM (10 + tri (i * 4 + j).toNat)) 28) (fun z => bzs (fX (ti (L 3)) (ti (L 5)) z) (fY (ti (L 4)) (ti (L 5)) z) i.toNat j.toNat q.toNat)) → (hpz : PZ (MM (10 + tri (i * 4 + j).toNat)) (BB (10 + tri (i * 4 + j).toNat))) → (hbe : BB (10 + tri (i * 4 + j).toNat) ≤ 2) → Z p l e { frames := 3, cells := 0, slots := 0, locals := 62 } s m args below meth c D A 7 0 0 Q 31 [(6, .int (zI q)), (5, .int (zI la)), (4, .ref (pl (10 + tri (i * 4 + j : Int).toNat))), (3, .int (zI size)), (2, .int (zI j)), (1, .int (zI i)), (0, .ref (h 4))] [] (cW ce h pl ar G L BB MM) := by
    intro N
    induction N with
    | zero => intro q BB MM hm; exact absurd hm (Nat.not_lt_zero _)
    | succ N ih_31 =>
      intro q BB MM hm hq hM hfr hC hpz hbe
      refine Z.iload hX dX2_fillEntry_31 rfl ?_
      refine Z.iload hX dX2_fillEntry_33 rfl ?_
      refine Z.icmp_gt hX 98 dX2_fillEntry_35 (by decide) ⟨by omega, by omega⟩ ⟨by omega, by omega⟩ ?_ ?_
      · intro c3
        refine Z.aload hX dX2_fillEntry_98 rfl ?_
        refine Z.callVfv (As := []) (rest := []) hX 3 (24 + (10 + tri (i * 4 + j : Int).toNat)) rfl (cW_pl (by have := tri_lt (i * 4 + j : Int).toNat; omega)) (ct_X3_tighten_y l D ce h pl ar G L BB MM ((10 + tri (i * 4 + j : Int).toNat)) (by omega) hM hpz) mc_X3_tighten ml_X2_76 im_X3_tighten se_X3_tighten ini_X3 nd_X3_tighten ⟨Nat.le_of_ble_eq_true rfl, Nat.le_of_ble_eq_true rfl⟩ ⟨rfl, rfl⟩ ⟨Nat.le_refl _, Nat.le_refl _⟩ rfl (Nat.le_of_ble_eq_true rfl) dX2_fillEntry_100 ?_
        rintro w1 ⟨Bc, hw_, hc1, hc2, hc3, hc4, hc5⟩
        subst hw_
        exact hR _ _ _ dX2_fillEntry_103 ⟨Bc, MM, rfl, hc2, (fun k hk => (hc1 k hk).trans (hfr k hk).1), (fun k hk => (hfr k hk).2), ⟨bz_I (by omega) (by omega) hC, hc4, bz_le1 hC (by omega) hc5⟩⟩
      · intro c3
        refine Z.aload hX dX2_fillEntry_38 rfl ?_
        refine Z.aload_n hX dX2_fillEntry_40 rfl rfl ?_
        refine Z.getf hX 2 4 0 dX2_fillEntry_41 rfl rfl inX2 (by decide) fl_X2_11 rfl rfl ?_
        refine Z.iload_n hX dX2_fillEntry_44 rfl rfl ?_
        refine Z.iload hX dX2_fillEntry_45 rfl ?_
        refine Z.iadd hX dX2_fillEntry_47 ?_
        refine Z.iconst hX dX2_fillEntry_48 ?_
        refine Z.iadd hX dX2_fillEntry_49 ?_
        refine Z.aaload hX 14 4 dX2_fillEntry_50 rfl rfl rfl (by omega) (by omega) (by decide) rfl ?_
        refine Z.aload_n hX dX2_fillEntry_51 rfl rfl ?_
        refine Z.getf hX 2 4 1 dX2_fillEntry_52 rfl rfl inX2 (by decide) fl_X2_17 rfl rfl ?_
        refine Z.iload_n hX dX2_fillEntry_55 rfl rfl ?_
        refine Z.iload hX dX2_fillEntry_56 rfl ?_
        refine Z.isub hX dX2_fillEntry_58 ?_
        refine Z.aaload hX 15 4 dX2_fillEntry_59 rfl rfl rfl (by omega) (by omega) (by decide) rfl ?_
        refine Z.lconst (v := 1) hX dX2_fillEntry_60 rfl ?_
        have hx1 := hmv (j + q + 1) (by omega) (by omega)
        have hx2 := hmv (i - q) (by omega) (by omega)
        have bx1 : BB (j + q + 1).toNat = 1 := by rw [(hfr _ (by omega)).1]; exact hx1.1.1
        have zx1 : PZ (MM (j + q + 1).toNat) (BB (j + q + 1).toNat) := by rw [bx1, (hfr _ (by omega)).2]; exact LN_z hx1.1.2
        have by2 : BB (5 + (i - q).toNat) = 1 := by rw [(hfr _ (by omega)).1]; exact hx2.2.1
        have zy2 : PZ (MM (5 + (i - q).toNat)) (BB (5 + (i - q).toNat)) := by rw [by2, (hfr _ (by omega)).2]; exact LN_z hx2.2.2
        have ex1 : ∀ t, pw ixs (MM (j + q + 1).toNat) 28 t = fX (ti (L 3)) (ti (L 5)) t (j.toNat + q.toNat + 1) := fun t => by rw [(hfr _ (by omega)).2, mv_x hsz hmv (by omega) (by omega) (by omega), show (j + q + 1).toNat = j.toNat + q.toNat + 1 by omega]
        have ey2 : ∀ t, pw ixs (MM (5 + (i - q).toNat)) 28 t = fY (ti (L 4)) (ti (L 5)) t (i.toNat - q.toNat) := fun t => by rw [(hfr _ (by omega)).2, mv_y hsz hmv (by omega) (by omega) (by omega), show (i - q).toNat = i.toNat - q.toNat by omega]
        refine Z.callVfv (As := [.ref (pl ((j + q) + 1 : Int).toNat), .ref (pl (5 + (i - q : Int).toNat)), .long 1]) (rest := []) hX 3 (24 + (10 + tri (i * 4 + j : Int).toNat)) rfl (cW_pl (by have := tri_lt (i * 4 + j : Int).toNat; omega)) (ct_X3_addProduct_y l D ce h pl ar G L BB MM ((10 + tri (i * 4 + j : Int).toNat)) (((j + q) + 1 : Int).toNat) ((5 + (i - q : Int).toNat)) 1 (by omega) hM (by omega) (by omega) zx1 zy2 hpz (by omega)) mc_X3_addProduct ml_X2_70 im_X3_addProduct se_X3_addProduct ini_X3 nd_X3_addProduct ⟨Nat.le_of_ble_eq_true rfl, Nat.le_of_ble_eq_true rfl⟩ ⟨rfl, rfl⟩ ⟨Nat.le_refl _, Nat.le_refl _⟩ rfl (Nat.le_of_ble_eq_true rfl) dX2_fillEntry_61 ?_
        rintro w1 ⟨Ba, Ja, hw_, ha1, ha2, ha3, ha4, ha5, ha6⟩
        subst hw_
        refine Z.aload hX dX2_fillEntry_64 rfl ?_
        refine Z.aload_n hX dX2_fillEntry_66 rfl rfl ?_
        refine Z.getf hX 2 4 0 dX2_fillEntry_67 rfl rfl inX2 (by decide) fl_X2_11 rfl rfl ?_
        refine Z.iload_n hX dX2_fillEntry_70 rfl rfl ?_
        refine Z.iload hX dX2_fillEntry_71 rfl ?_
        refine Z.isub hX dX2_fillEntry_73 ?_
        refine Z.aaload hX 14 4 dX2_fillEntry_74 rfl rfl rfl (by omega) (by omega) (by decide) rfl ?_
        refine Z.aload_n hX dX2_fillEntry_75 rfl rfl ?_
        refine Z.getf hX 2 4 1 dX2_fillEntry_76 rfl rfl inX2 (by decide) fl_X2_17 rfl rfl ?_
        refine Z.iload_n hX dX2_fillEntry_79 rfl rfl ?_
        refine Z.iload hX dX2_fillEntry_80 rfl ?_
        refine Z.iadd hX dX2_fillEntry_82 ?_
        refine Z.iconst hX dX2_fillEntry_83 ?_
        refine Z.iadd hX dX2_fillEntry_84 ?_
        refine Z.aaload hX 15 4 dX2_fillEntry_85 rfl rfl rfl (by omega) (by omega) (by decide) rfl ?_
        refine Z.ldc2 hX dX2_fillEntry_86 co_X2_74 ?_
        have bx3 : Ba (i - q).toNat = 1 := by rw [ha1 _ (by omega), (hfr _ (by omega)).1]; exact hx2.1.1
        have zx3 : PZ (Ja (i - q).toNat) (Ba (i - q).toNat) := by rw [bx3, ha2 _ (by omega), (hfr _ (by omega)).2]; exact LN_z hx2.1.2
        have by4 : Ba (5 + (j + q + 1).toNat) = 1 := by rw [ha1 _ (by omega), (hfr _ (by omega)).1]; exact hx1.2.1
        have zy4 : PZ (Ja (5 + (j + q + 1).toNat)) (Ba (5 + (j + q + 1).toNat)) := by rw [by4, ha2 _ (by omega), (hfr _ (by omega)).2]; exact LN_z hx1.2.2
        have ex3 : ∀ t, pw ixs (Ja (i - q).toNat) 28 t = fX (ti (L 3)) (ti (L 5)) t (i.toNat - q.toNat) := fun t => by rw [ha2 _ (by omega), (hfr _ (by omega)).2, mv_x hsz hmv (by omega) (by omega) (by omega), show (i - q).toNat = i.toNat - q.toNat by omega]
        have ey4 : ∀ t, pw ixs (Ja (5 + (j + q + 1).toNat)) 28 t = fY (ti (L 4)) (ti (L 5)) t (j.toNat + q.toNat + 1) := fun t => by rw [ha2 _ (by omega), (hfr _ (by omega)).2, mv_y hsz hmv (by omega) (by omega) (by omega), show (j + q + 1).toNat = j.toNat + q.toNat + 1 by omega]
        refine Z.callVfv (As := [.ref (pl (i - q : Int).toNat), .ref (pl (5 + ((j + q) + 1 : Int).toNat)), .long (-1)]) (rest := []) hX 3 (24 + (10 + tri (i * 4 + j : Int).toNat)) rfl (cW_pl (by have := tri_lt (i * 4 + j : Int).toNat; omega)) (ct_X3_addProduct_y l D ce h pl ar G L Ba Ja ((10 + tri (i * 4 + j : Int).toNat)) ((i - q : Int).toNat) ((5 + ((j + q) + 1 : Int).toNat)) (-1) (by omega) ha3 (by omega) (by omega) zx3 zy4 ha5 (by omega)) mc_X3_addProduct ml_X2_70 im_X3_addProduct se_X3_addProduct ini_X3 nd_X3_addProduct ⟨Nat.le_of_ble_eq_true rfl, Nat.le_of_ble_eq_true rfl⟩ ⟨rfl, rfl⟩ ⟨Nat.le_refl _, Nat.le_refl _⟩ rfl (Nat.le_of_ble_eq_true rfl) dX2_fillEntry_89 ?_
        rintro w1 ⟨Bb, Jb, hw_, hb1, hb2, hb3, hb4, hb5, hb6⟩
        subst hw_
        have hba : Ba (10 + tri (i * 4 + j).toNat) ≤ 2 := by rw [ha6, bx1, by2]; split <;> omega
        have hbb : Bb (10 + tri (i * 4 + j).toNat) ≤ 2 := by rw [hb6, bx3, by4]; split <;> omega
        refine Z.iinc (lv' := [(6, .int (zI (q + 1))), (5, .int (zI la)), (4, .ref (pl (10 + tri (i * 4 + j : Int).toNat))), (3, .int (zI size)), (2, .int (zI j)), (1, .int (zI i)), (0, .ref (h 4))]) hX dX2_fillEntry_92 rfl (by decide) rfl ?_
        refine Z.goto hX 31 dX2_fillEntry_95 (by decide) ?_
        refine Z.pick [0, 1, 2, 3, 4, 5, 6] rfl ?_
        exact ih_31 _ _ _ (by omega) (by omega) hb3 (fun k hk => ⟨(hb1 k hk).trans ((ha1 k hk).trans (hfr k hk).1), (hb2 k hk).trans ((ha2 k hk).trans (hfr k hk).2)⟩) (by rw [show (q + 1).toNat = q.toNat + 1 by omega]; exact bz_s1 (m3' := MM 0) hC ha4 hb4 ex1 ey2 ex3 ey4) hb5 hbb
  refine Z.pick [0, 1, 2, 6, 5, 4, 3] rfl ?_
  exact key_31 _ _ _ _ (Nat.lt_succ_self _) (by omega) hp3 (fun k hk => ⟨hp1 k hk, hp2 k hk⟩) (CG.ex (fun z => pl_z hp5 z)) (by rw [hp4]; exact PZ_z hp5) (by omega)

set_option maxHeartbeats 4000000 in
set_option maxRecDepth 100000 in
theorem ct_X2_fillMinor_y (l : Launch) (D : va_G) (ce : Nat → ClassId) (h pl ar : Nat → Nat) (G : Nat → Int) (L : Nat → Nat → Int64) (B : Nat → Int) (J : Nat → Nat → Int64) (col size : Int) (hB : BOK B) (hc : 1 ≤ col ∧ col < 16) (hs : 1 ≤ size ∧ size ≤ 4) (hcs : (pc8 col.toNat : Int) ≤ size) (hen : ENs B J L size) (hmn : MNs B J L size col) : Ct l yX2_fillMinor cX2_fillMinor 7 none { frames := 2, cells := 0, slots := 0, locals := 55 } 0 0 D (TY ce) [.ref (h 4), .int (zI col), .int (zI size)] (cW ce h pl ar G L B J) (QV D (TY ce) (fun w1 => ∃ B2 : Nat → Int, ∃ J2 : Nat → Nat → Int64, w1 = cW ce h pl ar G L B2 J2 ∧ (BOK B2) ∧ (∀ k, k ≠ (20 + col.toNat) → B2 k = B k) ∧ (∀ k, k ≠ (20 + col.toNat) → J2 k = J k) ∧ (MIN B2 J2 L size col))) := by
  refine Ct.ofV (by decide) (Nat.le_of_ble_eq_true rfl) ?_
  intro p e s m args below meth c A Q hX hnm hR
  refine Z.pick (lv' := [(0, .ref (h 4)), (1, .int (zI col)), (2, .int (zI size))]) [0, 1, 2] rfl ?_
  refine Z.aload_n hX dX2_fillMinor_0 rfl rfl ?_
  refine Z.getf hX 2 4 3 dX2_fillMinor_1 rfl rfl inX2 (by decide) fl_X2_23 rfl rfl ?_
  refine Z.iload_n hX dX2_fillMinor_4 rfl rfl ?_
  refine Z.aaload hX 17 4 dX2_fillMinor_5 rfl rfl rfl (by omega) (by omega) (by decide) rfl ?_
  refine Z.astore_n (lv' := [(3, .ref (pl (20 + (col : Int).toNat))), (0, .ref (h 4)), (1, .int (zI col)), (2, .int (zI size))]) hX dX2_fillMinor_6 rfl (by decide) rfl ?_
  refine Z.aload_n hX dX2_fillMinor_7 rfl rfl ?_
  refine Z.callVfv (As := []) (rest := []) hX 3 (24 + (20 + (col : Int).toNat)) rfl (cW_pl (by omega)) (ct_X3_erase_y l D ce h pl ar G L B J ((20 + (col : Int).toNat)) (by omega) hB) mc_X3_erase ml_X2_53 im_X3_erase se_X3_erase ini_X3 nd_X3_erase ⟨Nat.le_of_ble_eq_true rfl, Nat.le_of_ble_eq_true rfl⟩ ⟨rfl, rfl⟩ ⟨Nat.le_refl _, Nat.le_refl _⟩ rfl (Nat.le_of_ble_eq_true rfl) dX2_fillMinor_8 ?_
  rintro w1 ⟨Bp, Jp, hw_, hp1, hp2, hp3, hp4, hp5⟩
  subst hw_
  refine Z.iload_n hX dX2_fillMinor_11 rfl rfl ?_
  refine Z.callS0i (As := [.int (zI col)]) (rest := []) hX (ct_J6_bitCount_0f7a4 l D ce col (by omega)) mc_J6_bitCount_0f7a4 ml_X2_79 st_J6_bitCount_0f7a4 ini_J6 nd_J6_bitCount_0f7a4 ⟨Nat.le_of_ble_eq_true rfl, Nat.le_of_ble_eq_true rfl⟩ ⟨rfl, rfl⟩ ⟨Nat.le_refl _, Nat.le_refl _⟩ rfl (Nat.le_of_ble_eq_true rfl) dX2_fillMinor_12 ?_
  rintro r_2 w1 ⟨bcn, hr_, hw_, ebc⟩
  subst hr_
  refine ⟨hw_, ?_⟩
  have hbc := pc16b (a := col) (by omega) (by omega)
  refine Z.iconst hX dX2_fillMinor_15 ?_
  refine Z.isub hX dX2_fillMinor_16 ?_
  refine Z.istore (lv' := [(4, .int (zI (bcn - 1))), (3, .ref (pl (20 + (col : Int).toNat))), (0, .ref (h 4)), (1, .int (zI col)), (2, .int (zI size))]) hX dX2_fillMinor_17 (by decide) rfl ?_
  refine Z.iconst hX dX2_fillMinor_19 ?_
  refine Z.istore (lv' := [(5, .int (zI 1)), (4, .int (zI (bcn - 1))), (3, .ref (pl (20 + (col : Int).toNat))), (0, .ref (h 4)), (1, .int (zI col)), (2, .int (zI size))]) hX dX2_fillMinor_20 (by decide) rfl ?_
  refine Z.iload_n hX dX2_fillMinor_22 rfl rfl ?_
  refine Z.iconst hX dX2_fillMinor_23 ?_
  refine Z.isub hX dX2_fillMinor_24 ?_
  refine Z.istore (lv' := [(6, .int (zI (size - 1))), (5, .int (zI 1)), (4, .int (zI (bcn - 1))), (3, .ref (pl (20 + (col : Int).toNat))), (0, .ref (h 4)), (1, .int (zI col)), (2, .int (zI size))]) hX dX2_fillMinor_25 (by decide) rfl ?_
  have key_27 : ∀ (N : Nat), ∀ (cn sg : Int) (BB : Nat → Int) (MM : Nat → Nat → Int64), (cn + 1).toNat < N → (hcn : -1 ≤ cn ∧ cn ≤ size - 1) → (hsg : -1 ≤ sg ∧ sg ≤ 1) → (hM : BOK BB) → (hfr : ∀ k, k ≠ (20 + col.toNat) → BB k = B k ∧ MM k = J k) → (hC : CG (pw ixs (MM (20 + col.toNat)) 28) (Cx (BzE L size.toNat) size.toNat col.toNat (size - 1 - cn).toNat)) → (hsv : sg = dsg col.toNat size.toNat (size - 1 - cn).toNat) → (hpz : PZ (MM (20 + col.toNat)) (BB (20 + col.toNat))) → (hbe : BB (20 + col.toNat) ≤ pc8 col.toNat) → Z p l e { frames := 2, cells := 0, slots := 0, locals := 55 } s m args below meth c D A 7 0 0 Q 27 [(6, .int (zI cn)), (5, .int (zI sg)), (4, .int (zI (bcn - 1))), (3, .ref (pl (20 + (col : Int).toNat))), (2, .int (zI size)), (1, .int (zI col)), (0, .ref (h 4))] [] (cW ce h pl ar G L BB MM) := by
    intro N
    induction N with
    | zero => intro cn sg BB MM hm; exact absurd hm (Nat.not_lt_zero _)
    | succ N ih_27 =>
      intro cn sg BB MM hm hcn hsg hM hfr hC hsv hpz hbe
      refine Z.iload hX dX2_fillMinor_27 rfl ?_
      refine Z.if_lt hX 83 dX2_fillMinor_29 (by decide) ⟨by omega, by omega⟩ ?_ ?_
      · intro c3
        exact hR _ _ _ dX2_fillMinor_83 ⟨BB, MM, rfl, hM, (fun k hk => (hfr k hk).1), (fun k hk => (hfr k hk).2), ⟨by rw [show (size - 1 - cn).toNat = size.toNat by omega] at hC; exact hC.tr (CG.ex (fun z => Cx_n (pc_1 (by omega) (by omega)) z)), hpz, hbe⟩⟩
      · intro c3
        obtain ⟨b, t, eb, eb1, eb3, eb4, eb2, eb5⟩ := bitd (s := col) (c := cn) (by omega) (by omega) (by omega) (by omega)
        refine Z.iload_n hX dX2_fillMinor_32 rfl rfl ?_
        refine Z.iload hX dX2_fillMinor_33 rfl ?_
        refine Z.ishr hX dX2_fillMinor_35 ?_
        refine Z.iconst hX dX2_fillMinor_36 ?_
        refine Z.iand hX dX2_fillMinor_37 ?_
        refine Z.vali (y := zI b) eb ?_
        refine Z.iconst hX dX2_fillMinor_38 ?_
        refine Z.icmp_ne hX 77 dX2_fillMinor_39 (by decide) ⟨by omega, by omega⟩ ⟨by omega, by omega⟩ ?_ ?_
        · intro c4
          refine Z.iinc (lv' := [(6, .int (zI (cn + -1))), (5, .int (zI sg)), (4, .int (zI (bcn - 1))), (3, .ref (pl (20 + (col : Int).toNat))), (2, .int (zI size)), (1, .int (zI col)), (0, .ref (h 4))]) hX dX2_fillMinor_77 rfl (by decide) rfl ?_
          refine Z.goto hX 27 dX2_fillMinor_80 (by decide) ?_
          refine Z.pick [0, 1, 2, 3, 4, 5, 6] rfl ?_
          exact ih_27 _ _ _ _ (by omega) (by omega) (by omega) hM hfr (mc_col0 hs (by omega) (eb5 (by omega)) hsv hC).1 (mc_col0 hs (by omega) (eb5 (by omega)) hsv hC).2 hpz hbe
        · intro c4
          have htc := (eb2 (by omega)).2.2.1
          have hpt := (eb2 (by omega)).2.1
          refine Z.aload_n hX dX2_fillMinor_42 rfl rfl ?_
          refine Z.aload_n hX dX2_fillMinor_43 rfl rfl ?_
          refine Z.getf hX 2 4 2 dX2_fillMinor_44 rfl rfl inX2 (by decide) fl_X2_20 rfl rfl ?_
          refine Z.iload hX dX2_fillMinor_47 rfl ?_
          refine Z.iconst hX dX2_fillMinor_49 ?_
          refine Z.imul hX dX2_fillMinor_50 ?_
          refine Z.iload hX dX2_fillMinor_51 rfl ?_
          refine Z.iadd hX dX2_fillMinor_53 ?_
          refine Z.aaload hX 16 4 dX2_fillMinor_54 rfl rfl rfl (by omega) (by omega) (by decide) rfl ?_
          refine Z.aload_n hX dX2_fillMinor_55 rfl rfl ?_
          refine Z.getf hX 2 4 3 dX2_fillMinor_56 rfl rfl inX2 (by decide) fl_X2_23 rfl rfl ?_
          refine Z.iload_n hX dX2_fillMinor_59 rfl rfl ?_
          refine Z.iconst hX dX2_fillMinor_60 ?_
          refine Z.iload hX dX2_fillMinor_61 rfl ?_
          refine Z.ishl hX dX2_fillMinor_63 ?_
          refine Z.ixor hX dX2_fillMinor_64 ?_
          refine Z.vali (y := zI t) (eb2 (by omega)).1 ?_
          refine Z.aaload hX 17 4 dX2_fillMinor_65 rfl rfl rfl (by omega) (by omega) (by decide) rfl ?_
          refine Z.iload hX dX2_fillMinor_66 rfl ?_
          refine Z.i2l hX dX2_fillMinor_68 ⟨by omega, by omega⟩ ?_
          have htl := tri_lt ((bcn - 1) * 4 + cn : Int).toNat
          have hE := hen (bcn - 1) cn (by omega) (by omega) (by omega) (by omega)
          have hMt := hmn t (by omega) (by omega)
          have fE := hfr (10 + tri ((bcn - 1) * 4 + cn).toNat) (by omega)
          have fM := hfr (20 + t.toNat) (by omega)
          have zE : PZ (MM (10 + tri ((bcn - 1) * 4 + cn).toNat)) (BB (10 + tri ((bcn - 1) * 4 + cn).toNat)) := by rw [fE.1, fE.2]; exact hE.2.1
          have zM : PZ (MM (20 + t.toNat)) (BB (20 + t.toNat)) := by rw [fM.1, fM.2]; exact hMt.2.1
          have bE : BB (10 + tri ((bcn - 1) * 4 + cn).toNat) ≤ 1 := by rw [fE.1]; exact hE.2.2
          have bM : BB (20 + t.toNat) ≤ pc8 t.toNat := by rw [fM.1]; exact hMt.2.2
          have cE_ : CG (pw ixs (MM (10 + tri ((bcn - 1) * 4 + cn).toNat)) 28) (fun z => bzI (fX (ti (L 3)) (ti (L 5)) z) (fY (ti (L 4)) (ti (L 5)) z) size.toNat (pc8 col.toNat - 1) cn.toNat) := by rw [fE.2, show pc8 col.toNat - 1 = (bcn - 1).toNat by omega]; exact hE.1
          have cM_ : CG (pw ixs (MM (20 + t.toNat)) 28) (Sx (BzE L size.toNat) size.toNat t.toNat) := by rw [fM.2]; exact hMt.1
          refine Z.callVfv (As := [.ref (pl (10 + tri (((bcn - 1) * 4) + cn : Int).toNat)), .ref (pl (20 + (t : Int).toNat)), .long (zL sg)]) (rest := []) hX 3 (24 + (20 + (col : Int).toNat)) rfl (cW_pl (by omega)) (ct_X3_addProduct_y l D ce h pl ar G L BB MM ((20 + (col : Int).toNat)) ((10 + tri (((bcn - 1) * 4) + cn : Int).toNat)) ((20 + (t : Int).toNat)) (zL sg) (by omega) hM (by omega) (by omega) zE zM hpz (by omega)) mc_X3_addProduct ml_X2_70 im_X3_addProduct se_X3_addProduct ini_X3 nd_X3_addProduct ⟨Nat.le_of_ble_eq_true rfl, Nat.le_of_ble_eq_true rfl⟩ ⟨rfl, rfl⟩ ⟨Nat.le_refl _, Nat.le_refl _⟩ rfl (Nat.le_of_ble_eq_true rfl) dX2_fillMinor_69 ?_
          rintro w1 ⟨Ba, Ja, hw_, ha1, ha2, ha3, ha4, ha5, ha6⟩
          subst hw_
          have hco := mc_col (L := L) hs (by omega) hsg (eb2 (by omega)).2.1 (eb2 (by omega)).2.2.2.1 (eb2 (by omega)).2.2.2.2 hsv cE_ cM_ hC ha4
          have hbb : Ba (20 + col.toNat) ≤ pc8 col.toNat := by rw [ha6]; split <;> omega
          refine Z.iload hX dX2_fillMinor_72 rfl ?_
          refine Z.ineg hX dX2_fillMinor_74 ?_
          refine Z.istore (lv' := [(5, .int (zI (-sg))), (6, .int (zI cn)), (4, .int (zI (bcn - 1))), (3, .ref (pl (20 + (col : Int).toNat))), (2, .int (zI size)), (1, .int (zI col)), (0, .ref (h 4))]) hX dX2_fillMinor_75 (by decide) rfl ?_
          refine Z.iinc (lv' := [(6, .int (zI (cn + -1))), (5, .int (zI (-sg))), (4, .int (zI (bcn - 1))), (3, .ref (pl (20 + (col : Int).toNat))), (2, .int (zI size)), (1, .int (zI col)), (0, .ref (h 4))]) hX dX2_fillMinor_77 rfl (by decide) rfl ?_
          refine Z.goto hX 27 dX2_fillMinor_80 (by decide) ?_
          refine Z.pick [0, 1, 2, 3, 4, 5, 6] rfl ?_
          exact ih_27 _ _ _ _ (by omega) (by omega) (by omega) ha3 (fun k hk => ⟨(ha1 k hk).trans (hfr k hk).1, (ha2 k hk).trans (hfr k hk).2⟩) hco.1 hco.2 ha5 hbb
  refine Z.pick [0, 1, 2, 3, 6, 5, 4] rfl ?_
  exact key_27 _ _ _ _ _ (Nat.lt_succ_self _) (by omega) (by omega) hp3 (fun k hk => ⟨hp1 k hk, hp2 k hk⟩) (by rw [show (size - 1 - (size - 1)).toNat = 0 by omega]; exact mc_e0 hp5) (by rw [show (size - 1 - (size - 1)).toNat = 0 by omega]; rfl) (by rw [hp4]; exact PZ_z hp5) (by omega)

set_option maxHeartbeats 4000000 in
set_option maxRecDepth 100000 in
theorem ct_X2_resultant_y (l : Launch) (D : va_G) (ce : Nat → ClassId) (h pl ar : Nat → Nat) (G : Nat → Int) (L : Nat → Nat → Int64) (B : Nat → Int) (J : Nat → Nat → Int64) (size : Int) (hB : BOK B) (hs : 1 ≤ size ∧ size ≤ 4) (hmv : MVp B J L (size + 1)) (hsz : sz3 L) : Ct l yX2_resultant cX2_resultant 4 (some (.object "EliminateLoci$Plane")) { frames := 4, cells := 0, slots := 0, locals := 88 } 0 0 D (TY ce) [.ref (h 4), .int (zI size)] (cW ce h pl ar G L B J) (QR D (TY ce) (fun r w1 => ∃ k2 : Nat, ∃ B2 : Nat → Int, ∃ J2 : Nat → Nat → Int64, r = (pl k2) ∧ w1 = cW ce h pl ar G L B2 J2 ∧ (BOK B2) ∧ (k2 < 42 ∧ 20 ≤ k2 ∧ k2 < 36) ∧ (REp (J2 k2) L size ∧ PZ (J2 k2) (B2 k2)))) := by
  refine Ct.ofR (by decide) (Nat.le_of_ble_eq_true rfl) (Or.inl ⟨_, rfl⟩) ?_
  intro p e s m args below meth c A Q hX hnm hR
  refine Z.pick (lv' := [(0, .ref (h 4)), (1, .int (zI size))]) [0, 1] rfl ?_
  obtain ⟨T, hT, hT1, hT2, hT3⟩ := sh4y hs.1 hs.2
  refine Z.iconst hX dX2_resultant_0 ?_
  refine Z.istore_n (lv' := [(2, .int (zI 0)), (0, .ref (h 4)), (1, .int (zI size))]) hX dX2_resultant_1 rfl (by decide) rfl ?_
  have key_2 : ∀ (N : Nat), ∀ (i : Int) (BB : Nat → Int) (MM : Nat → Nat → Int64), (size - i).toNat < N → (hi : 0 ≤ i ∧ i ≤ size) → (hM : BOK BB) → (hen : ENp BB MM L size i i) → (hmv2 : MVp BB MM L (size + 1)) → Z p l e { frames := 4, cells := 0, slots := 0, locals := 88 } s m args below meth c D A 4 0 0 Q 2 [(2, .int (zI i)), (1, .int (zI size)), (0, .ref (h 4))] [] (cW ce h pl ar G L BB MM) := by
    intro N
    induction N with
    | zero => intro i BB MM hm; exact absurd hm (Nat.not_lt_zero _)
    | succ N ih_2 =>
      intro i BB MM hm hi hM hen hmv2
      refine Z.iload_n hX dX2_resultant_2 rfl rfl ?_
      refine Z.iload_n hX dX2_resultant_3 rfl rfl ?_
      refine Z.icmp_ge hX 33 dX2_resultant_4 (by decide) ⟨by omega, by omega⟩ ⟨by omega, by omega⟩ ?_ ?_
      · intro c1
        refine Z.aload_n hX dX2_resultant_33 rfl rfl ?_
        refine Z.getf hX 2 4 3 dX2_resultant_34 rfl rfl inX2 (by decide) fl_X2_23 rfl rfl ?_
        refine Z.iconst hX dX2_resultant_37 ?_
        refine Z.aaload hX 17 4 dX2_resultant_38 rfl rfl rfl (by omega) (by omega) (by decide) rfl ?_
        refine Z.callVfv (As := []) (rest := []) hX 3 (24 + (20 + 0)) rfl (cW_pl (by omega)) (ct_X3_erase_y l D ce h pl ar G L BB MM ((20 + 0)) (by omega) hM) mc_X3_erase ml_X2_53 im_X3_erase se_X3_erase ini_X3 nd_X3_erase ⟨Nat.le_of_ble_eq_true rfl, Nat.le_of_ble_eq_true rfl⟩ ⟨rfl, rfl⟩ ⟨Nat.le_refl _, Nat.le_refl _⟩ rfl (Nat.le_of_ble_eq_true rfl) dX2_resultant_39 ?_
        rintro w1 ⟨Bp, Jp, hw_, hp1, hp2, hp3, hp4, hp5⟩
        subst hw_
        refine Z.aload_n hX dX2_resultant_42 rfl rfl ?_
        refine Z.getf hX 2 4 3 dX2_resultant_43 rfl rfl inX2 (by decide) fl_X2_23 rfl rfl ?_
        refine Z.iconst hX dX2_resultant_46 ?_
        refine Z.aaload hX 17 4 dX2_resultant_47 rfl rfl rfl (by omega) (by omega) (by decide) rfl ?_
        refine Z.getf hX 3 (24 + (20 + 0)) 0 dX2_resultant_48 (cW_pl (by omega)) rfl inX3 (by decide) fl_X2_56 rfl rfl ?_
        refine Z.iconst hX dX2_resultant_51 ?_
        refine Z.lconst (v := 1) hX dX2_resultant_52 rfl ?_
        refine Z.lastore hX (66 + (20 + 0)) 1 dX2_resultant_53 (cW_ar (by omega)) rfl (by omega) (by omega) (by decide) ?_
        obtain ⟨J3, eJ3⟩ : ∃ J' : Nat → Nat → Int64, J' = va_up Jp ((20 + 0)) (vp_updL (Jp ((20 + 0))) (0 : Int).toNat (1)) := ⟨_, rfl⟩
        refine Z.toW (w' := cW ce h pl ar G L Bp J3) (by rw [eJ3]; exact cW_setJ (by omega)) ?_
        have gJ3 : J3 ((20 + 0)) = vp_updL (Jp ((20 + 0))) (0 : Int).toNat (1) := by rw [eJ3]; exact up_eq
        have fJ3 : ∀ j_, j_ ≠ (20 + 0) → J3 j_ = Jp j_ := fun j_ hj_ => by rw [eJ3]; exact up_ne hj_
        refine Z.iconst hX dX2_resultant_54 ?_
        refine Z.iload_n hX dX2_resultant_55 rfl rfl ?_
        refine Z.ishl hX dX2_resultant_56 ?_
        refine Z.vali (y := zI T) hT ?_
        refine Z.iconst hX dX2_resultant_57 ?_
        refine Z.isub hX dX2_resultant_58 ?_
        refine Z.istore_n (lv' := [(2, .int (zI (T - 1))), (1, .int (zI size)), (0, .ref (h 4))]) hX dX2_resultant_59 rfl (by decide) rfl ?_
        refine Z.iconst hX dX2_resultant_60 ?_
        refine Z.istore_n (lv' := [(3, .int (zI 1)), (2, .int (zI (T - 1))), (1, .int (zI size)), (0, .ref (h 4))]) hX dX2_resultant_61 rfl (by decide) rfl ?_
        have key_62 : ∀ (N : Nat), ∀ (q : Int) (BB : Nat → Int) (MM : Nat → Nat → Int64), (T - q).toNat < N → (hq : 1 ≤ q ∧ q ≤ T) → (hM : BOK BB) → (hes : ENs BB MM L size) → (hmn : MNs BB MM L size q) → Z p l e { frames := 4, cells := 0, slots := 0, locals := 88 } s m args below meth c D A 4 0 0 Q 62 [(3, .int (zI q)), (2, .int (zI (T - 1))), (1, .int (zI size)), (0, .ref (h 4))] [] (cW ce h pl ar G L BB MM) := by
          intro N
          induction N with
          | zero => intro q BB MM hm; exact absurd hm (Nat.not_lt_zero _)
          | succ N ih_62 =>
            intro q BB MM hm hq hM hes hmn
            refine Z.iload_n hX dX2_resultant_62 rfl rfl ?_
            refine Z.iload_n hX dX2_resultant_63 rfl rfl ?_
            refine Z.icmp_gt hX 79 dX2_resultant_64 (by decide) ⟨by omega, by omega⟩ ⟨by omega, by omega⟩ ?_ ?_
            · intro c4
              refine Z.aload_n hX dX2_resultant_79 rfl rfl ?_
              refine Z.getf hX 2 4 3 dX2_resultant_80 rfl rfl inX2 (by decide) fl_X2_23 rfl rfl ?_
              refine Z.iload_n hX dX2_resultant_83 rfl rfl ?_
              refine Z.aaload hX 17 4 dX2_resultant_84 rfl rfl rfl (by omega) (by omega) (by decide) rfl ?_
              exact hR _ _ _ _ dX2_resultant_85 ⟨_, BB, MM, rfl, rfl, hM, (by omega), (by rw [show T = q by omega]; exact re_end hs (by omega) hmn)⟩
            · intro c4
              refine Z.aload_n hX dX2_resultant_67 rfl rfl ?_
              refine Z.iload_n hX dX2_resultant_68 rfl rfl ?_
              refine Z.iload_n hX dX2_resultant_69 rfl rfl ?_
              refine Z.callVfv (As := [.int (zI q), .int (zI size)]) (rest := []) hX 2 4 rfl rfl (ct_X2_fillMinor_y l D ce h pl ar G L BB MM q size hM (by omega) hs (pc4 hs (by omega) (by omega)) hes hmn) mc_X2_fillMinor ml_X2_60 im_X2_fillMinor se_X2_fillMinor ini_X2 nd_X2_fillMinor ⟨Nat.le_of_ble_eq_true rfl, Nat.le_of_ble_eq_true rfl⟩ ⟨rfl, rfl⟩ ⟨Nat.le_refl _, Nat.le_refl _⟩ rfl (Nat.le_of_ble_eq_true rfl) dX2_resultant_70 ?_
              rintro w1 ⟨Bg, Jg, hw_, hg1, hg2, hg3, hg4⟩
              subst hw_
              refine Z.iinc (lv' := [(3, .int (zI (q + 1))), (2, .int (zI (T - 1))), (1, .int (zI size)), (0, .ref (h 4))]) hX dX2_resultant_73 rfl (by decide) rfl ?_
              refine Z.goto hX 62 dX2_resultant_76 (by decide) ?_
              refine Z.pick [0, 1, 2, 3] rfl ?_
              exact ih_62 _ _ _ (by omega) (by omega) hg1 (en_c hes (fun k a b => hg2 k (by omega)) (fun k a b => hg3 k (by omega))) (mn_k (by omega) hmn hg2 hg3 hg4)
        refine Z.pick [0, 1, 2, 3] rfl ?_
        exact key_62 _ _ _ _ (Nat.lt_succ_self _) (by omega) hp3 (en_c (en_all (by omega) (by omega) hen) (fun k a b => hp1 k (by omega)) (fun k a b => by rw [fJ3 k (by omega)]; exact hp2 k (by omega))) (mn_k0 (J := Jp) hp5 gJ3 hp4)
      · intro c1
        refine Z.iload_n hX dX2_resultant_7 rfl rfl ?_
        refine Z.istore_n (lv' := [(3, .int (zI i)), (2, .int (zI i)), (1, .int (zI size)), (0, .ref (h 4))]) hX dX2_resultant_8 rfl (by decide) rfl ?_
        have key_9 : ∀ (N : Nat), ∀ (j : Int) (BB : Nat → Int) (MM : Nat → Nat → Int64), (size - j).toNat < N → (hj : i ≤ j ∧ j ≤ size) → (hM : BOK BB) → (hen : ENp BB MM L size i j) → (hmv2 : MVp BB MM L (size + 1)) → Z p l e { frames := 4, cells := 0, slots := 0, locals := 88 } s m args below meth c D A 4 0 0 Q 9 [(3, .int (zI j)), (2, .int (zI i)), (1, .int (zI size)), (0, .ref (h 4))] [] (cW ce h pl ar G L BB MM) := by
          intro N
          induction N with
          | zero => intro j BB MM hm; exact absurd hm (Nat.not_lt_zero _)
          | succ N ih_9 =>
            intro j BB MM hm hj hM hen hmv2
            refine Z.iload_n hX dX2_resultant_9 rfl rfl ?_
            refine Z.iload_n hX dX2_resultant_10 rfl rfl ?_
            refine Z.icmp_ge hX 27 dX2_resultant_11 (by decide) ⟨by omega, by omega⟩ ⟨by omega, by omega⟩ ?_ ?_
            · intro c6
              refine Z.iinc (lv' := [(2, .int (zI (i + 1))), (3, .int (zI j)), (1, .int (zI size)), (0, .ref (h 4))]) hX dX2_resultant_27 rfl (by decide) rfl ?_
              refine Z.goto hX 2 dX2_resultant_30 (by decide) ?_
              refine Z.pick [0, 2, 3] rfl ?_
              exact ih_2 _ _ _ (by omega) (by omega) hM (en_r (by omega) hen) hmv2
            · intro c6
              refine Z.aload_n hX dX2_resultant_14 rfl rfl ?_
              refine Z.iload_n hX dX2_resultant_15 rfl rfl ?_
              refine Z.iload_n hX dX2_resultant_16 rfl rfl ?_
              refine Z.iload_n hX dX2_resultant_17 rfl rfl ?_
              refine Z.callVfv (As := [.int (zI i), .int (zI j), .int (zI size)]) (rest := []) hX 2 4 rfl rfl (ct_X2_fillEntry_y l D ce h pl ar G L BB MM i j size hM (by omega) hmv2 hsz) mc_X2_fillEntry ml_X2_49 im_X2_fillEntry se_X2_fillEntry ini_X2 nd_X2_fillEntry ⟨Nat.le_of_ble_eq_true rfl, Nat.le_of_ble_eq_true rfl⟩ ⟨rfl, rfl⟩ ⟨Nat.le_refl _, Nat.le_refl _⟩ rfl (Nat.le_of_ble_eq_true rfl) dX2_resultant_18 ?_
              rintro w1 ⟨Bf, Jf, hw_, hf1, hf2, hf3, hf4⟩
              subst hw_
              have htl := tri_lt (i * 4 + j : Int).toNat
              have hen2 := en_s (by omega) (by omega) hen hf2 hf3 hf4
              have hmv3 : MVp Bf Jf L (size + 1) := mv_c (by omega) hmv2 (fun k hk => hf2 k (by omega)) (fun k hk => hf3 k (by omega))
              refine Z.iinc (lv' := [(3, .int (zI (j + 1))), (2, .int (zI i)), (1, .int (zI size)), (0, .ref (h 4))]) hX dX2_resultant_21 rfl (by decide) rfl ?_
              refine Z.goto hX 9 dX2_resultant_24 (by decide) ?_
              refine Z.pick [0, 1, 2, 3] rfl ?_
              exact ih_9 _ _ _ (by omega) (by omega) hf1 hen2 hmv3
        refine Z.pick [0, 1, 2, 3] rfl ?_
        exact key_9 _ _ _ _ (Nat.lt_succ_self _) (by omega) hM hen hmv2
  refine Z.pick [0, 2, 1] rfl ?_
  exact key_2 _ _ _ _ (Nat.lt_succ_self _) (by omega) hB (fun a b h1 h2 h3 h4 => by omega) hmv

