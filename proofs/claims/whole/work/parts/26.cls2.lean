section
set_option maxRecDepth 100000 in
theorem cp_nat : Cond.native arraycopyName ∈ lw_g := z_mem (k := 243) rfl rfl
set_option maxRecDepth 100000 in
theorem cp_st : Cond.static arraycopyName ∈ lw_g := z_mem (k := 242) rfl rfl
set_option maxRecDepth 100000 in
theorem cp_in : Cond.initialized "java/lang/System" ∈ lw_g := z_mem (k := 40) rfl rfl
set_option maxRecDepth 100000 in
theorem ml_X1_33 : Cond.methodLink RX1 33 arraycopyName ∈ lw_g := z_mem (k := 241) rfl rfl
set_option maxRecDepth 100000 in
theorem ml_X3_32 : Cond.methodLink RX3 32 arraycopyName ∈ lw_g := z_mem (k := 373) rfl rfl
set_option maxRecDepth 100000 in
theorem ma_st : Cond.static Lib.MathLoose.abs_long.x ∈ lw_g := z_mem (k := 403) rfl rfl
set_option maxRecDepth 100000 in
theorem ma_co : Cond.code Lib.MathLoose.abs_long.x Lib.MathLoose.abs_long.code 2 (some .long) ∈ lw_g := z_mem (k := 404) rfl rfl
set_option maxRecDepth 100000 in
theorem ma_in : Cond.initialized "java/lang/Math" ∈ lw_g := z_mem (k := 41) rfl rfl
set_option maxRecDepth 100000 in
theorem mi_st : Cond.static Lib.Math.min.name ∈ lw_g := z_mem (k := 340) rfl rfl
set_option maxRecDepth 100000 in
theorem mi_co : Cond.code Lib.Math.min.name Lib.Math.min.code 2 (some .int) ∈ lw_g := z_mem (k := 341) rfl rfl
set_option maxRecDepth 100000 in
theorem mm_X2_64 : Cond.methodLink RX2 64 Lib.Math.min.name ∈ lw_g := z_mem (k := 339) rfl rfl
set_option maxRecDepth 100000 in
theorem mm_X3_49 : Cond.methodLink RX3 49 Lib.MathLoose.abs_long.x ∈ lw_g := z_mem (k := 402) rfl rfl
def BOK (B : Nat → Int) : Prop := ∀ k : Nat, k < 42 → 0 ≤ B k ∧ B k ≤ 6
theorem BOK_s {B B2 : Nat → Int} {k : Nat} (h : BOK B) (h1 : 0 ≤ B2 k ∧ B2 k ≤ 6) (h2 : ∀ j, j ≠ k → B2 j = B j) : BOK B2 := fun j hj => by
  by_cases e : j = k
  · rw [e]; exact h1
  · rw [h2 j e]; exact h j hj
section ZR7
variable {p : Program} {l : Launch} {e : Env} {R : Room} {s : State} {m : MethodId} {args : Array Value} {below : List Frame} {meth : Method} {c : Code} {D : va_G} {A : Nat → Prop} {nL cells slots : Nat} {Q : State → Prop}
variable {cc : ByteArray} {own : String} {tys : List (ClassId × FieldType)} {pc : Nat} {lv : List (Nat × Value)} {st : List Value} {w : va_W}
theorem Z.copyA (hX : Zf p m c cc nL s args own D tys A) (q0 q1 t0 : Nat) {a0 a : Nat} {cA : ClassId} {N index : Nat} {f g : Nat → Int64} {z : Int} (hd : decode cc pc = .ok (.invokestatic index, 3)) (ha0 : w[q0]? = some (a0, .inl (cA, N, .inr (.inl f)))) (ha1 : w[q1]? = some (a, .inl (cA, N, .inr (.inl g)))) (ht : tys[t0]? = some (cA, .long)) (hz : z = N) (hN : N < 1000) (hl : Cond.methodLink own index arraycopyName ∈ lw_g) (hfr : 1 ≤ R.frames) (hlo : (st.map fun v => v.category).sum + (nativeFrameWords "java/lang/System" "arraycopy" 5 + 11) ≤ R.locals) (k : Z p l e R s m args below meth c D A nL cells slots Q (pc + 3) lv st (w.set q1 (a, .inl (cA, N, .inr (.inl (va_cpy f g 0 0 N)))))) : Z p l e R s m args below meth c D A nL cells slots Q pc lv (.int (zI z) :: .int (zI 0) :: .ref a :: .int (zI 0) :: .ref a0 :: st) w := by
  intro H locs ls hP hD hS hv
  obtain ⟨hx, hb, hml, hown, hts, hK, hA, hN0⟩ := id hX
  subst hz
  have hc : (zI (N : Int)).toNatClampNeg = N := by rw [zI_cl (by omega) (by omega)]; rfl
  have h0 : (zI 0).toNatClampNeg = 0 := rfl
  refine va_copyl (ty := .long) hx hb (by rw [hml]; exact hv.1.symm) hown (hts _ hl) (hts _ cp_nat) (hts _ cp_st) (hts _ cp_in) hK hP hD hS q0 q1 t0 t0 ha0 ha1 ht ht rfl (by decide) (by decide) ?_ (by rw [h0, hc]; omega) (by rw [h0, hc]; omega) (fun _ _ => rfl) hfr hlo hd (fun H1 locs1 hP1 hD1 hS1 => ?_)
  · intro q
    have := (zI_lt (a := (N : Int)) (b := 0) ⟨by omega, by omega⟩ zR_0).mp q
    omega
  · rw [h0, hc] at hP1 hD1
    exact k H1 locs1 ls hP1 hD1 hS1 hv
theorem Z.mabs (hX : Zf p m c cc nL s args own D tys A) {index : Nat} {x : Int64} (hd : decode cc pc = .ok (.invokestatic index, 3)) (hl : Cond.methodLink own index Lib.MathLoose.abs_long.x ∈ lw_g) (hfr : 1 ≤ R.frames) (hlo : (st.map fun v => v.category).sum + 13 ≤ R.locals) (hc : cells ≤ R.cells) (hs : slots ≤ R.slots) (k : Z p l e R s m args below meth c D A nL cells slots Q (pc + 3) lv (.long (if 0 < x then x else -x) :: st) w) : Z p l e R s m args below meth c D A nL cells slots Q pc lv (.long x :: st) w := fun H locs ls hP hD hS hv => va_mabs_long hX.1 hX.2.1 (by rw [hX.2.2.1]; exact hv.1.symm) hX.2.2.2.1 (hX.2.2.2.2.1 _ hl) (hX.2.2.2.2.1 _ ma_st) (hX.2.2.2.2.1 _ ma_in) (hX.2.2.2.2.1 _ ma_co) hfr hlo hc hs hd (k H locs ls hP hD hS hv)
theorem Z.mmin (hX : Zf p m c cc nL s args own D tys A) {index : Nat} {a b : Int} (hd : decode cc pc = .ok (.invokestatic index, 3)) (hl : Cond.methodLink own index Lib.Math.min.name ∈ lw_g) (ha : zR a) (hb : zR b) (hfr : 1 ≤ R.frames) (hlo : (st.map fun v => v.category).sum + 13 ≤ R.locals) (hc : cells ≤ R.cells) (hs : slots ≤ R.slots) (k : Z p l e R s m args below meth c D A nL cells slots Q (pc + 3) lv (.int (zI (if b < a then b else a)) :: st) w) : Z p l e R s m args below meth c D A nL cells slots Q pc lv (.int (zI b) :: .int (zI a) :: st) w := fun H locs ls hP hD hS hv => va_mmin hX.1 hX.2.1 (by rw [hX.2.2.1]; exact hv.1.symm) hX.2.2.2.1 (hX.2.2.2.2.1 _ hl) (hX.2.2.2.2.1 _ mi_st) (hX.2.2.2.2.1 _ ma_in) (hX.2.2.2.2.1 _ mi_co) hfr hlo hc hs hd (by
    have e : (if zI b < zI a then zI b else zI a) = zI (if b < a then b else a) := by
      by_cases q : b < a
      · rw [if_pos q, if_pos ((zI_lt hb ha).mpr q)]
      · rw [if_neg q, if_neg (fun r => q ((zI_lt hb ha).mp r))]
    rw [e]
    exact k H locs ls hP hD hS hv)
end ZR7
theorem set_self {w : va_W} {q : Nat} {x : Nat × va_E} (h : w[q]? = some x) : w.set q x = w := by
  obtain ⟨hl, he⟩ := List.getElem?_eq_some_iff.mp h
  rw [← he]
  exact List.set_getElem_self hl
end
section
theorem dX3_erase_0 : decode cX3_erase 0 = .ok (.aload_n 0, 1) := by decide +kernel
theorem dX3_erase_1 : decode cX3_erase 1 = .ok (.getfield 9, 3) := by decide +kernel
theorem dX3_erase_4 : decode cX3_erase 4 = .ok (.lconst 0, 1) := by decide +kernel
theorem dX3_erase_5 : decode cX3_erase 5 = .ok (.invokestatic 19, 3) := by decide +kernel
theorem dX3_erase_8 : decode cX3_erase 8 = .ok (.aload_n 0, 1) := by decide +kernel
theorem dX3_erase_9 : decode cX3_erase 9 = .ok (.iconst 0, 1) := by decide +kernel
theorem dX3_erase_10 : decode cX3_erase 10 = .ok (.putfield 15, 3) := by decide +kernel
theorem dX3_erase_13 : decode cX3_erase 13 = .ok (.return_, 1) := by decide +kernel
set_option maxHeartbeats 4000000 in
set_option maxRecDepth 100000 in
theorem ct_X3_erase (l : Launch) (D : va_G) (ce : Nat → ClassId) (h pl ar : Nat → Nat) (G : Nat → Int) (L : Nat → Nat → Int64) (B : Nat → Int) (J : Nat → Nat → Int64) (k : Nat) (hk : k < 42) (hB : BOK B) : Ct l yX3_erase cX3_erase 1 none { frames := 1, cells := 0, slots := 0, locals := 24 } 0 0 D (TY ce) [.ref (pl k)] (cW ce h pl ar G L B J) (QV D (TY ce) (fun w1 => ∃ B2 : Nat → Int, ∃ J2 : Nat → Nat → Int64, w1 = cW ce h pl ar G L B2 J2 ∧ (∀ j, j ≠ k → B2 j = B j) ∧ (∀ j, j ≠ k → J2 j = J j) ∧ (BOK B2) ∧ (B2 k = 0))) := by
  refine Ct.ofV (by decide) (Nat.le_of_ble_eq_true rfl) ?_
  intro p e s m args below meth c A Q hX hnm hR
  refine Z.pick (lv' := [(0, .ref (pl k))]) [0] rfl ?_
  refine Z.aload_n hX dX3_erase_0 rfl rfl ?_
  refine Z.getf hX 3 (24 + k) 0 dX3_erase_1 (cW_pl (by omega)) rfl inX3 (by decide) fl_X3_9 rfl rfl ?_
  refine Z.lconst (v := 0) hX dX3_erase_4 rfl ?_
  refine Z.callS1v (As := [.ref (ar k), .long 0]) (rest := []) hX (66 + k) (cW_ar (by omega)) (ct_J7_fill_d0a16 l D ce ((ar k)) 28 (J k) 0 (by decide)) mc_J7_fill_d0a16 ml_X3_19 st_J7_fill_d0a16 ini_J7 nd_J7_fill_d0a16 ⟨Nat.le_of_ble_eq_true rfl, Nat.le_of_ble_eq_true rfl⟩ ⟨rfl, rfl⟩ ⟨Nat.le_refl _, Nat.le_refl _⟩ rfl (Nat.le_of_ble_eq_true rfl) dX3_erase_5 ?_
  rintro w1 ⟨f22, hw_, hq3⟩
  refine ⟨_, hw_, ?_⟩
  obtain ⟨J4, eJ4⟩ : ∃ J' : Nat → Nat → Int64, J' = va_up J k (f22) := ⟨_, rfl⟩
  refine Z.toW (w' := cW ce h pl ar G L B J4) (by rw [eJ4]; exact cW_setJ (by omega)) ?_
  have gJ4 : J4 k = f22 := by rw [eJ4]; exact up_eq
  have fJ4 : ∀ j_, j_ ≠ k → J4 j_ = J j_ := fun j_ hj_ => by rw [eJ4]; exact up_ne hj_
  refine Z.aload_n hX dX3_erase_8 rfl rfl ?_
  refine Z.iconst hX dX3_erase_9 ?_
  refine Z.putf (ty := .int) hX 3 (24 + k) 1 tyX3 dX3_erase_10 (cW_pl (by omega)) rfl inX3 tyX3_ok nmX3 (by decide) fl_X3_15 rfl rfl (by decide +kernel) rfl rfl (Nat.le_of_ble_eq_true rfl) ?_
  obtain ⟨B5, eB5⟩ : ∃ F' : Nat → Int, F' = va_up B k (0) := ⟨_, rfl⟩
  refine Z.toW (w' := cW ce h pl ar G L B5 J4) (by rw [eB5]; exact cW_setB (by omega)) ?_
  have gB5 : B5 k = 0 := by rw [eB5]; exact up_eq
  have fB5 : ∀ j_, j_ ≠ k → B5 j_ = B j_ := fun j_ hj_ => by rw [eB5]; exact up_ne hj_
  exact hR _ _ _ dX3_erase_13 ⟨B5, J4, rfl, (fun j_ h_k => ((fB5 j_ h_k).trans rfl)), (fun j_ h_k => ((fJ4 j_ h_k).trans rfl)), (BOK_s (k := k) hB (by omega) (fun j_ h_k => ((fB5 j_ h_k).trans rfl))), (by assumption)⟩

theorem dX3_setLine_0 : decode cX3_setLine 0 = .ok (.aload_n 0, 1) := by decide +kernel
theorem dX3_setLine_1 : decode cX3_setLine 1 = .ok (.invokevirtual 25, 3) := by decide +kernel
theorem dX3_setLine_4 : decode cX3_setLine 4 = .ok (.aload_n 0, 1) := by decide +kernel
theorem dX3_setLine_5 : decode cX3_setLine 5 = .ok (.iconst 1, 1) := by decide +kernel
theorem dX3_setLine_6 : decode cX3_setLine 6 = .ok (.putfield 15, 3) := by decide +kernel
theorem dX3_setLine_9 : decode cX3_setLine 9 = .ok (.aload_n 0, 1) := by decide +kernel
theorem dX3_setLine_10 : decode cX3_setLine 10 = .ok (.getfield 9, 3) := by decide +kernel
theorem dX3_setLine_13 : decode cX3_setLine 13 = .ok (.iconst 0, 1) := by decide +kernel
theorem dX3_setLine_14 : decode cX3_setLine 14 = .ok (.iconst 0, 1) := by decide +kernel
theorem dX3_setLine_15 : decode cX3_setLine 15 = .ok (.invokestatic 28, 3) := by decide +kernel
theorem dX3_setLine_18 : decode cX3_setLine 18 = .ok (.lload 5, 2) := by decide +kernel
theorem dX3_setLine_20 : decode cX3_setLine 20 = .ok (.lastore, 1) := by decide +kernel
theorem dX3_setLine_21 : decode cX3_setLine 21 = .ok (.aload_n 0, 1) := by decide +kernel
theorem dX3_setLine_22 : decode cX3_setLine 22 = .ok (.getfield 9, 3) := by decide +kernel
theorem dX3_setLine_25 : decode cX3_setLine 25 = .ok (.iconst 1, 1) := by decide +kernel
theorem dX3_setLine_26 : decode cX3_setLine 26 = .ok (.iconst 0, 1) := by decide +kernel
theorem dX3_setLine_27 : decode cX3_setLine 27 = .ok (.invokestatic 28, 3) := by decide +kernel
theorem dX3_setLine_30 : decode cX3_setLine 30 = .ok (.lload_n 1, 1) := by decide +kernel
theorem dX3_setLine_31 : decode cX3_setLine 31 = .ok (.lastore, 1) := by decide +kernel
theorem dX3_setLine_32 : decode cX3_setLine 32 = .ok (.aload_n 0, 1) := by decide +kernel
theorem dX3_setLine_33 : decode cX3_setLine 33 = .ok (.getfield 9, 3) := by decide +kernel
theorem dX3_setLine_36 : decode cX3_setLine 36 = .ok (.iconst 1, 1) := by decide +kernel
theorem dX3_setLine_37 : decode cX3_setLine 37 = .ok (.iconst 1, 1) := by decide +kernel
theorem dX3_setLine_38 : decode cX3_setLine 38 = .ok (.invokestatic 28, 3) := by decide +kernel
theorem dX3_setLine_41 : decode cX3_setLine 41 = .ok (.lload_n 3, 1) := by decide +kernel
theorem dX3_setLine_42 : decode cX3_setLine 42 = .ok (.lastore, 1) := by decide +kernel
theorem dX3_setLine_43 : decode cX3_setLine 43 = .ok (.return_, 1) := by decide +kernel
set_option maxHeartbeats 4000000 in
set_option maxRecDepth 100000 in
theorem ct_X3_setLine (l : Launch) (D : va_G) (ce : Nat → ClassId) (h pl ar : Nat → Nat) (G : Nat → Int) (L : Nat → Nat → Int64) (B : Nat → Int) (J : Nat → Nat → Int64) (k : Nat) (x1 x2 x3 : Int64) (hk : k < 42) (hB : BOK B) : Ct l yX3_setLine cX3_setLine 7 none { frames := 2, cells := 0, slots := 0, locals := 44 } 0 0 D (TY ce) [.ref (pl k), .long x1, .long x2, .long x3] (cW ce h pl ar G L B J) (QV D (TY ce) (fun w1 => ∃ B2 : Nat → Int, ∃ J2 : Nat → Nat → Int64, w1 = cW ce h pl ar G L B2 J2 ∧ (∀ j, j ≠ k → B2 j = B j) ∧ (∀ j, j ≠ k → J2 j = J j) ∧ (BOK B2) ∧ (B2 k = 1))) := by
  refine Ct.ofV (by decide) (Nat.le_of_ble_eq_true rfl) ?_
  intro p e s m args below meth c A Q hX hnm hR
  refine Z.pick (lv' := [(0, .ref (pl k)), (1, .long x1), (3, .long x2), (5, .long x3)]) [0, 1, 2, 3] rfl ?_
  refine Z.aload_n hX dX3_setLine_0 rfl rfl ?_
  refine Z.callVfv (As := []) (rest := []) hX 3 (24 + k) rfl (cW_pl (by omega)) (ct_X3_erase l D ce h pl ar G L B J k hk hB) mc_X3_erase ml_X3_25 im_X3_erase se_X3_erase ini_X3 nd_X3_erase ⟨Nat.le_of_ble_eq_true rfl, Nat.le_of_ble_eq_true rfl⟩ ⟨rfl, rfl⟩ ⟨Nat.le_refl _, Nat.le_refl _⟩ rfl (Nat.le_of_ble_eq_true rfl) dX3_setLine_1 ?_
  rintro w1 ⟨B22, J23, hw_, hq4, hq5, hq6, hq7⟩
  subst hw_
  refine Z.aload_n hX dX3_setLine_4 rfl rfl ?_
  refine Z.iconst hX dX3_setLine_5 ?_
  refine Z.putf (ty := .int) hX 3 (24 + k) 1 tyX3 dX3_setLine_6 (cW_pl (by omega)) rfl inX3 tyX3_ok nmX3 (by decide) fl_X3_15 rfl rfl (by decide +kernel) rfl rfl (Nat.le_of_ble_eq_true rfl) ?_
  obtain ⟨B8, eB8⟩ : ∃ F' : Nat → Int, F' = va_up B22 k (1) := ⟨_, rfl⟩
  refine Z.toW (w' := cW ce h pl ar G L B8 J23) (by rw [eB8]; exact cW_setB (by omega)) ?_
  have gB8 : B8 k = 1 := by rw [eB8]; exact up_eq
  have fB8 : ∀ j_, j_ ≠ k → B8 j_ = B22 j_ := fun j_ hj_ => by rw [eB8]; exact up_ne hj_
  refine Z.aload_n hX dX3_setLine_9 rfl rfl ?_
  refine Z.getf hX 3 (24 + k) 0 dX3_setLine_10 (cW_pl (by omega)) rfl inX3 (by decide) fl_X3_9 rfl rfl ?_
  refine Z.iconst hX dX3_setLine_13 ?_
  refine Z.iconst hX dX3_setLine_14 ?_
  refine Z.callSNi (As := [.int (zI 0), .int (zI 0)]) (rest := [.ref (ar k)]) hX (ct_X6_slotOf l D ce 0 0 (by omega) (by omega)) mc_X6_slotOf ns_X3_28 st_X6_slotOf ini_X6 nd_X6_slotOf ⟨Nat.le_of_ble_eq_true rfl, Nat.le_of_ble_eq_true rfl⟩ ⟨rfl, rfl⟩ ⟨Nat.le_refl _, Nat.le_refl _⟩ rfl (Nat.le_of_ble_eq_true rfl) dX3_setLine_15 ?_
  rintro r_9 w1 ⟨z10, hr_, hw_, hq11, hq12⟩
  subst hr_
  refine ⟨hw_, ?_⟩
  refine Z.lload hX dX3_setLine_18 rfl ?_
  refine Z.lastore hX (66 + k) 1 dX3_setLine_20 (cW_ar (by omega)) rfl (by omega) (by omega) (by decide) ?_
  obtain ⟨J13, eJ13⟩ : ∃ J' : Nat → Nat → Int64, J' = va_up J23 k (vp_updL (J23 k) (z10 : Int).toNat (x3)) := ⟨_, rfl⟩
  refine Z.toW (w' := cW ce h pl ar G L B8 J13) (by rw [eJ13]; exact cW_setJ (by omega)) ?_
  have gJ13 : J13 k = vp_updL (J23 k) (z10 : Int).toNat (x3) := by rw [eJ13]; exact up_eq
  have fJ13 : ∀ j_, j_ ≠ k → J13 j_ = J23 j_ := fun j_ hj_ => by rw [eJ13]; exact up_ne hj_
  refine Z.aload_n hX dX3_setLine_21 rfl rfl ?_
  refine Z.getf hX 3 (24 + k) 0 dX3_setLine_22 (cW_pl (by omega)) rfl inX3 (by decide) fl_X3_9 rfl rfl ?_
  refine Z.iconst hX dX3_setLine_25 ?_
  refine Z.iconst hX dX3_setLine_26 ?_
  refine Z.callSNi (As := [.int (zI 1), .int (zI 0)]) (rest := [.ref (ar k)]) hX (ct_X6_slotOf l D ce 1 0 (by omega) (by omega)) mc_X6_slotOf ns_X3_28 st_X6_slotOf ini_X6 nd_X6_slotOf ⟨Nat.le_of_ble_eq_true rfl, Nat.le_of_ble_eq_true rfl⟩ ⟨rfl, rfl⟩ ⟨Nat.le_refl _, Nat.le_refl _⟩ rfl (Nat.le_of_ble_eq_true rfl) dX3_setLine_27 ?_
  rintro r_14 w1 ⟨z15, hr_, hw_, hq16, hq17⟩
  subst hr_
  refine ⟨hw_, ?_⟩
  refine Z.lload_n hX dX3_setLine_30 rfl rfl ?_
  refine Z.lastore hX (66 + k) 1 dX3_setLine_31 (cW_ar (by omega)) rfl (by omega) (by omega) (by decide) ?_
  obtain ⟨J18, eJ18⟩ : ∃ J' : Nat → Nat → Int64, J' = va_up J13 k (vp_updL (J13 k) (z15 : Int).toNat (x1)) := ⟨_, rfl⟩
  refine Z.toW (w' := cW ce h pl ar G L B8 J18) (by rw [eJ18]; exact cW_setJ (by omega)) ?_
  have gJ18 : J18 k = vp_updL (J13 k) (z15 : Int).toNat (x1) := by rw [eJ18]; exact up_eq
  have fJ18 : ∀ j_, j_ ≠ k → J18 j_ = J13 j_ := fun j_ hj_ => by rw [eJ18]; exact up_ne hj_
  refine Z.aload_n hX dX3_setLine_32 rfl rfl ?_
  refine Z.getf hX 3 (24 + k) 0 dX3_setLine_33 (cW_pl (by omega)) rfl inX3 (by decide) fl_X3_9 rfl rfl ?_
  refine Z.iconst hX dX3_setLine_36 ?_
  refine Z.iconst hX dX3_setLine_37 ?_
  refine Z.callSNi (As := [.int (zI 1), .int (zI 1)]) (rest := [.ref (ar k)]) hX (ct_X6_slotOf l D ce 1 1 (by omega) (by omega)) mc_X6_slotOf ns_X3_28 st_X6_slotOf ini_X6 nd_X6_slotOf ⟨Nat.le_of_ble_eq_true rfl, Nat.le_of_ble_eq_true rfl⟩ ⟨rfl, rfl⟩ ⟨Nat.le_refl _, Nat.le_refl _⟩ rfl (Nat.le_of_ble_eq_true rfl) dX3_setLine_38 ?_
  rintro r_19 w1 ⟨z20, hr_, hw_, hq21, hq22⟩
  subst hr_
  refine ⟨hw_, ?_⟩
  refine Z.lload_n hX dX3_setLine_41 rfl rfl ?_
  refine Z.lastore hX (66 + k) 1 dX3_setLine_42 (cW_ar (by omega)) rfl (by omega) (by omega) (by decide) ?_
  obtain ⟨J23, eJ23⟩ : ∃ J' : Nat → Nat → Int64, J' = va_up J18 k (vp_updL (J18 k) (z20 : Int).toNat (x2)) := ⟨_, rfl⟩
  refine Z.toW (w' := cW ce h pl ar G L B8 J23) (by rw [eJ23]; exact cW_setJ (by omega)) ?_
  have gJ23 : J23 k = vp_updL (J18 k) (z20 : Int).toNat (x2) := by rw [eJ23]; exact up_eq
  have fJ23 : ∀ j_, j_ ≠ k → J23 j_ = J18 j_ := fun j_ hj_ => by rw [eJ23]; exact up_ne hj_
  exact hR _ _ _ dX3_setLine_43 ⟨B8, J23, rfl, (fun j_ h_k => ((fB8 j_ h_k).trans ((hq4 j_ h_k).trans rfl))), (fun j_ h_k => ((fJ23 j_ h_k).trans ((fJ18 j_ h_k).trans ((fJ13 j_ h_k).trans ((hq5 j_ h_k).trans rfl))))), (BOK_s (k := k) hB (by omega) (fun j_ h_k => ((fB8 j_ h_k).trans ((hq4 j_ h_k).trans rfl)))), (by assumption)⟩

theorem dX3_copy_0 : decode cX3_copy 0 = .ok (.aload_n 1, 1) := by decide +kernel
theorem dX3_copy_1 : decode cX3_copy 1 = .ok (.getfield 9, 3) := by decide +kernel
theorem dX3_copy_4 : decode cX3_copy 4 = .ok (.iconst 0, 1) := by decide +kernel
theorem dX3_copy_5 : decode cX3_copy 5 = .ok (.aload_n 0, 1) := by decide +kernel
theorem dX3_copy_6 : decode cX3_copy 6 = .ok (.getfield 9, 3) := by decide +kernel
theorem dX3_copy_9 : decode cX3_copy 9 = .ok (.iconst 0, 1) := by decide +kernel
theorem dX3_copy_10 : decode cX3_copy 10 = .ok (.bipush 28, 2) := by decide +kernel
theorem dX3_copy_12 : decode cX3_copy 12 = .ok (.invokestatic 32, 3) := by decide +kernel
theorem dX3_copy_15 : decode cX3_copy 15 = .ok (.aload_n 0, 1) := by decide +kernel
theorem dX3_copy_16 : decode cX3_copy 16 = .ok (.aload_n 1, 1) := by decide +kernel
theorem dX3_copy_17 : decode cX3_copy 17 = .ok (.getfield 15, 3) := by decide +kernel
theorem dX3_copy_20 : decode cX3_copy 20 = .ok (.putfield 15, 3) := by decide +kernel
theorem dX3_copy_23 : decode cX3_copy 23 = .ok (.return_, 1) := by decide +kernel
set_option maxHeartbeats 4000000 in
set_option maxRecDepth 100000 in
theorem ct_X3_copy (l : Launch) (D : va_G) (ce : Nat → ClassId) (h pl ar : Nat → Nat) (G : Nat → Int) (L : Nat → Nat → Int64) (B : Nat → Int) (J : Nat → Nat → Int64) (k : Nat) (kf : Nat) (hk : k < 42) (hB : BOK B) (hkf : kf < 42) : Ct l yX3_copy cX3_copy 2 none { frames := 1, cells := 0, slots := 0, locals := 40 } 0 0 D (TY ce) [.ref (pl k), .ref (pl kf)] (cW ce h pl ar G L B J) (QV D (TY ce) (fun w1 => ∃ B2 : Nat → Int, ∃ J2 : Nat → Nat → Int64, w1 = cW ce h pl ar G L B2 J2 ∧ (∀ j, j ≠ k → B2 j = B j) ∧ (∀ j, j ≠ k → J2 j = J j) ∧ (BOK B2) ∧ (B2 k = B kf))) := by
  refine Ct.ofV (by decide) (Nat.le_of_ble_eq_true rfl) ?_
  intro p e s m args below meth c A Q hX hnm hR
  refine Z.pick (lv' := [(0, .ref (pl k)), (1, .ref (pl kf))]) [0, 1] rfl ?_
  have hbf := hB kf hkf
  refine Z.aload_n hX dX3_copy_0 rfl rfl ?_
  refine Z.getf hX 3 (24 + kf) 0 dX3_copy_1 (cW_pl (by omega)) rfl inX3 (by decide) fl_X3_9 rfl rfl ?_
  refine Z.iconst hX dX3_copy_4 ?_
  refine Z.aload_n hX dX3_copy_5 rfl rfl ?_
  refine Z.getf hX 3 (24 + k) 0 dX3_copy_6 (cW_pl (by omega)) rfl inX3 (by decide) fl_X3_9 rfl rfl ?_
  refine Z.iconst hX dX3_copy_9 ?_
  refine Z.bipush hX dX3_copy_10 (by decide) ?_
  refine Z.copyA hX (66 + kf) (66 + k) 1 dX3_copy_12 (cW_ar (by omega)) (cW_ar (by omega)) rfl rfl (by decide) ml_X3_32 (by decide) (Nat.le_of_ble_eq_true rfl) ?_
  obtain ⟨J1, eJ1⟩ : ∃ J' : Nat → Nat → Int64, J' = va_up J k (va_cpy (J kf) (J k) 0 0 28) := ⟨_, rfl⟩
  refine Z.toW (w' := cW ce h pl ar G L B J1) (by rw [eJ1]; exact cW_setJ (by omega)) ?_
  have gJ1 : J1 k = va_cpy (J kf) (J k) 0 0 28 := by rw [eJ1]; exact up_eq
  have fJ1 : ∀ j_, j_ ≠ k → J1 j_ = J j_ := fun j_ hj_ => by rw [eJ1]; exact up_ne hj_
  refine Z.aload_n hX dX3_copy_15 rfl rfl ?_
  refine Z.aload_n hX dX3_copy_16 rfl rfl ?_
  refine Z.getf hX 3 (24 + kf) 1 dX3_copy_17 (cW_pl (by omega)) rfl inX3 (by decide) fl_X3_15 rfl rfl ?_
  refine Z.putf (ty := .int) hX 3 (24 + k) 1 tyX3 dX3_copy_20 (cW_pl (by omega)) rfl inX3 tyX3_ok nmX3 (by decide) fl_X3_15 rfl rfl (by decide +kernel) rfl rfl (Nat.le_of_ble_eq_true rfl) ?_
  obtain ⟨B2, eB2⟩ : ∃ F' : Nat → Int, F' = va_up B k (B kf) := ⟨_, rfl⟩
  refine Z.toW (w' := cW ce h pl ar G L B2 J1) (by rw [eB2]; exact cW_setB (by omega)) ?_
  have gB2 : B2 k = B kf := by rw [eB2]; exact up_eq
  have fB2 : ∀ j_, j_ ≠ k → B2 j_ = B j_ := fun j_ hj_ => by rw [eB2]; exact up_ne hj_
  exact hR _ _ _ dX3_copy_23 ⟨B2, J1, rfl, (fun j_ h_k => ((fB2 j_ h_k).trans rfl)), (fun j_ h_k => ((fJ1 j_ h_k).trans rfl)), (BOK_s (k := k) hB (by omega) (fun j_ h_k => ((fB2 j_ h_k).trans rfl))), (by assumption)⟩

theorem dX3_firstOfBound_0 : decode cX3_firstOfBound 0 = .ok (.iconst 0, 1) := by decide +kernel
theorem dX3_firstOfBound_1 : decode cX3_firstOfBound 1 = .ok (.istore_n 1, 1) := by decide +kernel
theorem dX3_firstOfBound_2 : decode cX3_firstOfBound 2 = .ok (.iload_n 1, 1) := by decide +kernel
theorem dX3_firstOfBound_3 : decode cX3_firstOfBound 3 = .ok (.aload_n 0, 1) := by decide +kernel
theorem dX3_firstOfBound_4 : decode cX3_firstOfBound 4 = .ok (.getfield 15, 3) := by decide +kernel
theorem dX3_firstOfBound_7 : decode cX3_firstOfBound 7 = .ok (.if_icmp .gt 29, 3) := by decide +kernel
theorem dX3_firstOfBound_10 : decode cX3_firstOfBound 10 = .ok (.aload_n 0, 1) := by decide +kernel
theorem dX3_firstOfBound_11 : decode cX3_firstOfBound 11 = .ok (.getfield 9, 3) := by decide +kernel
theorem dX3_firstOfBound_14 : decode cX3_firstOfBound 14 = .ok (.aload_n 0, 1) := by decide +kernel
theorem dX3_firstOfBound_15 : decode cX3_firstOfBound 15 = .ok (.getfield 15, 3) := by decide +kernel
theorem dX3_firstOfBound_18 : decode cX3_firstOfBound 18 = .ok (.iload_n 1, 1) := by decide +kernel
theorem dX3_firstOfBound_19 : decode cX3_firstOfBound 19 = .ok (.invokestatic 28, 3) := by decide +kernel
theorem dX3_firstOfBound_22 : decode cX3_firstOfBound 22 = .ok (.laload, 1) := by decide +kernel
theorem dX3_firstOfBound_23 : decode cX3_firstOfBound 23 = .ok (.lconst 0, 1) := by decide +kernel
theorem dX3_firstOfBound_24 : decode cX3_firstOfBound 24 = .ok (.lcmp, 1) := by decide +kernel
theorem dX3_firstOfBound_25 : decode cX3_firstOfBound 25 = .ok (.ifCond .eq 5, 3) := by decide +kernel
theorem dX3_firstOfBound_28 : decode cX3_firstOfBound 28 = .ok (.iload_n 1, 1) := by decide +kernel
theorem dX3_firstOfBound_29 : decode cX3_firstOfBound 29 = .ok (.ireturn, 1) := by decide +kernel
theorem dX3_firstOfBound_30 : decode cX3_firstOfBound 30 = .ok (.iinc 1 1, 3) := by decide +kernel
theorem dX3_firstOfBound_33 : decode cX3_firstOfBound 33 = .ok (.goto (-31), 3) := by decide +kernel
theorem dX3_firstOfBound_36 : decode cX3_firstOfBound 36 = .ok (.iconst (-1), 1) := by decide +kernel
theorem dX3_firstOfBound_37 : decode cX3_firstOfBound 37 = .ok (.ireturn, 1) := by decide +kernel
set_option maxHeartbeats 4000000 in
set_option maxRecDepth 100000 in
theorem ct_X3_firstOfBound (l : Launch) (D : va_G) (ce : Nat → ClassId) (h pl ar : Nat → Nat) (G : Nat → Int) (L : Nat → Nat → Int64) (B : Nat → Int) (J : Nat → Nat → Int64) (k : Nat) (hk : k < 42) (hB : BOK B) : Ct l yX3_firstOfBound cX3_firstOfBound 2 (some .int) { frames := 1, cells := 0, slots := 0, locals := 21 } 0 0 D (TY ce) [.ref (pl k)] (cW ce h pl ar G L B J) (QI D (TY ce) (fun r w1 => ∃ z : Int, r = zI z ∧ w1 = cW ce h pl ar G L B J ∧ (-1 ≤ z ∧ z ≤ B k))) := by
  refine Ct.ofI (by decide) (Nat.le_of_ble_eq_true rfl) ?_
  intro p e s m args below meth c A Q hX hnm hR
  refine Z.pick (lv' := [(0, .ref (pl k))]) [0] rfl ?_
  have hbk := hB k hk
  refine Z.iconst hX dX3_firstOfBound_0 ?_
  refine Z.istore_n (lv' := [(1, .int (zI 0)), (0, .ref (pl k))]) hX dX3_firstOfBound_1 rfl (by decide) rfl ?_
  have key_2 : ∀ (N : Nat), ∀ (i : Int), (B k + 1 - i).toNat < N → (hi : 0 ≤ i ∧ i ≤ B k + 1) → Z p l e { frames := 1, cells := 0, slots := 0, locals := 21 } s m args below meth c D A 2 0 0 Q 2 [(1, .int (zI i)), (0, .ref (pl k))] [] (cW ce h pl ar G L B J) := by
    intro N
    induction N with
    | zero => intro i hm; exact absurd hm (Nat.not_lt_zero _)
    | succ N ih_2 =>
      intro i hm hi
      refine Z.iload_n hX dX3_firstOfBound_2 rfl rfl ?_
      refine Z.aload_n hX dX3_firstOfBound_3 rfl rfl ?_
      refine Z.getf hX 3 (24 + k) 1 dX3_firstOfBound_4 (cW_pl (by omega)) rfl inX3 (by decide) fl_X3_15 rfl rfl ?_
      refine Z.icmp_gt hX 36 dX3_firstOfBound_7 (by decide) ⟨by omega, by omega⟩ ⟨by omega, by omega⟩ ?_ ?_
      · intro c1
        refine Z.iconst hX dX3_firstOfBound_36 ?_
        exact hR _ _ _ _ dX3_firstOfBound_37 ⟨(-1), rfl, rfl, (by omega)⟩
      · intro c1
        refine Z.aload_n hX dX3_firstOfBound_10 rfl rfl ?_
        refine Z.getf hX 3 (24 + k) 0 dX3_firstOfBound_11 (cW_pl (by omega)) rfl inX3 (by decide) fl_X3_9 rfl rfl ?_
        refine Z.aload_n hX dX3_firstOfBound_14 rfl rfl ?_
        refine Z.getf hX 3 (24 + k) 1 dX3_firstOfBound_15 (cW_pl (by omega)) rfl inX3 (by decide) fl_X3_15 rfl rfl ?_
        refine Z.iload_n hX dX3_firstOfBound_18 rfl rfl ?_
        refine Z.callSNi (As := [.int (zI (B k)), .int (zI i)]) (rest := [.ref (ar k)]) hX (ct_X6_slotOf l D ce (B k) i (by omega) (by omega)) mc_X6_slotOf ns_X3_28 st_X6_slotOf ini_X6 nd_X6_slotOf ⟨Nat.le_of_ble_eq_true rfl, Nat.le_of_ble_eq_true rfl⟩ ⟨rfl, rfl⟩ ⟨Nat.le_refl _, Nat.le_refl _⟩ rfl (Nat.le_of_ble_eq_true rfl) dX3_firstOfBound_19 ?_
        rintro r_2 w1 ⟨z3, hr_, hw_, hq4, hq5⟩
        subst hr_
        refine ⟨hw_, ?_⟩
        refine Z.laload hX (66 + k) 1 dX3_firstOfBound_22 (cW_ar (by omega)) rfl (by omega) (by omega) (by decide) ?_
        refine Z.lconst (v := 0) hX dX3_firstOfBound_23 rfl ?_
        refine Z.lcmp_eq hX 30 dX3_firstOfBound_24 dX3_firstOfBound_25 (by decide) ?_ ?_
        · intro c6
          refine Z.iinc (lv' := [(1, .int (zI (i + 1))), (0, .ref (pl k))]) hX dX3_firstOfBound_30 rfl (by decide) rfl ?_
          refine Z.goto hX 2 dX3_firstOfBound_33 (by decide) ?_
          refine Z.pick [0, 1] rfl ?_
          exact ih_2 _ (by omega) (by omega)
        · intro c6
          refine Z.iload_n hX dX3_firstOfBound_28 rfl rfl ?_
          exact hR _ _ _ _ dX3_firstOfBound_29 ⟨i, rfl, rfl, (by omega)⟩
  refine Z.pick [0, 1] rfl ?_
  exact key_2 _ _ (Nat.lt_succ_self _) (by omega)

theorem dX3_tighten_0 : decode cX3_tighten 0 = .ok (.aload_n 0, 1) := by decide +kernel
theorem dX3_tighten_1 : decode cX3_tighten 1 = .ok (.getfield 15, 3) := by decide +kernel
theorem dX3_tighten_4 : decode cX3_tighten 4 = .ok (.ifCond .le 23, 3) := by decide +kernel
theorem dX3_tighten_7 : decode cX3_tighten 7 = .ok (.aload_n 0, 1) := by decide +kernel
theorem dX3_tighten_8 : decode cX3_tighten 8 = .ok (.invokevirtual 38, 3) := by decide +kernel
theorem dX3_tighten_11 : decode cX3_tighten 11 = .ok (.ifCond .ge 16, 3) := by decide +kernel
theorem dX3_tighten_14 : decode cX3_tighten 14 = .ok (.aload_n 0, 1) := by decide +kernel
theorem dX3_tighten_15 : decode cX3_tighten 15 = .ok (.dup, 1) := by decide +kernel
theorem dX3_tighten_16 : decode cX3_tighten 16 = .ok (.getfield 15, 3) := by decide +kernel
theorem dX3_tighten_19 : decode cX3_tighten 19 = .ok (.iconst 1, 1) := by decide +kernel
theorem dX3_tighten_20 : decode cX3_tighten 20 = .ok (.isub, 1) := by decide +kernel
theorem dX3_tighten_21 : decode cX3_tighten 21 = .ok (.putfield 15, 3) := by decide +kernel
theorem dX3_tighten_24 : decode cX3_tighten 24 = .ok (.goto (-24), 3) := by decide +kernel
theorem dX3_tighten_27 : decode cX3_tighten 27 = .ok (.return_, 1) := by decide +kernel
set_option maxHeartbeats 4000000 in
set_option maxRecDepth 100000 in
theorem ct_X3_tighten (l : Launch) (D : va_G) (ce : Nat → ClassId) (h pl ar : Nat → Nat) (G : Nat → Int) (L : Nat → Nat → Int64) (B : Nat → Int) (J : Nat → Nat → Int64) (k : Nat) (hk : k < 42) (hB : BOK B) : Ct l yX3_tighten cX3_tighten 1 none { frames := 2, cells := 0, slots := 0, locals := 42 } 0 0 D (TY ce) [.ref (pl k)] (cW ce h pl ar G L B J) (QV D (TY ce) (fun w1 => ∃ B2 : Nat → Int, w1 = cW ce h pl ar G L B2 J ∧ (∀ j, j ≠ k → B2 j = B j) ∧ (BOK B2) ∧ (B2 k ≤ B k))) := by
  refine Ct.ofV (by decide) (Nat.le_of_ble_eq_true rfl) ?_
  intro p e s m args below meth c A Q hX hnm hR
  refine Z.pick (lv' := [(0, .ref (pl k))]) [0] rfl ?_
  have key_0 : ∀ (N : Nat), ∀ (M : Nat → Int), (M k).toNat < N → (hM : BOK M) → (hf : ∀ j, j ≠ k → M j = B j) → (hle : M k ≤ B k) → Z p l e { frames := 2, cells := 0, slots := 0, locals := 42 } s m args below meth c D A 1 0 0 Q 0 [(0, .ref (pl k))] [] (cW ce h pl ar G L M J) := by
    intro N
    induction N with
    | zero => intro M hm; exact absurd hm (Nat.not_lt_zero _)
    | succ N ih_0 =>
      intro M hm hM hf hle
      have hbk := hM k hk
      refine Z.aload_n hX dX3_tighten_0 rfl rfl ?_
      refine Z.getf hX 3 (24 + k) 1 dX3_tighten_1 (cW_pl (by omega)) rfl inX3 (by decide) fl_X3_15 rfl rfl ?_
      refine Z.if_le hX 27 dX3_tighten_4 (by decide) ⟨by omega, by omega⟩ ?_ ?_
      · intro c1
        exact hR _ _ _ dX3_tighten_27 ⟨M, rfl, hf, hM, hle⟩
      · intro c1
        refine Z.aload_n hX dX3_tighten_7 rfl rfl ?_
        refine Z.callVfi (As := []) (rest := []) hX 3 (24 + k) rfl (cW_pl (by omega)) (ct_X3_firstOfBound l D ce h pl ar G L M J k hk hM) mc_X3_firstOfBound ml_X3_38 im_X3_firstOfBound se_X3_firstOfBound ini_X3 nd_X3_firstOfBound ⟨Nat.le_of_ble_eq_true rfl, Nat.le_of_ble_eq_true rfl⟩ ⟨rfl, rfl⟩ ⟨Nat.le_refl _, Nat.le_refl _⟩ rfl (Nat.le_of_ble_eq_true rfl) dX3_tighten_8 ?_
        rintro r_2 w1 ⟨z3, hr_, hw_, hq4⟩
        subst hr_
        subst hw_
        refine Z.if_ge hX 27 dX3_tighten_11 (by decide) ⟨by omega, by omega⟩ ?_ ?_
        · intro c5
          exact hR _ _ _ dX3_tighten_27 ⟨M, rfl, hf, hM, hle⟩
        · intro c5
          refine Z.aload_n hX dX3_tighten_14 rfl rfl ?_
          refine Z.dup hX dX3_tighten_15 rfl ?_
          refine Z.getf hX 3 (24 + k) 1 dX3_tighten_16 (cW_pl (by omega)) rfl inX3 (by decide) fl_X3_15 rfl rfl ?_
          refine Z.iconst hX dX3_tighten_19 ?_
          refine Z.isub hX dX3_tighten_20 ?_
          refine Z.putf (ty := .int) hX 3 (24 + k) 1 tyX3 dX3_tighten_21 (cW_pl (by omega)) rfl inX3 tyX3_ok nmX3 (by decide) fl_X3_15 rfl rfl (by decide +kernel) rfl rfl (Nat.le_of_ble_eq_true rfl) ?_
          obtain ⟨B6, eB6⟩ : ∃ F' : Nat → Int, F' = va_up M k ((M k) - 1) := ⟨_, rfl⟩
          refine Z.toW (w' := cW ce h pl ar G L B6 J) (by rw [eB6]; exact cW_setB (by omega)) ?_
          have gB6 : B6 k = (M k) - 1 := by rw [eB6]; exact up_eq
          have fB6 : ∀ j_, j_ ≠ k → B6 j_ = M j_ := fun j_ hj_ => by rw [eB6]; exact up_ne hj_
          refine Z.goto hX 0 dX3_tighten_24 (by decide) ?_
          refine Z.pick [0] rfl ?_
          exact ih_0 _ (by omega) (BOK_s (k := k) hM (by omega) (fun j_ h_k => ((fB6 j_ h_k).trans rfl))) (fun j_ h_k => ((fB6 j_ h_k).trans (hf j_ h_k))) (by omega)
  refine Z.pick [0] rfl ?_
  exact key_0 _ _ (Nat.lt_succ_self _) hB (fun _ _ => rfl) (Int.le_refl _)

theorem dX3_makePrimitive_0 : decode cX3_makePrimitive 0 = .ok (.aload_n 0, 1) := by decide +kernel
theorem dX3_makePrimitive_1 : decode cX3_makePrimitive 1 = .ok (.invokevirtual 42, 3) := by decide +kernel
theorem dX3_makePrimitive_4 : decode cX3_makePrimitive 4 = .ok (.aload_n 0, 1) := by decide +kernel
theorem dX3_makePrimitive_5 : decode cX3_makePrimitive 5 = .ok (.invokevirtual 38, 3) := by decide +kernel
theorem dX3_makePrimitive_8 : decode cX3_makePrimitive 8 = .ok (.istore_n 1, 1) := by decide +kernel
theorem dX3_makePrimitive_9 : decode cX3_makePrimitive 9 = .ok (.lconst 0, 1) := by decide +kernel
theorem dX3_makePrimitive_10 : decode cX3_makePrimitive 10 = .ok (.lstore_n 2, 1) := by decide +kernel
theorem dX3_makePrimitive_11 : decode cX3_makePrimitive 11 = .ok (.iconst 0, 1) := by decide +kernel
theorem dX3_makePrimitive_12 : decode cX3_makePrimitive 12 = .ok (.istore 4, 2) := by decide +kernel
theorem dX3_makePrimitive_14 : decode cX3_makePrimitive 14 = .ok (.iload 4, 2) := by decide +kernel
theorem dX3_makePrimitive_16 : decode cX3_makePrimitive 16 = .ok (.bipush 28, 2) := by decide +kernel
theorem dX3_makePrimitive_18 : decode cX3_makePrimitive 18 = .ok (.if_icmp .ge 21, 3) := by decide +kernel
theorem dX3_makePrimitive_21 : decode cX3_makePrimitive 21 = .ok (.lload_n 2, 1) := by decide +kernel
theorem dX3_makePrimitive_22 : decode cX3_makePrimitive 22 = .ok (.aload_n 0, 1) := by decide +kernel
theorem dX3_makePrimitive_23 : decode cX3_makePrimitive 23 = .ok (.getfield 9, 3) := by decide +kernel
theorem dX3_makePrimitive_26 : decode cX3_makePrimitive 26 = .ok (.iload 4, 2) := by decide +kernel
theorem dX3_makePrimitive_28 : decode cX3_makePrimitive 28 = .ok (.laload, 1) := by decide +kernel
theorem dX3_makePrimitive_29 : decode cX3_makePrimitive 29 = .ok (.invokestatic 45, 3) := by decide +kernel
theorem dX3_makePrimitive_32 : decode cX3_makePrimitive 32 = .ok (.lstore_n 2, 1) := by decide +kernel
theorem dX3_makePrimitive_33 : decode cX3_makePrimitive 33 = .ok (.iinc 4 1, 3) := by decide +kernel
theorem dX3_makePrimitive_36 : decode cX3_makePrimitive 36 = .ok (.goto (-22), 3) := by decide +kernel
theorem dX3_makePrimitive_39 : decode cX3_makePrimitive 39 = .ok (.iload_n 1, 1) := by decide +kernel
theorem dX3_makePrimitive_40 : decode cX3_makePrimitive 40 = .ok (.ifCond .lt 9, 3) := by decide +kernel
theorem dX3_makePrimitive_43 : decode cX3_makePrimitive 43 = .ok (.lload_n 2, 1) := by decide +kernel
theorem dX3_makePrimitive_44 : decode cX3_makePrimitive 44 = .ok (.lconst 0, 1) := by decide +kernel
theorem dX3_makePrimitive_45 : decode cX3_makePrimitive 45 = .ok (.lcmp, 1) := by decide +kernel
theorem dX3_makePrimitive_46 : decode cX3_makePrimitive 46 = .ok (.ifCond .ne 4, 3) := by decide +kernel
theorem dX3_makePrimitive_49 : decode cX3_makePrimitive 49 = .ok (.return_, 1) := by decide +kernel
theorem dX3_makePrimitive_50 : decode cX3_makePrimitive 50 = .ok (.aload_n 0, 1) := by decide +kernel
theorem dX3_makePrimitive_51 : decode cX3_makePrimitive 51 = .ok (.getfield 9, 3) := by decide +kernel
theorem dX3_makePrimitive_54 : decode cX3_makePrimitive 54 = .ok (.aload_n 0, 1) := by decide +kernel
theorem dX3_makePrimitive_55 : decode cX3_makePrimitive 55 = .ok (.getfield 15, 3) := by decide +kernel
theorem dX3_makePrimitive_58 : decode cX3_makePrimitive 58 = .ok (.iload_n 1, 1) := by decide +kernel
theorem dX3_makePrimitive_59 : decode cX3_makePrimitive 59 = .ok (.invokestatic 28, 3) := by decide +kernel
theorem dX3_makePrimitive_62 : decode cX3_makePrimitive 62 = .ok (.laload, 1) := by decide +kernel
theorem dX3_makePrimitive_63 : decode cX3_makePrimitive 63 = .ok (.lconst 0, 1) := by decide +kernel
theorem dX3_makePrimitive_64 : decode cX3_makePrimitive 64 = .ok (.lcmp, 1) := by decide +kernel
theorem dX3_makePrimitive_65 : decode cX3_makePrimitive 65 = .ok (.ifCond .ge 6, 3) := by decide +kernel
theorem dX3_makePrimitive_68 : decode cX3_makePrimitive 68 = .ok (.lload_n 2, 1) := by decide +kernel
theorem dX3_makePrimitive_69 : decode cX3_makePrimitive 69 = .ok (.lneg, 1) := by decide +kernel
theorem dX3_makePrimitive_70 : decode cX3_makePrimitive 70 = .ok (.lstore_n 2, 1) := by decide +kernel
theorem dX3_makePrimitive_71 : decode cX3_makePrimitive 71 = .ok (.iconst 0, 1) := by decide +kernel
theorem dX3_makePrimitive_72 : decode cX3_makePrimitive 72 = .ok (.istore 4, 2) := by decide +kernel
theorem dX3_makePrimitive_74 : decode cX3_makePrimitive 74 = .ok (.iload 4, 2) := by decide +kernel
theorem dX3_makePrimitive_76 : decode cX3_makePrimitive 76 = .ok (.bipush 28, 2) := by decide +kernel
theorem dX3_makePrimitive_78 : decode cX3_makePrimitive 78 = .ok (.if_icmp .ge 20, 3) := by decide +kernel
theorem dX3_makePrimitive_81 : decode cX3_makePrimitive 81 = .ok (.aload_n 0, 1) := by decide +kernel
theorem dX3_makePrimitive_82 : decode cX3_makePrimitive 82 = .ok (.getfield 9, 3) := by decide +kernel
theorem dX3_makePrimitive_85 : decode cX3_makePrimitive 85 = .ok (.iload 4, 2) := by decide +kernel
theorem dX3_makePrimitive_87 : decode cX3_makePrimitive 87 = .ok (.dup2, 1) := by decide +kernel
theorem dX3_makePrimitive_88 : decode cX3_makePrimitive 88 = .ok (.laload, 1) := by decide +kernel
theorem dX3_makePrimitive_89 : decode cX3_makePrimitive 89 = .ok (.lload_n 2, 1) := by decide +kernel
theorem dX3_makePrimitive_90 : decode cX3_makePrimitive 90 = .ok (.ldiv, 1) := by decide +kernel
theorem dX3_makePrimitive_91 : decode cX3_makePrimitive 91 = .ok (.lastore, 1) := by decide +kernel
theorem dX3_makePrimitive_92 : decode cX3_makePrimitive 92 = .ok (.iinc 4 1, 3) := by decide +kernel
theorem dX3_makePrimitive_95 : decode cX3_makePrimitive 95 = .ok (.goto (-21), 3) := by decide +kernel
theorem dX3_makePrimitive_98 : decode cX3_makePrimitive 98 = .ok (.return_, 1) := by decide +kernel
set_option maxHeartbeats 4000000 in
set_option maxRecDepth 100000 in
theorem ct_X3_makePrimitive (l : Launch) (D : va_G) (ce : Nat → ClassId) (h pl ar : Nat → Nat) (G : Nat → Int) (L : Nat → Nat → Int64) (B : Nat → Int) (J : Nat → Nat → Int64) (k : Nat) (hk : k < 42) (hB : BOK B) : Ct l yX3_makePrimitive cX3_makePrimitive 5 none { frames := 3, cells := 0, slots := 0, locals := 62 } 0 0 D (TY ce) [.ref (pl k)] (cW ce h pl ar G L B J) (QV D (TY ce) (fun w1 => ∃ B2 : Nat → Int, ∃ J2 : Nat → Nat → Int64, w1 = cW ce h pl ar G L B2 J2 ∧ (∀ j, j ≠ k → B2 j = B j) ∧ (∀ j, j ≠ k → J2 j = J j) ∧ (BOK B2) ∧ (B2 k ≤ B k))) := by
  refine Ct.ofV (by decide) (Nat.le_of_ble_eq_true rfl) ?_
  intro p e s m args below meth c A Q hX hnm hR
  refine Z.pick (lv' := [(0, .ref (pl k))]) [0] rfl ?_
  refine Z.aload_n hX dX3_makePrimitive_0 rfl rfl ?_
  refine Z.callVfv (As := []) (rest := []) hX 3 (24 + k) rfl (cW_pl (by omega)) (ct_X3_tighten l D ce h pl ar G L B J k hk hB) mc_X3_tighten ml_X3_42 im_X3_tighten se_X3_tighten ini_X3 nd_X3_tighten ⟨Nat.le_of_ble_eq_true rfl, Nat.le_of_ble_eq_true rfl⟩ ⟨rfl, rfl⟩ ⟨Nat.le_refl _, Nat.le_refl _⟩ rfl (Nat.le_of_ble_eq_true rfl) dX3_makePrimitive_1 ?_
  rintro w1 ⟨Bt, hw_, ht1, ht2, ht3⟩
  subst hw_
  refine Z.aload_n hX dX3_makePrimitive_4 rfl rfl ?_
  refine Z.callVfi (As := []) (rest := []) hX 3 (24 + k) rfl (cW_pl (by omega)) (ct_X3_firstOfBound l D ce h pl ar G L Bt J k hk ht2) mc_X3_firstOfBound ml_X3_38 im_X3_firstOfBound se_X3_firstOfBound ini_X3 nd_X3_firstOfBound ⟨Nat.le_of_ble_eq_true rfl, Nat.le_of_ble_eq_true rfl⟩ ⟨rfl, rfl⟩ ⟨Nat.le_refl _, Nat.le_refl _⟩ rfl (Nat.le_of_ble_eq_true rfl) dX3_makePrimitive_5 ?_
  rintro r_2 w1 ⟨fb, hr_, hw_, hfb⟩
  subst hr_
  subst hw_
  have hbk := ht2 k hk
  refine Z.istore_n (lv' := [(1, .int (zI fb)), (0, .ref (pl k))]) hX dX3_makePrimitive_8 rfl (by decide) rfl ?_
  refine Z.lconst (v := 0) hX dX3_makePrimitive_9 rfl ?_
  refine Z.lstore_n (lv' := [(2, .long 0), (1, .int (zI fb)), (0, .ref (pl k))]) hX dX3_makePrimitive_10 rfl (by decide) rfl ?_
  refine Z.iconst hX dX3_makePrimitive_11 ?_
  refine Z.istore (lv' := [(4, .int (zI 0)), (2, .long 0), (1, .int (zI fb)), (0, .ref (pl k))]) hX dX3_makePrimitive_12 (by decide) rfl ?_
  have key_14 : ∀ (N : Nat), ∀ (i : Int) (x : Int64), (28 - i).toNat < N → (hi : 0 ≤ i ∧ i ≤ 28) → Z p l e { frames := 3, cells := 0, slots := 0, locals := 62 } s m args below meth c D A 5 0 0 Q 14 [(4, .int (zI i)), (2, .long x), (1, .int (zI fb)), (0, .ref (pl k))] [] (cW ce h pl ar G L Bt J) := by
    intro N
    induction N with
    | zero => intro i x hm; exact absurd hm (Nat.not_lt_zero _)
    | succ N ih_14 =>
      intro i x hm hi
      refine Z.iload hX dX3_makePrimitive_14 rfl ?_
      refine Z.bipush hX dX3_makePrimitive_16 (by decide) ?_
      refine Z.icmp_ge hX 39 dX3_makePrimitive_18 (by decide) ⟨by omega, by omega⟩ ⟨by omega, by omega⟩ ?_ ?_
      · intro c3
        refine Z.iload_n hX dX3_makePrimitive_39 rfl rfl ?_
        refine Z.if_lt hX 49 dX3_makePrimitive_40 (by decide) ⟨by omega, by omega⟩ ?_ ?_
        · intro c4
          exact hR _ _ _ dX3_makePrimitive_49 ⟨Bt, J, rfl, ht1, (fun _ _ => rfl), ht2, ht3⟩
        · intro c4
          refine Z.lload_n hX dX3_makePrimitive_43 rfl rfl ?_
          refine Z.lconst (v := 0) hX dX3_makePrimitive_44 rfl ?_
          refine Z.lcmp_ne hX 50 dX3_makePrimitive_45 dX3_makePrimitive_46 (by decide) ?_ ?_
          · intro c5
            have key_71 : ∀ (y : Int64), (hy0 : ¬ y = 0) → Z p l e { frames := 3, cells := 0, slots := 0, locals := 62 } s m args below meth c D A 5 0 0 Q 71 [(2, .long y), (0, .ref (pl k))] [] (cW ce h pl ar G L Bt J) := by
              intro y hy0
              refine Z.iconst hX dX3_makePrimitive_71 ?_
              refine Z.istore (lv' := [(4, .int (zI 0)), (2, .long y), (0, .ref (pl k))]) hX dX3_makePrimitive_72 (by decide) rfl ?_
              have key_74 : ∀ (N : Nat), ∀ (i : Int) (M : Nat → Nat → Int64), (28 - i).toNat < N → (hi2 : 0 ≤ i ∧ i ≤ 28) → (hM : ∀ j, j ≠ k → M j = J j) → Z p l e { frames := 3, cells := 0, slots := 0, locals := 62 } s m args below meth c D A 5 0 0 Q 74 [(4, .int (zI i)), (2, .long y), (0, .ref (pl k))] [] (cW ce h pl ar G L Bt M) := by
                intro N
                induction N with
                | zero => intro i M hm; exact absurd hm (Nat.not_lt_zero _)
                | succ N ih_74 =>
                  intro i M hm hi2 hM
                  refine Z.iload hX dX3_makePrimitive_74 rfl ?_
                  refine Z.bipush hX dX3_makePrimitive_76 (by decide) ?_
                  refine Z.icmp_ge hX 98 dX3_makePrimitive_78 (by decide) ⟨by omega, by omega⟩ ⟨by omega, by omega⟩ ?_ ?_
                  · intro c6
                    exact hR _ _ _ dX3_makePrimitive_98 ⟨Bt, M, rfl, ht1, hM, ht2, ht3⟩
                  · intro c6
                    refine Z.aload_n hX dX3_makePrimitive_81 rfl rfl ?_
                    refine Z.getf hX 3 (24 + k) 0 dX3_makePrimitive_82 (cW_pl (by omega)) rfl inX3 (by decide) fl_X3_9 rfl rfl ?_
                    refine Z.iload hX dX3_makePrimitive_85 rfl ?_
                    refine Z.dup2 hX dX3_makePrimitive_87 rfl rfl ?_
                    refine Z.laload hX (66 + k) 1 dX3_makePrimitive_88 (cW_ar (by omega)) rfl (by omega) (by omega) (by decide) ?_
                    refine Z.lload_n hX dX3_makePrimitive_89 rfl rfl ?_
                    refine Z.ldiv hX dX3_makePrimitive_90 hy0 ?_
                    refine Z.lastore hX (66 + k) 1 dX3_makePrimitive_91 (cW_ar (by omega)) rfl (by omega) (by omega) (by decide) ?_
                    obtain ⟨J7, eJ7⟩ : ∃ J' : Nat → Nat → Int64, J' = va_up M k (vp_updL (M k) (i : Int).toNat ((M k (i : Int).toNat) / y)) := ⟨_, rfl⟩
                    refine Z.toW (w' := cW ce h pl ar G L Bt J7) (by rw [eJ7]; exact cW_setJ (by omega)) ?_
                    have gJ7 : J7 k = vp_updL (M k) (i : Int).toNat ((M k (i : Int).toNat) / y) := by rw [eJ7]; exact up_eq
                    have fJ7 : ∀ j_, j_ ≠ k → J7 j_ = M j_ := fun j_ hj_ => by rw [eJ7]; exact up_ne hj_
                    refine Z.iinc (lv' := [(4, .int (zI (i + 1))), (2, .long y), (0, .ref (pl k))]) hX dX3_makePrimitive_92 rfl (by decide) rfl ?_
                    refine Z.goto hX 74 dX3_makePrimitive_95 (by decide) ?_
                    refine Z.pick [0, 1, 2] rfl ?_
                    exact ih_74 _ _ (by omega) (by omega) (fun j_ h_k => ((fJ7 j_ h_k).trans (hM j_ h_k)))
              refine Z.pick [0, 1, 2] rfl ?_
              exact key_74 _ _ _ (Nat.lt_succ_self _) (by omega) (fun _ _ => rfl)
            refine Z.aload_n hX dX3_makePrimitive_50 rfl rfl ?_
            refine Z.getf hX 3 (24 + k) 0 dX3_makePrimitive_51 (cW_pl (by omega)) rfl inX3 (by decide) fl_X3_9 rfl rfl ?_
            refine Z.aload_n hX dX3_makePrimitive_54 rfl rfl ?_
            refine Z.getf hX 3 (24 + k) 1 dX3_makePrimitive_55 (cW_pl (by omega)) rfl inX3 (by decide) fl_X3_15 rfl rfl ?_
            refine Z.iload_n hX dX3_makePrimitive_58 rfl rfl ?_
            refine Z.callSNi (As := [.int (zI (Bt k)), .int (zI fb)]) (rest := [.ref (ar k)]) hX (ct_X6_slotOf l D ce (Bt k) fb (by omega) (by omega)) mc_X6_slotOf ns_X3_28 st_X6_slotOf ini_X6 nd_X6_slotOf ⟨Nat.le_of_ble_eq_true rfl, Nat.le_of_ble_eq_true rfl⟩ ⟨rfl, rfl⟩ ⟨Nat.le_refl _, Nat.le_refl _⟩ rfl (Nat.le_of_ble_eq_true rfl) dX3_makePrimitive_59 ?_
            rintro r_8 w1 ⟨z9, hr_, hw_, hq10, hq11⟩
            subst hr_
            refine ⟨hw_, ?_⟩
            refine Z.laload hX (66 + k) 1 dX3_makePrimitive_62 (cW_ar (by omega)) rfl (by omega) (by omega) (by decide) ?_
            refine Z.lconst (v := 0) hX dX3_makePrimitive_63 rfl ?_
            refine Z.lcmp_ge hX 71 dX3_makePrimitive_64 dX3_makePrimitive_65 (by decide) ?_ ?_
            · intro c12
              refine Z.pick [1, 3] rfl ?_
              exact key_71 _ (by omega)
            · intro c12
              refine Z.lload_n hX dX3_makePrimitive_68 rfl rfl ?_
              refine Z.lneg hX dX3_makePrimitive_69 ?_
              refine Z.lstore_n (lv' := [(2, .long (-x)), (4, .int (zI i)), (1, .int (zI fb)), (0, .ref (pl k))]) hX dX3_makePrimitive_70 rfl (by decide) rfl ?_
              refine Z.pick [0, 3] rfl ?_
              exact key_71 _ (tl_n (by assumption))
          · intro c5
            exact hR _ _ _ dX3_makePrimitive_49 ⟨Bt, J, rfl, ht1, (fun _ _ => rfl), ht2, ht3⟩
      · intro c3
        refine Z.lload_n hX dX3_makePrimitive_21 rfl rfl ?_
        refine Z.aload_n hX dX3_makePrimitive_22 rfl rfl ?_
        refine Z.getf hX 3 (24 + k) 0 dX3_makePrimitive_23 (cW_pl (by omega)) rfl inX3 (by decide) fl_X3_9 rfl rfl ?_
        refine Z.iload hX dX3_makePrimitive_26 rfl ?_
        refine Z.laload hX (66 + k) 1 dX3_makePrimitive_28 (cW_ar (by omega)) rfl (by omega) (by omega) (by decide) ?_
        refine Z.callSNl (As := [.long x, .long (J k (i : Int).toNat)]) (rest := []) hX (ct_X6_commonOf l D ce x (J k (i : Int).toNat) ) mc_X6_commonOf ns_X3_45 st_X6_commonOf ini_X6 nd_X6_commonOf ⟨Nat.le_of_ble_eq_true rfl, Nat.le_of_ble_eq_true rfl⟩ ⟨rfl, rfl⟩ ⟨Nat.le_refl _, Nat.le_refl _⟩ rfl (Nat.le_of_ble_eq_true rfl) dX3_makePrimitive_29 ?_
        rintro r_13 w1 ⟨r014, hr_, hw_, hq15⟩
        subst hr_
        refine ⟨hw_, ?_⟩
        refine Z.lstore_n (lv' := [(2, .long r_13), (4, .int (zI i)), (1, .int (zI fb)), (0, .ref (pl k))]) hX dX3_makePrimitive_32 rfl (by decide) rfl ?_
        refine Z.iinc (lv' := [(4, .int (zI (i + 1))), (2, .long r_13), (1, .int (zI fb)), (0, .ref (pl k))]) hX dX3_makePrimitive_33 rfl (by decide) rfl ?_
        refine Z.goto hX 14 dX3_makePrimitive_36 (by decide) ?_
        refine Z.pick [0, 1, 2, 3] rfl ?_
        exact ih_14 _ _ (by omega) (by omega)
  refine Z.pick [0, 1, 2, 3] rfl ?_
  exact key_14 _ _ _ (Nat.lt_succ_self _) (by omega)

theorem dX3_isSame_0 : decode cX3_isSame 0 = .ok (.iconst 0, 1) := by decide +kernel
theorem dX3_isSame_1 : decode cX3_isSame 1 = .ok (.istore_n 2, 1) := by decide +kernel
theorem dX3_isSame_2 : decode cX3_isSame 2 = .ok (.iload_n 2, 1) := by decide +kernel
theorem dX3_isSame_3 : decode cX3_isSame 3 = .ok (.bipush 28, 2) := by decide +kernel
theorem dX3_isSame_5 : decode cX3_isSame 5 = .ok (.if_icmp .ge 27, 3) := by decide +kernel
theorem dX3_isSame_8 : decode cX3_isSame 8 = .ok (.aload_n 0, 1) := by decide +kernel
theorem dX3_isSame_9 : decode cX3_isSame 9 = .ok (.getfield 9, 3) := by decide +kernel
theorem dX3_isSame_12 : decode cX3_isSame 12 = .ok (.iload_n 2, 1) := by decide +kernel
theorem dX3_isSame_13 : decode cX3_isSame 13 = .ok (.laload, 1) := by decide +kernel
theorem dX3_isSame_14 : decode cX3_isSame 14 = .ok (.aload_n 1, 1) := by decide +kernel
theorem dX3_isSame_15 : decode cX3_isSame 15 = .ok (.getfield 9, 3) := by decide +kernel
theorem dX3_isSame_18 : decode cX3_isSame 18 = .ok (.iload_n 2, 1) := by decide +kernel
theorem dX3_isSame_19 : decode cX3_isSame 19 = .ok (.laload, 1) := by decide +kernel
theorem dX3_isSame_20 : decode cX3_isSame 20 = .ok (.lcmp, 1) := by decide +kernel
theorem dX3_isSame_21 : decode cX3_isSame 21 = .ok (.ifCond .eq 5, 3) := by decide +kernel
theorem dX3_isSame_24 : decode cX3_isSame 24 = .ok (.iconst 0, 1) := by decide +kernel
theorem dX3_isSame_25 : decode cX3_isSame 25 = .ok (.ireturn, 1) := by decide +kernel
theorem dX3_isSame_26 : decode cX3_isSame 26 = .ok (.iinc 2 1, 3) := by decide +kernel
theorem dX3_isSame_29 : decode cX3_isSame 29 = .ok (.goto (-27), 3) := by decide +kernel
theorem dX3_isSame_32 : decode cX3_isSame 32 = .ok (.iconst 1, 1) := by decide +kernel
theorem dX3_isSame_33 : decode cX3_isSame 33 = .ok (.ireturn, 1) := by decide +kernel
set_option maxHeartbeats 4000000 in
set_option maxRecDepth 100000 in
theorem ct_X3_isSame (l : Launch) (D : va_G) (ce : Nat → ClassId) (h pl ar : Nat → Nat) (G : Nat → Int) (L : Nat → Nat → Int64) (B : Nat → Int) (J : Nat → Nat → Int64) (k : Nat) (kt : Nat) (hk : k < 42) (hB : BOK B) (hkt : kt < 42) : Ct l yX3_isSame cX3_isSame 3 (some .boolean) { frames := 0, cells := 0, slots := 0, locals := 0 } 0 0 D (TY ce) [.ref (pl k), .ref (pl kt)] (cW ce h pl ar G L B J) (QI D (TY ce) (fun r w1 => ∃ z : Int, r = zI z ∧ w1 = cW ce h pl ar G L B J ∧ (z = 0 ∨ z = 1))) := by
  refine Ct.ofB (by decide) (Nat.le_of_ble_eq_true rfl) ?_
  intro p e s m args below meth c A Q hX hnm hR
  refine Z.pick (lv' := [(0, .ref (pl k)), (1, .ref (pl kt))]) [0, 1] rfl ?_
  refine Z.iconst hX dX3_isSame_0 ?_
  refine Z.istore_n (lv' := [(2, .int (zI 0)), (0, .ref (pl k)), (1, .ref (pl kt))]) hX dX3_isSame_1 rfl (by decide) rfl ?_
  have key_2 : ∀ (N : Nat), ∀ (i : Int), (28 - i).toNat < N → (hi : 0 ≤ i ∧ i ≤ 28) → Z p l e { frames := 0, cells := 0, slots := 0, locals := 0 } s m args below meth c D A 3 0 0 Q 2 [(2, .int (zI i)), (1, .ref (pl kt)), (0, .ref (pl k))] [] (cW ce h pl ar G L B J) := by
    intro N
    induction N with
    | zero => intro i hm; exact absurd hm (Nat.not_lt_zero _)
    | succ N ih_2 =>
      intro i hm hi
      refine Z.iload_n hX dX3_isSame_2 rfl rfl ?_
      refine Z.bipush hX dX3_isSame_3 (by decide) ?_
      refine Z.icmp_ge hX 32 dX3_isSame_5 (by decide) ⟨by omega, by omega⟩ ⟨by omega, by omega⟩ ?_ ?_
      · intro c1
        refine Z.iconst hX dX3_isSame_32 ?_
        exact hR _ _ _ _ dX3_isSame_33 rfl ⟨1, rfl, rfl, (by omega)⟩
      · intro c1
        refine Z.aload_n hX dX3_isSame_8 rfl rfl ?_
        refine Z.getf hX 3 (24 + k) 0 dX3_isSame_9 (cW_pl (by omega)) rfl inX3 (by decide) fl_X3_9 rfl rfl ?_
        refine Z.iload_n hX dX3_isSame_12 rfl rfl ?_
        refine Z.laload hX (66 + k) 1 dX3_isSame_13 (cW_ar (by omega)) rfl (by omega) (by omega) (by decide) ?_
        refine Z.aload_n hX dX3_isSame_14 rfl rfl ?_
        refine Z.getf hX 3 (24 + kt) 0 dX3_isSame_15 (cW_pl (by omega)) rfl inX3 (by decide) fl_X3_9 rfl rfl ?_
        refine Z.iload_n hX dX3_isSame_18 rfl rfl ?_
        refine Z.laload hX (66 + kt) 1 dX3_isSame_19 (cW_ar (by omega)) rfl (by omega) (by omega) (by decide) ?_
        refine Z.lcmp_eq hX 26 dX3_isSame_20 dX3_isSame_21 (by decide) ?_ ?_
        · intro c2
          refine Z.iinc (lv' := [(2, .int (zI (i + 1))), (1, .ref (pl kt)), (0, .ref (pl k))]) hX dX3_isSame_26 rfl (by decide) rfl ?_
          refine Z.goto hX 2 dX3_isSame_29 (by decide) ?_
          refine Z.pick [0, 1, 2] rfl ?_
          exact ih_2 _ (by omega) (by omega)
        · intro c2
          refine Z.iconst hX dX3_isSame_24 ?_
          exact hR _ _ _ _ dX3_isSame_25 rfl ⟨0, rfl, rfl, (by omega)⟩
  refine Z.pick [0, 2, 1] rfl ?_
  exact key_2 _ _ (Nat.lt_succ_self _) (by omega)

theorem dX3_scaledValue_0 : decode cX3_scaledValue 0 = .ok (.lconst 0, 1) := by decide +kernel
theorem dX3_scaledValue_1 : decode cX3_scaledValue 1 = .ok (.lstore 7, 2) := by decide +kernel
theorem dX3_scaledValue_3 : decode cX3_scaledValue 3 = .ok (.iconst 0, 1) := by decide +kernel
theorem dX3_scaledValue_4 : decode cX3_scaledValue 4 = .ok (.istore 9, 2) := by decide +kernel
theorem dX3_scaledValue_6 : decode cX3_scaledValue 6 = .ok (.iload 9, 2) := by decide +kernel
theorem dX3_scaledValue_8 : decode cX3_scaledValue 8 = .ok (.aload_n 0, 1) := by decide +kernel
theorem dX3_scaledValue_9 : decode cX3_scaledValue 9 = .ok (.getfield 15, 3) := by decide +kernel
theorem dX3_scaledValue_12 : decode cX3_scaledValue 12 = .ok (.if_icmp .gt 87, 3) := by decide +kernel
theorem dX3_scaledValue_15 : decode cX3_scaledValue 15 = .ok (.lload 5, 2) := by decide +kernel
theorem dX3_scaledValue_17 : decode cX3_scaledValue 17 = .ok (.aload_n 0, 1) := by decide +kernel
theorem dX3_scaledValue_18 : decode cX3_scaledValue 18 = .ok (.getfield 15, 3) := by decide +kernel
theorem dX3_scaledValue_21 : decode cX3_scaledValue 21 = .ok (.iload 9, 2) := by decide +kernel
theorem dX3_scaledValue_23 : decode cX3_scaledValue 23 = .ok (.isub, 1) := by decide +kernel
theorem dX3_scaledValue_24 : decode cX3_scaledValue 24 = .ok (.invokestatic 55, 3) := by decide +kernel
theorem dX3_scaledValue_27 : decode cX3_scaledValue 27 = .ok (.lstore 10, 2) := by decide +kernel
theorem dX3_scaledValue_29 : decode cX3_scaledValue 29 = .ok (.iconst 0, 1) := by decide +kernel
theorem dX3_scaledValue_30 : decode cX3_scaledValue 30 = .ok (.istore 12, 2) := by decide +kernel
theorem dX3_scaledValue_32 : decode cX3_scaledValue 32 = .ok (.iload 12, 2) := by decide +kernel
theorem dX3_scaledValue_34 : decode cX3_scaledValue 34 = .ok (.iload 9, 2) := by decide +kernel
theorem dX3_scaledValue_36 : decode cX3_scaledValue 36 = .ok (.if_icmp .gt 57, 3) := by decide +kernel
theorem dX3_scaledValue_39 : decode cX3_scaledValue 39 = .ok (.aload_n 0, 1) := by decide +kernel
theorem dX3_scaledValue_40 : decode cX3_scaledValue 40 = .ok (.getfield 9, 3) := by decide +kernel
theorem dX3_scaledValue_43 : decode cX3_scaledValue 43 = .ok (.iload 9, 2) := by decide +kernel
theorem dX3_scaledValue_45 : decode cX3_scaledValue 45 = .ok (.iload 12, 2) := by decide +kernel
theorem dX3_scaledValue_47 : decode cX3_scaledValue 47 = .ok (.invokestatic 28, 3) := by decide +kernel
theorem dX3_scaledValue_50 : decode cX3_scaledValue 50 = .ok (.laload, 1) := by decide +kernel
theorem dX3_scaledValue_51 : decode cX3_scaledValue 51 = .ok (.lstore 13, 2) := by decide +kernel
theorem dX3_scaledValue_53 : decode cX3_scaledValue 53 = .ok (.lload 13, 2) := by decide +kernel
theorem dX3_scaledValue_55 : decode cX3_scaledValue 55 = .ok (.lconst 0, 1) := by decide +kernel
theorem dX3_scaledValue_56 : decode cX3_scaledValue 56 = .ok (.lcmp, 1) := by decide +kernel
theorem dX3_scaledValue_57 : decode cX3_scaledValue 57 = .ok (.ifCond .eq 30, 3) := by decide +kernel
theorem dX3_scaledValue_60 : decode cX3_scaledValue 60 = .ok (.lload 7, 2) := by decide +kernel
theorem dX3_scaledValue_62 : decode cX3_scaledValue 62 = .ok (.lload 13, 2) := by decide +kernel
theorem dX3_scaledValue_64 : decode cX3_scaledValue 64 = .ok (.lload_n 1, 1) := by decide +kernel
theorem dX3_scaledValue_65 : decode cX3_scaledValue 65 = .ok (.iload 9, 2) := by decide +kernel
theorem dX3_scaledValue_67 : decode cX3_scaledValue 67 = .ok (.iload 12, 2) := by decide +kernel
theorem dX3_scaledValue_69 : decode cX3_scaledValue 69 = .ok (.isub, 1) := by decide +kernel
theorem dX3_scaledValue_70 : decode cX3_scaledValue 70 = .ok (.invokestatic 55, 3) := by decide +kernel
theorem dX3_scaledValue_73 : decode cX3_scaledValue 73 = .ok (.lmul, 1) := by decide +kernel
theorem dX3_scaledValue_74 : decode cX3_scaledValue 74 = .ok (.lload_n 3, 1) := by decide +kernel
theorem dX3_scaledValue_75 : decode cX3_scaledValue 75 = .ok (.iload 12, 2) := by decide +kernel
theorem dX3_scaledValue_77 : decode cX3_scaledValue 77 = .ok (.invokestatic 55, 3) := by decide +kernel
theorem dX3_scaledValue_80 : decode cX3_scaledValue 80 = .ok (.lmul, 1) := by decide +kernel
theorem dX3_scaledValue_81 : decode cX3_scaledValue 81 = .ok (.lload 10, 2) := by decide +kernel
theorem dX3_scaledValue_83 : decode cX3_scaledValue 83 = .ok (.lmul, 1) := by decide +kernel
theorem dX3_scaledValue_84 : decode cX3_scaledValue 84 = .ok (.ladd, 1) := by decide +kernel
theorem dX3_scaledValue_85 : decode cX3_scaledValue 85 = .ok (.lstore 7, 2) := by decide +kernel
theorem dX3_scaledValue_87 : decode cX3_scaledValue 87 = .ok (.iinc 12 1, 3) := by decide +kernel
theorem dX3_scaledValue_90 : decode cX3_scaledValue 90 = .ok (.goto (-58), 3) := by decide +kernel
theorem dX3_scaledValue_93 : decode cX3_scaledValue 93 = .ok (.iinc 9 1, 3) := by decide +kernel
theorem dX3_scaledValue_96 : decode cX3_scaledValue 96 = .ok (.goto (-90), 3) := by decide +kernel
theorem dX3_scaledValue_99 : decode cX3_scaledValue 99 = .ok (.lload 7, 2) := by decide +kernel
theorem dX3_scaledValue_101 : decode cX3_scaledValue 101 = .ok (.lreturn, 1) := by decide +kernel
set_option maxHeartbeats 4000000 in
set_option maxRecDepth 100000 in
theorem ct_X3_scaledValue (l : Launch) (D : va_G) (ce : Nat → ClassId) (h pl ar : Nat → Nat) (G : Nat → Int) (L : Nat → Nat → Int64) (B : Nat → Int) (J : Nat → Nat → Int64) (k : Nat) (x1 x2 x3 : Int64) (hk : k < 42) (hB : BOK B) : Ct l yX3_scaledValue cX3_scaledValue 15 (some .long) { frames := 1, cells := 0, slots := 0, locals := 25 } 0 0 D (TY ce) [.ref (pl k), .long x1, .long x2, .long x3] (cW ce h pl ar G L B J) (QL D (TY ce) (fun r w1 => ∃ r0 : Int64, r = r0 ∧ w1 = cW ce h pl ar G L B J)) := by
  refine Ct.ofL (by decide) (Nat.le_of_ble_eq_true rfl) ?_
  intro p e s m args below meth c A Q hX hnm hR
  refine Z.pick (lv' := [(0, .ref (pl k)), (1, .long x1), (3, .long x2), (5, .long x3)]) [0, 1, 2, 3] rfl ?_
  have hbk := hB k hk
  refine Z.lconst (v := 0) hX dX3_scaledValue_0 rfl ?_
  refine Z.lstore (lv' := [(7, .long 0), (0, .ref (pl k)), (1, .long x1), (3, .long x2), (5, .long x3)]) hX dX3_scaledValue_1 (by decide) rfl ?_
  refine Z.iconst hX dX3_scaledValue_3 ?_
  refine Z.istore (lv' := [(9, .int (zI 0)), (7, .long 0), (0, .ref (pl k)), (1, .long x1), (3, .long x2), (5, .long x3)]) hX dX3_scaledValue_4 (by decide) rfl ?_
  have key_6 : ∀ (N : Nat), ∀ (d : Int) (x : Int64), (B k + 1 - d).toNat < N → (hd : 0 ≤ d ∧ d ≤ B k + 1) → Z p l e { frames := 1, cells := 0, slots := 0, locals := 25 } s m args below meth c D A 15 0 0 Q 6 [(9, .int (zI d)), (7, .long x), (1, .long x1), (3, .long x2), (5, .long x3), (0, .ref (pl k))] [] (cW ce h pl ar G L B J) := by
    intro N
    induction N with
    | zero => intro d x hm; exact absurd hm (Nat.not_lt_zero _)
    | succ N ih_6 =>
      intro d x hm hd
      refine Z.iload hX dX3_scaledValue_6 rfl ?_
      refine Z.aload_n hX dX3_scaledValue_8 rfl rfl ?_
      refine Z.getf hX 3 (24 + k) 1 dX3_scaledValue_9 (cW_pl (by omega)) rfl inX3 (by decide) fl_X3_15 rfl rfl ?_
      refine Z.icmp_gt hX 99 dX3_scaledValue_12 (by decide) ⟨by omega, by omega⟩ ⟨by omega, by omega⟩ ?_ ?_
      · intro c1
        refine Z.lload hX dX3_scaledValue_99 rfl ?_
        exact hR _ _ _ _ dX3_scaledValue_101 ⟨x, rfl, rfl⟩
      · intro c1
        refine Z.lload hX dX3_scaledValue_15 rfl ?_
        refine Z.aload_n hX dX3_scaledValue_17 rfl rfl ?_
        refine Z.getf hX 3 (24 + k) 1 dX3_scaledValue_18 (cW_pl (by omega)) rfl inX3 (by decide) fl_X3_15 rfl rfl ?_
        refine Z.iload hX dX3_scaledValue_21 rfl ?_
        refine Z.isub hX dX3_scaledValue_23 ?_
        refine Z.callSNl (As := [.long x3, .int (zI ((B k) - d))]) (rest := []) hX (ct_X6_powerOf l D ce x3 ((B k) - d) (by omega)) mc_X6_powerOf ns_X3_55 st_X6_powerOf ini_X6 nd_X6_powerOf ⟨Nat.le_of_ble_eq_true rfl, Nat.le_of_ble_eq_true rfl⟩ ⟨rfl, rfl⟩ ⟨Nat.le_refl _, Nat.le_refl _⟩ rfl (Nat.le_of_ble_eq_true rfl) dX3_scaledValue_24 ?_
        rintro sc w1 ⟨r03, hr_, hw_, hq4⟩
        subst hr_
        refine ⟨hw_, ?_⟩
        refine Z.lstore (lv' := [(10, .long sc), (9, .int (zI d)), (7, .long x), (1, .long x1), (3, .long x2), (5, .long x3), (0, .ref (pl k))]) hX dX3_scaledValue_27 (by decide) rfl ?_
        refine Z.iconst hX dX3_scaledValue_29 ?_
        refine Z.istore (lv' := [(12, .int (zI 0)), (10, .long sc), (9, .int (zI d)), (7, .long x), (1, .long x1), (3, .long x2), (5, .long x3), (0, .ref (pl k))]) hX dX3_scaledValue_30 (by decide) rfl ?_
        have key_32 : ∀ (N : Nat), ∀ (j : Int) (x : Int64), (d + 1 - j).toNat < N → (hj : 0 ≤ j ∧ j ≤ d + 1) → Z p l e { frames := 1, cells := 0, slots := 0, locals := 25 } s m args below meth c D A 15 0 0 Q 32 [(12, .int (zI j)), (10, .long sc), (9, .int (zI d)), (7, .long x), (1, .long x1), (3, .long x2), (5, .long x3), (0, .ref (pl k))] [] (cW ce h pl ar G L B J) := by
          intro N
          induction N with
          | zero => intro j x hm; exact absurd hm (Nat.not_lt_zero _)
          | succ N ih_32 =>
            intro j x hm hj
            refine Z.iload hX dX3_scaledValue_32 rfl ?_
            refine Z.iload hX dX3_scaledValue_34 rfl ?_
            refine Z.icmp_gt hX 93 dX3_scaledValue_36 (by decide) ⟨by omega, by omega⟩ ⟨by omega, by omega⟩ ?_ ?_
            · intro c5
              refine Z.iinc (lv' := [(9, .int (zI (d + 1))), (12, .int (zI j)), (10, .long sc), (7, .long x), (1, .long x1), (3, .long x2), (5, .long x3), (0, .ref (pl k))]) hX dX3_scaledValue_93 rfl (by decide) rfl ?_
              refine Z.goto hX 6 dX3_scaledValue_96 (by decide) ?_
              refine Z.pick [0, 3, 4, 5, 6, 7] rfl ?_
              exact ih_6 _ _ (by omega) (by omega)
            · intro c5
              refine Z.aload_n hX dX3_scaledValue_39 rfl rfl ?_
              refine Z.getf hX 3 (24 + k) 0 dX3_scaledValue_40 (cW_pl (by omega)) rfl inX3 (by decide) fl_X3_9 rfl rfl ?_
              refine Z.iload hX dX3_scaledValue_43 rfl ?_
              refine Z.iload hX dX3_scaledValue_45 rfl ?_
              refine Z.callSNi (As := [.int (zI d), .int (zI j)]) (rest := [.ref (ar k)]) hX (ct_X6_slotOf l D ce d j (by omega) (by omega)) mc_X6_slotOf ns_X3_28 st_X6_slotOf ini_X6 nd_X6_slotOf ⟨Nat.le_of_ble_eq_true rfl, Nat.le_of_ble_eq_true rfl⟩ ⟨rfl, rfl⟩ ⟨Nat.le_refl _, Nat.le_refl _⟩ rfl (Nat.le_of_ble_eq_true rfl) dX3_scaledValue_47 ?_
              rintro r_6 w1 ⟨z7, hr_, hw_, hq8, hq9⟩
              subst hr_
              refine ⟨hw_, ?_⟩
              refine Z.laload hX (66 + k) 1 dX3_scaledValue_50 (cW_ar (by omega)) rfl (by omega) (by omega) (by decide) ?_
              refine Z.lstore (lv' := [(13, .long (J k (z7 : Int).toNat)), (12, .int (zI j)), (10, .long sc), (9, .int (zI d)), (7, .long x), (1, .long x1), (3, .long x2), (5, .long x3), (0, .ref (pl k))]) hX dX3_scaledValue_51 (by decide) rfl ?_
              refine Z.lload hX dX3_scaledValue_53 rfl ?_
              refine Z.lconst (v := 0) hX dX3_scaledValue_55 rfl ?_
              refine Z.lcmp_eq hX 87 dX3_scaledValue_56 dX3_scaledValue_57 (by decide) ?_ ?_
              · intro c10
                refine Z.iinc (lv' := [(12, .int (zI (j + 1))), (13, .long (J k (z7 : Int).toNat)), (10, .long sc), (9, .int (zI d)), (7, .long x), (1, .long x1), (3, .long x2), (5, .long x3), (0, .ref (pl k))]) hX dX3_scaledValue_87 rfl (by decide) rfl ?_
                refine Z.goto hX 32 dX3_scaledValue_90 (by decide) ?_
                refine Z.pick [0, 2, 3, 4, 5, 6, 7, 8] rfl ?_
                exact ih_32 _ _ (by omega) (by omega)
              · intro c10
                refine Z.lload hX dX3_scaledValue_60 rfl ?_
                refine Z.lload hX dX3_scaledValue_62 rfl ?_
                refine Z.lload_n hX dX3_scaledValue_64 rfl rfl ?_
                refine Z.iload hX dX3_scaledValue_65 rfl ?_
                refine Z.iload hX dX3_scaledValue_67 rfl ?_
                refine Z.isub hX dX3_scaledValue_69 ?_
                refine Z.callSNl (As := [.long x1, .int (zI (d - j))]) (rest := [.long (J k (z7 : Int).toNat), .long x]) hX (ct_X6_powerOf l D ce x1 (d - j) (by omega)) mc_X6_powerOf ns_X3_55 st_X6_powerOf ini_X6 nd_X6_powerOf ⟨Nat.le_of_ble_eq_true rfl, Nat.le_of_ble_eq_true rfl⟩ ⟨rfl, rfl⟩ ⟨Nat.le_refl _, Nat.le_refl _⟩ rfl (Nat.le_of_ble_eq_true rfl) dX3_scaledValue_70 ?_
                rintro r_11 w1 ⟨r012, hr_, hw_, hq13⟩
                subst hr_
                refine ⟨hw_, ?_⟩
                refine Z.lmul hX dX3_scaledValue_73 ?_
                refine Z.lload_n hX dX3_scaledValue_74 rfl rfl ?_
                refine Z.iload hX dX3_scaledValue_75 rfl ?_
                refine Z.callSNl (As := [.long x2, .int (zI j)]) (rest := [.long ((J k (z7 : Int).toNat) * r_11), .long x]) hX (ct_X6_powerOf l D ce x2 j (by omega)) mc_X6_powerOf ns_X3_55 st_X6_powerOf ini_X6 nd_X6_powerOf ⟨Nat.le_of_ble_eq_true rfl, Nat.le_of_ble_eq_true rfl⟩ ⟨rfl, rfl⟩ ⟨Nat.le_refl _, Nat.le_refl _⟩ rfl (Nat.le_of_ble_eq_true rfl) dX3_scaledValue_77 ?_
                rintro r_14 w1 ⟨r015, hr_, hw_, hq16⟩
                subst hr_
                refine ⟨hw_, ?_⟩
                refine Z.lmul hX dX3_scaledValue_80 ?_
                refine Z.lload hX dX3_scaledValue_81 rfl ?_
                refine Z.lmul hX dX3_scaledValue_83 ?_
                refine Z.ladd hX dX3_scaledValue_84 ?_
                refine Z.lstore (lv' := [(7, .long (x + ((((J k (z7 : Int).toNat) * r_11) * r_14) * sc))), (13, .long (J k (z7 : Int).toNat)), (12, .int (zI j)), (10, .long sc), (9, .int (zI d)), (1, .long x1), (3, .long x2), (5, .long x3), (0, .ref (pl k))]) hX dX3_scaledValue_85 (by decide) rfl ?_
                refine Z.iinc (lv' := [(12, .int (zI (j + 1))), (7, .long (x + ((((J k (z7 : Int).toNat) * r_11) * r_14) * sc))), (13, .long (J k (z7 : Int).toNat)), (10, .long sc), (9, .int (zI d)), (1, .long x1), (3, .long x2), (5, .long x3), (0, .ref (pl k))]) hX dX3_scaledValue_87 rfl (by decide) rfl ?_
                refine Z.goto hX 32 dX3_scaledValue_90 (by decide) ?_
                refine Z.pick [0, 3, 4, 1, 5, 6, 7, 8] rfl ?_
                exact ih_32 _ _ (by omega) (by omega)
        refine Z.pick [0, 1, 2, 3, 4, 5, 6, 7] rfl ?_
        exact key_32 _ _ _ (Nat.lt_succ_self _) (by omega)
  refine Z.pick [0, 1, 3, 4, 5, 2] rfl ?_
  exact key_6 _ _ _ (Nat.lt_succ_self _) (by omega)

theorem dX3_addProduct_0 : decode cX3_addProduct 0 = .ok (.aload_n 1, 1) := by decide +kernel
theorem dX3_addProduct_1 : decode cX3_addProduct 1 = .ok (.getfield 15, 3) := by decide +kernel
theorem dX3_addProduct_4 : decode cX3_addProduct 4 = .ok (.aload_n 2, 1) := by decide +kernel
theorem dX3_addProduct_5 : decode cX3_addProduct 5 = .ok (.getfield 15, 3) := by decide +kernel
theorem dX3_addProduct_8 : decode cX3_addProduct 8 = .ok (.iadd, 1) := by decide +kernel
theorem dX3_addProduct_9 : decode cX3_addProduct 9 = .ok (.istore 5, 2) := by decide +kernel
theorem dX3_addProduct_11 : decode cX3_addProduct 11 = .ok (.iload 5, 2) := by decide +kernel
theorem dX3_addProduct_13 : decode cX3_addProduct 13 = .ok (.bipush 6, 2) := by decide +kernel
theorem dX3_addProduct_15 : decode cX3_addProduct 15 = .ok (.if_icmp .le 4, 3) := by decide +kernel
theorem dX3_addProduct_18 : decode cX3_addProduct 18 = .ok (.return_, 1) := by decide +kernel
theorem dX3_addProduct_19 : decode cX3_addProduct 19 = .ok (.aload_n 0, 1) := by decide +kernel
theorem dX3_addProduct_20 : decode cX3_addProduct 20 = .ok (.aload_n 0, 1) := by decide +kernel
theorem dX3_addProduct_21 : decode cX3_addProduct 21 = .ok (.getfield 15, 3) := by decide +kernel
theorem dX3_addProduct_24 : decode cX3_addProduct 24 = .ok (.iload 5, 2) := by decide +kernel
theorem dX3_addProduct_26 : decode cX3_addProduct 26 = .ok (.if_icmp .ge 8, 3) := by decide +kernel
theorem dX3_addProduct_29 : decode cX3_addProduct 29 = .ok (.iload 5, 2) := by decide +kernel
theorem dX3_addProduct_31 : decode cX3_addProduct 31 = .ok (.goto 7, 3) := by decide +kernel
theorem dX3_addProduct_34 : decode cX3_addProduct 34 = .ok (.aload_n 0, 1) := by decide +kernel
theorem dX3_addProduct_35 : decode cX3_addProduct 35 = .ok (.getfield 15, 3) := by decide +kernel
theorem dX3_addProduct_38 : decode cX3_addProduct 38 = .ok (.putfield 15, 3) := by decide +kernel
theorem dX3_addProduct_41 : decode cX3_addProduct 41 = .ok (.iconst 0, 1) := by decide +kernel
theorem dX3_addProduct_42 : decode cX3_addProduct 42 = .ok (.istore 6, 2) := by decide +kernel
theorem dX3_addProduct_44 : decode cX3_addProduct 44 = .ok (.iload 6, 2) := by decide +kernel
theorem dX3_addProduct_46 : decode cX3_addProduct 46 = .ok (.aload_n 1, 1) := by decide +kernel
theorem dX3_addProduct_47 : decode cX3_addProduct 47 = .ok (.getfield 15, 3) := by decide +kernel
theorem dX3_addProduct_50 : decode cX3_addProduct 50 = .ok (.if_icmp .gt 136, 3) := by decide +kernel
theorem dX3_addProduct_53 : decode cX3_addProduct 53 = .ok (.iconst 0, 1) := by decide +kernel
theorem dX3_addProduct_54 : decode cX3_addProduct 54 = .ok (.istore 7, 2) := by decide +kernel
theorem dX3_addProduct_56 : decode cX3_addProduct 56 = .ok (.iload 7, 2) := by decide +kernel
theorem dX3_addProduct_58 : decode cX3_addProduct 58 = .ok (.iload 6, 2) := by decide +kernel
theorem dX3_addProduct_60 : decode cX3_addProduct 60 = .ok (.if_icmp .gt 120, 3) := by decide +kernel
theorem dX3_addProduct_63 : decode cX3_addProduct 63 = .ok (.lload_n 3, 1) := by decide +kernel
theorem dX3_addProduct_64 : decode cX3_addProduct 64 = .ok (.aload_n 1, 1) := by decide +kernel
theorem dX3_addProduct_65 : decode cX3_addProduct 65 = .ok (.getfield 9, 3) := by decide +kernel
theorem dX3_addProduct_68 : decode cX3_addProduct 68 = .ok (.iload 6, 2) := by decide +kernel
theorem dX3_addProduct_70 : decode cX3_addProduct 70 = .ok (.iload 7, 2) := by decide +kernel
theorem dX3_addProduct_72 : decode cX3_addProduct 72 = .ok (.invokestatic 28, 3) := by decide +kernel
theorem dX3_addProduct_75 : decode cX3_addProduct 75 = .ok (.laload, 1) := by decide +kernel
theorem dX3_addProduct_76 : decode cX3_addProduct 76 = .ok (.lmul, 1) := by decide +kernel
theorem dX3_addProduct_77 : decode cX3_addProduct 77 = .ok (.lstore 8, 2) := by decide +kernel
theorem dX3_addProduct_79 : decode cX3_addProduct 79 = .ok (.lload 8, 2) := by decide +kernel
theorem dX3_addProduct_81 : decode cX3_addProduct 81 = .ok (.lconst 0, 1) := by decide +kernel
theorem dX3_addProduct_82 : decode cX3_addProduct 82 = .ok (.lcmp, 1) := by decide +kernel
theorem dX3_addProduct_83 : decode cX3_addProduct 83 = .ok (.ifCond .ne 7, 3) := by decide +kernel
theorem dX3_addProduct_86 : decode cX3_addProduct 86 = .ok (.iconst (-1), 1) := by decide +kernel
theorem dX3_addProduct_87 : decode cX3_addProduct 87 = .ok (.goto 7, 3) := by decide +kernel
theorem dX3_addProduct_90 : decode cX3_addProduct 90 = .ok (.aload_n 2, 1) := by decide +kernel
theorem dX3_addProduct_91 : decode cX3_addProduct 91 = .ok (.getfield 15, 3) := by decide +kernel
theorem dX3_addProduct_94 : decode cX3_addProduct 94 = .ok (.istore 10, 2) := by decide +kernel
theorem dX3_addProduct_96 : decode cX3_addProduct 96 = .ok (.iconst 0, 1) := by decide +kernel
theorem dX3_addProduct_97 : decode cX3_addProduct 97 = .ok (.istore 11, 2) := by decide +kernel
theorem dX3_addProduct_99 : decode cX3_addProduct 99 = .ok (.iload 11, 2) := by decide +kernel
theorem dX3_addProduct_101 : decode cX3_addProduct 101 = .ok (.iload 10, 2) := by decide +kernel
theorem dX3_addProduct_103 : decode cX3_addProduct 103 = .ok (.if_icmp .gt 71, 3) := by decide +kernel
theorem dX3_addProduct_106 : decode cX3_addProduct 106 = .ok (.iload 11, 2) := by decide +kernel
theorem dX3_addProduct_108 : decode cX3_addProduct 108 = .ok (.iconst 0, 1) := by decide +kernel
theorem dX3_addProduct_109 : decode cX3_addProduct 109 = .ok (.invokestatic 28, 3) := by decide +kernel
theorem dX3_addProduct_112 : decode cX3_addProduct 112 = .ok (.istore 12, 2) := by decide +kernel
theorem dX3_addProduct_114 : decode cX3_addProduct 114 = .ok (.iload 6, 2) := by decide +kernel
theorem dX3_addProduct_116 : decode cX3_addProduct 116 = .ok (.iload 11, 2) := by decide +kernel
theorem dX3_addProduct_118 : decode cX3_addProduct 118 = .ok (.iadd, 1) := by decide +kernel
theorem dX3_addProduct_119 : decode cX3_addProduct 119 = .ok (.iload 7, 2) := by decide +kernel
theorem dX3_addProduct_121 : decode cX3_addProduct 121 = .ok (.invokestatic 28, 3) := by decide +kernel
theorem dX3_addProduct_124 : decode cX3_addProduct 124 = .ok (.istore 13, 2) := by decide +kernel
theorem dX3_addProduct_126 : decode cX3_addProduct 126 = .ok (.iconst 0, 1) := by decide +kernel
theorem dX3_addProduct_127 : decode cX3_addProduct 127 = .ok (.istore 14, 2) := by decide +kernel
theorem dX3_addProduct_129 : decode cX3_addProduct 129 = .ok (.iload 14, 2) := by decide +kernel
theorem dX3_addProduct_131 : decode cX3_addProduct 131 = .ok (.iload 11, 2) := by decide +kernel
theorem dX3_addProduct_133 : decode cX3_addProduct 133 = .ok (.if_icmp .gt 35, 3) := by decide +kernel
theorem dX3_addProduct_136 : decode cX3_addProduct 136 = .ok (.aload_n 0, 1) := by decide +kernel
theorem dX3_addProduct_137 : decode cX3_addProduct 137 = .ok (.getfield 9, 3) := by decide +kernel
theorem dX3_addProduct_140 : decode cX3_addProduct 140 = .ok (.iload 13, 2) := by decide +kernel
theorem dX3_addProduct_142 : decode cX3_addProduct 142 = .ok (.iload 14, 2) := by decide +kernel
theorem dX3_addProduct_144 : decode cX3_addProduct 144 = .ok (.iadd, 1) := by decide +kernel
theorem dX3_addProduct_145 : decode cX3_addProduct 145 = .ok (.dup2, 1) := by decide +kernel
theorem dX3_addProduct_146 : decode cX3_addProduct 146 = .ok (.laload, 1) := by decide +kernel
theorem dX3_addProduct_147 : decode cX3_addProduct 147 = .ok (.lload 8, 2) := by decide +kernel
theorem dX3_addProduct_149 : decode cX3_addProduct 149 = .ok (.aload_n 2, 1) := by decide +kernel
theorem dX3_addProduct_150 : decode cX3_addProduct 150 = .ok (.getfield 9, 3) := by decide +kernel
theorem dX3_addProduct_153 : decode cX3_addProduct 153 = .ok (.iload 12, 2) := by decide +kernel
theorem dX3_addProduct_155 : decode cX3_addProduct 155 = .ok (.iload 14, 2) := by decide +kernel
theorem dX3_addProduct_157 : decode cX3_addProduct 157 = .ok (.iadd, 1) := by decide +kernel
theorem dX3_addProduct_158 : decode cX3_addProduct 158 = .ok (.laload, 1) := by decide +kernel
theorem dX3_addProduct_159 : decode cX3_addProduct 159 = .ok (.lmul, 1) := by decide +kernel
theorem dX3_addProduct_160 : decode cX3_addProduct 160 = .ok (.ladd, 1) := by decide +kernel
theorem dX3_addProduct_161 : decode cX3_addProduct 161 = .ok (.lastore, 1) := by decide +kernel
theorem dX3_addProduct_162 : decode cX3_addProduct 162 = .ok (.iinc 14 1, 3) := by decide +kernel
theorem dX3_addProduct_165 : decode cX3_addProduct 165 = .ok (.goto (-36), 3) := by decide +kernel
theorem dX3_addProduct_168 : decode cX3_addProduct 168 = .ok (.iinc 11 1, 3) := by decide +kernel
theorem dX3_addProduct_171 : decode cX3_addProduct 171 = .ok (.goto (-72), 3) := by decide +kernel
theorem dX3_addProduct_174 : decode cX3_addProduct 174 = .ok (.iinc 7 1, 3) := by decide +kernel
theorem dX3_addProduct_177 : decode cX3_addProduct 177 = .ok (.goto (-121), 3) := by decide +kernel
theorem dX3_addProduct_180 : decode cX3_addProduct 180 = .ok (.iinc 6 1, 3) := by decide +kernel
theorem dX3_addProduct_183 : decode cX3_addProduct 183 = .ok (.goto (-139), 3) := by decide +kernel
theorem dX3_addProduct_186 : decode cX3_addProduct 186 = .ok (.return_, 1) := by decide +kernel
set_option maxHeartbeats 4000000 in
set_option maxRecDepth 100000 in
theorem ct_X3_addProduct (l : Launch) (D : va_G) (ce : Nat → ClassId) (h pl ar : Nat → Nat) (G : Nat → Int) (L : Nat → Nat → Int64) (B : Nat → Int) (J : Nat → Nat → Int64) (k : Nat) (ka kb : Nat) (fac : Int64) (hk : k < 42) (hB : BOK B) (hka : ka < 42 ∧ ka ≠ k) (hkb : kb < 42 ∧ kb ≠ k) : Ct l yX3_addProduct cX3_addProduct 15 none { frames := 1, cells := 0, slots := 0, locals := 21 } 0 0 D (TY ce) [.ref (pl k), .ref (pl ka), .ref (pl kb), .long fac] (cW ce h pl ar G L B J) (QV D (TY ce) (fun w1 => ∃ B2 : Nat → Int, ∃ J2 : Nat → Nat → Int64, w1 = cW ce h pl ar G L B2 J2 ∧ (∀ j, j ≠ k → B2 j = B j) ∧ (∀ j, j ≠ k → J2 j = J j) ∧ (BOK B2))) := by
  refine Ct.ofV (by decide) (Nat.le_of_ble_eq_true rfl) ?_
  intro p e s m args below meth c A Q hX hnm hR
  refine Z.pick (lv' := [(0, .ref (pl k)), (1, .ref (pl ka)), (2, .ref (pl kb)), (3, .long fac)]) [0, 1, 2, 3] rfl ?_
  have hbk := hB k hk
  have hba := hB ka hka.1
  have hbb := hB kb hkb.1
  refine Z.aload_n hX dX3_addProduct_0 rfl rfl ?_
  refine Z.getf hX 3 (24 + ka) 1 dX3_addProduct_1 (cW_pl (by omega)) rfl inX3 (by decide) fl_X3_15 rfl rfl ?_
  refine Z.aload_n hX dX3_addProduct_4 rfl rfl ?_
  refine Z.getf hX 3 (24 + kb) 1 dX3_addProduct_5 (cW_pl (by omega)) rfl inX3 (by decide) fl_X3_15 rfl rfl ?_
  refine Z.iadd hX dX3_addProduct_8 ?_
  refine Z.istore (lv' := [(5, .int (zI ((B ka) + (B kb)))), (0, .ref (pl k)), (1, .ref (pl ka)), (2, .ref (pl kb)), (3, .long fac)]) hX dX3_addProduct_9 (by decide) rfl ?_
  refine Z.iload hX dX3_addProduct_11 rfl ?_
  refine Z.bipush hX dX3_addProduct_13 (by decide) ?_
  refine Z.icmp_le hX 19 dX3_addProduct_15 (by decide) ⟨by omega, by omega⟩ ⟨by omega, by omega⟩ ?_ ?_
  · intro c1
    have key_38 : ∀ (v : Int), (hv : 0 ≤ v ∧ v ≤ 6) → Z p l e { frames := 1, cells := 0, slots := 0, locals := 21 } s m args below meth c D A 15 0 0 Q 38 [(5, .int (zI (B ka + B kb))), (3, .long fac), (2, .ref (pl kb)), (1, .ref (pl ka)), (0, .ref (pl k))] [.int (zI v), .ref (pl k)] (cW ce h pl ar G L B J) := by
      intro v hv
      refine Z.putf (ty := .int) hX 3 (24 + k) 1 tyX3 dX3_addProduct_38 (cW_pl (by omega)) rfl inX3 tyX3_ok nmX3 (by decide) fl_X3_15 rfl rfl (by decide +kernel) rfl rfl (Nat.le_of_ble_eq_true rfl) ?_
      obtain ⟨B2, eB2⟩ : ∃ F' : Nat → Int, F' = va_up B k (v) := ⟨_, rfl⟩
      refine Z.toW (w' := cW ce h pl ar G L B2 J) (by rw [eB2]; exact cW_setB (by omega)) ?_
      have gB2 : B2 k = v := by rw [eB2]; exact up_eq
      have fB2 : ∀ j_, j_ ≠ k → B2 j_ = B j_ := fun j_ hj_ => by rw [eB2]; exact up_ne hj_
      have eka : B2 ka = B ka := fB2 ka hka.2
      have ekb : B2 kb = B kb := fB2 kb hkb.2
      refine Z.iconst hX dX3_addProduct_41 ?_
      refine Z.istore (lv' := [(6, .int (zI 0)), (5, .int (zI (B ka + B kb))), (3, .long fac), (2, .ref (pl kb)), (1, .ref (pl ka)), (0, .ref (pl k))]) hX dX3_addProduct_42 (by decide) rfl ?_
      have key_44 : ∀ (N : Nat), ∀ (d : Int) (M : Nat → Nat → Int64), (B ka + 1 - d).toNat < N → (hd : 0 ≤ d ∧ d ≤ B ka + 1) → (hM : ∀ j, j ≠ k → M j = J j) → Z p l e { frames := 1, cells := 0, slots := 0, locals := 21 } s m args below meth c D A 15 0 0 Q 44 [(6, .int (zI d)), (5, .int (zI (B ka + B kb))), (3, .long fac), (2, .ref (pl kb)), (1, .ref (pl ka)), (0, .ref (pl k))] [] (cW ce h pl ar G L B2 M) := by
        intro N
        induction N with
        | zero => intro d M hm; exact absurd hm (Nat.not_lt_zero _)
        | succ N ih_44 =>
          intro d M hm hd hM
          refine Z.iload hX dX3_addProduct_44 rfl ?_
          refine Z.aload_n hX dX3_addProduct_46 rfl rfl ?_
          refine Z.getf hX 3 (24 + ka) 1 dX3_addProduct_47 (cW_pl (by omega)) rfl inX3 (by decide) fl_X3_15 rfl rfl ?_
          refine Z.icmp_gt hX 186 dX3_addProduct_50 (by decide) ⟨by omega, by omega⟩ ⟨by omega, by omega⟩ ?_ ?_
          · intro c3
            exact hR _ _ _ dX3_addProduct_186 ⟨B2, M, rfl, (fun j_ h_k => ((fB2 j_ h_k).trans rfl)), hM, (BOK_s (k := k) hB (by omega) (fun j_ h_k => ((fB2 j_ h_k).trans rfl)))⟩
          · intro c3
            refine Z.iconst hX dX3_addProduct_53 ?_
            refine Z.istore (lv' := [(7, .int (zI 0)), (6, .int (zI d)), (5, .int (zI (B ka + B kb))), (3, .long fac), (2, .ref (pl kb)), (1, .ref (pl ka)), (0, .ref (pl k))]) hX dX3_addProduct_54 (by decide) rfl ?_
            have key_56 : ∀ (N : Nat), ∀ (j : Int) (M : Nat → Nat → Int64), (d + 1 - j).toNat < N → (hj : 0 ≤ j ∧ j ≤ d + 1) → (hM : ∀ j, j ≠ k → M j = J j) → Z p l e { frames := 1, cells := 0, slots := 0, locals := 21 } s m args below meth c D A 15 0 0 Q 56 [(7, .int (zI j)), (6, .int (zI d)), (5, .int (zI (B ka + B kb))), (3, .long fac), (2, .ref (pl kb)), (1, .ref (pl ka)), (0, .ref (pl k))] [] (cW ce h pl ar G L B2 M) := by
              intro N
              induction N with
              | zero => intro j M hm; exact absurd hm (Nat.not_lt_zero _)
              | succ N ih_56 =>
                intro j M hm hj hM
                refine Z.iload hX dX3_addProduct_56 rfl ?_
                refine Z.iload hX dX3_addProduct_58 rfl ?_
                refine Z.icmp_gt hX 180 dX3_addProduct_60 (by decide) ⟨by omega, by omega⟩ ⟨by omega, by omega⟩ ?_ ?_
                · intro c4
                  refine Z.iinc (lv' := [(6, .int (zI (d + 1))), (7, .int (zI j)), (5, .int (zI (B ka + B kb))), (3, .long fac), (2, .ref (pl kb)), (1, .ref (pl ka)), (0, .ref (pl k))]) hX dX3_addProduct_180 rfl (by decide) rfl ?_
                  refine Z.goto hX 44 dX3_addProduct_183 (by decide) ?_
                  refine Z.pick [0, 2, 3, 4, 5, 6] rfl ?_
                  exact ih_44 _ _ (by omega) (by omega) hM
                · intro c4
                  refine Z.lload_n hX dX3_addProduct_63 rfl rfl ?_
                  refine Z.aload_n hX dX3_addProduct_64 rfl rfl ?_
                  refine Z.getf hX 3 (24 + ka) 0 dX3_addProduct_65 (cW_pl (by omega)) rfl inX3 (by decide) fl_X3_9 rfl rfl ?_
                  refine Z.iload hX dX3_addProduct_68 rfl ?_
                  refine Z.iload hX dX3_addProduct_70 rfl ?_
                  refine Z.callSNi (As := [.int (zI d), .int (zI j)]) (rest := [.ref (ar ka), .long fac]) hX (ct_X6_slotOf l D ce d j (by omega) (by omega)) mc_X6_slotOf ns_X3_28 st_X6_slotOf ini_X6 nd_X6_slotOf ⟨Nat.le_of_ble_eq_true rfl, Nat.le_of_ble_eq_true rfl⟩ ⟨rfl, rfl⟩ ⟨Nat.le_refl _, Nat.le_refl _⟩ rfl (Nat.le_of_ble_eq_true rfl) dX3_addProduct_72 ?_
                  rintro r_5 w1 ⟨s1, hr_, hw_, hq6, hq7⟩
                  subst hr_
                  refine ⟨hw_, ?_⟩
                  refine Z.laload hX (66 + ka) 1 dX3_addProduct_75 (cW_ar (by omega)) rfl (by omega) (by omega) (by decide) ?_
                  refine Z.lmul hX dX3_addProduct_76 ?_
                  refine Z.lstore (lv' := [(8, .long (fac * (M ka (s1 : Int).toNat))), (7, .int (zI j)), (6, .int (zI d)), (5, .int (zI (B ka + B kb))), (3, .long fac), (2, .ref (pl kb)), (1, .ref (pl ka)), (0, .ref (pl k))]) hX dX3_addProduct_77 (by decide) rfl ?_
                  obtain ⟨mu, emu⟩ : ∃ x : Int64, x = fac * (M ka (s1 : Int).toNat) := ⟨_, rfl⟩
                  rw [← emu]
                  have key_94 : ∀ (la : Int), (hla : -1 ≤ la ∧ la ≤ B kb) → Z p l e { frames := 1, cells := 0, slots := 0, locals := 21 } s m args below meth c D A 15 0 0 Q 94 [(8, .long mu), (7, .int (zI j)), (6, .int (zI d)), (5, .int (zI (B ka + B kb))), (3, .long fac), (2, .ref (pl kb)), (1, .ref (pl ka)), (0, .ref (pl k))] [.int (zI la)] (cW ce h pl ar G L B2 M) := by
                    intro la hla
                    refine Z.istore (lv' := [(10, .int (zI la)), (8, .long mu), (7, .int (zI j)), (6, .int (zI d)), (5, .int (zI (B ka + B kb))), (3, .long fac), (2, .ref (pl kb)), (1, .ref (pl ka)), (0, .ref (pl k))]) hX dX3_addProduct_94 (by decide) rfl ?_
                    refine Z.iconst hX dX3_addProduct_96 ?_
                    refine Z.istore (lv' := [(11, .int (zI 0)), (10, .int (zI la)), (8, .long mu), (7, .int (zI j)), (6, .int (zI d)), (5, .int (zI (B ka + B kb))), (3, .long fac), (2, .ref (pl kb)), (1, .ref (pl ka)), (0, .ref (pl k))]) hX dX3_addProduct_97 (by decide) rfl ?_
                    have key_99 : ∀ (N : Nat), ∀ (ev : Int) (M : Nat → Nat → Int64), (B kb + 1 - ev).toNat < N → (hev : 0 ≤ ev ∧ ev ≤ B kb + 1) → (hM : ∀ j, j ≠ k → M j = J j) → Z p l e { frames := 1, cells := 0, slots := 0, locals := 21 } s m args below meth c D A 15 0 0 Q 99 [(11, .int (zI ev)), (10, .int (zI la)), (8, .long mu), (7, .int (zI j)), (6, .int (zI d)), (5, .int (zI (B ka + B kb))), (3, .long fac), (2, .ref (pl kb)), (1, .ref (pl ka)), (0, .ref (pl k))] [] (cW ce h pl ar G L B2 M) := by
                      intro N
                      induction N with
                      | zero => intro ev M hm; exact absurd hm (Nat.not_lt_zero _)
                      | succ N ih_99 =>
                        intro ev M hm hev hM
                        refine Z.iload hX dX3_addProduct_99 rfl ?_
                        refine Z.iload hX dX3_addProduct_101 rfl ?_
                        refine Z.icmp_gt hX 174 dX3_addProduct_103 (by decide) ⟨by omega, by omega⟩ ⟨by omega, by omega⟩ ?_ ?_
                        · intro c8
                          refine Z.iinc (lv' := [(7, .int (zI (j + 1))), (11, .int (zI ev)), (10, .int (zI la)), (8, .long mu), (6, .int (zI d)), (5, .int (zI (B ka + B kb))), (3, .long fac), (2, .ref (pl kb)), (1, .ref (pl ka)), (0, .ref (pl k))]) hX dX3_addProduct_174 rfl (by decide) rfl ?_
                          refine Z.goto hX 56 dX3_addProduct_177 (by decide) ?_
                          refine Z.pick [0, 4, 5, 6, 7, 8, 9] rfl ?_
                          exact ih_56 _ _ (by omega) (by omega) hM
                        · intro c8
                          refine Z.iload hX dX3_addProduct_106 rfl ?_
                          refine Z.iconst hX dX3_addProduct_108 ?_
                          refine Z.callSNi (As := [.int (zI ev), .int (zI 0)]) (rest := []) hX (ct_X6_slotOf l D ce ev 0 (by omega) (by omega)) mc_X6_slotOf ns_X3_28 st_X6_slotOf ini_X6 nd_X6_slotOf ⟨Nat.le_of_ble_eq_true rfl, Nat.le_of_ble_eq_true rfl⟩ ⟨rfl, rfl⟩ ⟨Nat.le_refl _, Nat.le_refl _⟩ rfl (Nat.le_of_ble_eq_true rfl) dX3_addProduct_109 ?_
                          rintro r_9 w1 ⟨s2, hr_, hw_, es2, hs2⟩
                          subst hr_
                          refine ⟨hw_, ?_⟩
                          subst es2
                          refine Z.istore (lv' := [(12, .int (zI (sl ev + 0))), (11, .int (zI ev)), (10, .int (zI la)), (8, .long mu), (7, .int (zI j)), (6, .int (zI d)), (5, .int (zI (B ka + B kb))), (3, .long fac), (2, .ref (pl kb)), (1, .ref (pl ka)), (0, .ref (pl k))]) hX dX3_addProduct_112 (by decide) rfl ?_
                          refine Z.iload hX dX3_addProduct_114 rfl ?_
                          refine Z.iload hX dX3_addProduct_116 rfl ?_
                          refine Z.iadd hX dX3_addProduct_118 ?_
                          refine Z.iload hX dX3_addProduct_119 rfl ?_
                          refine Z.callSNi (As := [.int (zI (d + ev)), .int (zI j)]) (rest := []) hX (ct_X6_slotOf l D ce (d + ev) j (by omega) (by omega)) mc_X6_slotOf ns_X3_28 st_X6_slotOf ini_X6 nd_X6_slotOf ⟨Nat.le_of_ble_eq_true rfl, Nat.le_of_ble_eq_true rfl⟩ ⟨rfl, rfl⟩ ⟨Nat.le_refl _, Nat.le_refl _⟩ rfl (Nat.le_of_ble_eq_true rfl) dX3_addProduct_121 ?_
                          rintro r_10 w1 ⟨s3, hr_, hw_, es3, hs3⟩
                          subst hr_
                          refine ⟨hw_, ?_⟩
                          subst es3
                          refine Z.istore (lv' := [(13, .int (zI (sl (d + ev) + j))), (12, .int (zI (sl ev + 0))), (11, .int (zI ev)), (10, .int (zI la)), (8, .long mu), (7, .int (zI j)), (6, .int (zI d)), (5, .int (zI (B ka + B kb))), (3, .long fac), (2, .ref (pl kb)), (1, .ref (pl ka)), (0, .ref (pl k))]) hX dX3_addProduct_124 (by decide) rfl ?_
                          refine Z.iconst hX dX3_addProduct_126 ?_
                          refine Z.istore (lv' := [(14, .int (zI 0)), (13, .int (zI (sl (d + ev) + j))), (12, .int (zI (sl ev + 0))), (11, .int (zI ev)), (10, .int (zI la)), (8, .long mu), (7, .int (zI j)), (6, .int (zI d)), (5, .int (zI (B ka + B kb))), (3, .long fac), (2, .ref (pl kb)), (1, .ref (pl ka)), (0, .ref (pl k))]) hX dX3_addProduct_127 (by decide) rfl ?_
                          have key_129 : ∀ (N : Nat), ∀ (q : Int) (M : Nat → Nat → Int64), (ev + 1 - q).toNat < N → (hq : 0 ≤ q ∧ q ≤ ev + 1) → (hM : ∀ j, j ≠ k → M j = J j) → Z p l e { frames := 1, cells := 0, slots := 0, locals := 21 } s m args below meth c D A 15 0 0 Q 129 [(14, .int (zI q)), (13, .int (zI (sl (d + ev) + j))), (12, .int (zI (sl ev + 0))), (11, .int (zI ev)), (10, .int (zI la)), (8, .long mu), (7, .int (zI j)), (6, .int (zI d)), (5, .int (zI (B ka + B kb))), (3, .long fac), (2, .ref (pl kb)), (1, .ref (pl ka)), (0, .ref (pl k))] [] (cW ce h pl ar G L B2 M) := by
                            intro N
                            induction N with
                            | zero => intro q M hm; exact absurd hm (Nat.not_lt_zero _)
                            | succ N ih_129 =>
                              intro q M hm hq hM
                              refine Z.iload hX dX3_addProduct_129 rfl ?_
                              refine Z.iload hX dX3_addProduct_131 rfl ?_
                              refine Z.icmp_gt hX 168 dX3_addProduct_133 (by decide) ⟨by omega, by omega⟩ ⟨by omega, by omega⟩ ?_ ?_
                              · intro c11
                                refine Z.iinc (lv' := [(11, .int (zI (ev + 1))), (14, .int (zI q)), (13, .int (zI (sl (d + ev) + j))), (12, .int (zI (sl ev + 0))), (10, .int (zI la)), (8, .long mu), (7, .int (zI j)), (6, .int (zI d)), (5, .int (zI (B ka + B kb))), (3, .long fac), (2, .ref (pl kb)), (1, .ref (pl ka)), (0, .ref (pl k))]) hX dX3_addProduct_168 rfl (by decide) rfl ?_
                                refine Z.goto hX 99 dX3_addProduct_171 (by decide) ?_
                                refine Z.pick [0, 4, 5, 6, 7, 8, 9, 10, 11, 12] rfl ?_
                                exact ih_99 _ _ (by omega) (by omega) hM
                              · intro c11
                                refine Z.aload_n hX dX3_addProduct_136 rfl rfl ?_
                                refine Z.getf hX 3 (24 + k) 0 dX3_addProduct_137 (cW_pl (by omega)) rfl inX3 (by decide) fl_X3_9 rfl rfl ?_
                                refine Z.iload hX dX3_addProduct_140 rfl ?_
                                refine Z.iload hX dX3_addProduct_142 rfl ?_
                                refine Z.iadd hX dX3_addProduct_144 ?_
                                refine Z.dup2 hX dX3_addProduct_145 rfl rfl ?_
                                refine Z.laload hX (66 + k) 1 dX3_addProduct_146 (cW_ar (by omega)) rfl (by omega) (by omega) (by decide) ?_
                                refine Z.lload hX dX3_addProduct_147 rfl ?_
                                refine Z.aload_n hX dX3_addProduct_149 rfl rfl ?_
                                refine Z.getf hX 3 (24 + kb) 0 dX3_addProduct_150 (cW_pl (by omega)) rfl inX3 (by decide) fl_X3_9 rfl rfl ?_
                                refine Z.iload hX dX3_addProduct_153 rfl ?_
                                refine Z.iload hX dX3_addProduct_155 rfl ?_
                                refine Z.iadd hX dX3_addProduct_157 ?_
                                refine Z.laload hX (66 + kb) 1 dX3_addProduct_158 (cW_ar (by omega)) rfl (by omega) (by omega) (by decide) ?_
                                refine Z.lmul hX dX3_addProduct_159 ?_
                                refine Z.ladd hX dX3_addProduct_160 ?_
                                refine Z.lastore hX (66 + k) 1 dX3_addProduct_161 (cW_ar (by omega)) rfl (by omega) (by omega) (by decide) ?_
                                obtain ⟨J12, eJ12⟩ : ∃ J' : Nat → Nat → Int64, J' = va_up M k (vp_updL (M k) ((sl (d + ev) + j) + q : Int).toNat ((M k ((sl (d + ev) + j) + q : Int).toNat) + (mu * (M kb ((sl ev + 0) + q : Int).toNat)))) := ⟨_, rfl⟩
                                refine Z.toW (w' := cW ce h pl ar G L B2 J12) (by rw [eJ12]; exact cW_setJ (by omega)) ?_
                                have gJ12 : J12 k = vp_updL (M k) ((sl (d + ev) + j) + q : Int).toNat ((M k ((sl (d + ev) + j) + q : Int).toNat) + (mu * (M kb ((sl ev + 0) + q : Int).toNat))) := by rw [eJ12]; exact up_eq
                                have fJ12 : ∀ j_, j_ ≠ k → J12 j_ = M j_ := fun j_ hj_ => by rw [eJ12]; exact up_ne hj_
                                refine Z.iinc (lv' := [(14, .int (zI (q + 1))), (13, .int (zI (sl (d + ev) + j))), (12, .int (zI (sl ev + 0))), (11, .int (zI ev)), (10, .int (zI la)), (8, .long mu), (7, .int (zI j)), (6, .int (zI d)), (5, .int (zI (B ka + B kb))), (3, .long fac), (2, .ref (pl kb)), (1, .ref (pl ka)), (0, .ref (pl k))]) hX dX3_addProduct_162 rfl (by decide) rfl ?_
                                refine Z.goto hX 129 dX3_addProduct_165 (by decide) ?_
                                refine Z.pick [0, 1, 2, 3, 4, 5, 6, 7, 8, 9, 10, 11, 12] rfl ?_
                                exact ih_129 _ _ (by omega) (by omega) (fun j_ h_k => ((fJ12 j_ h_k).trans (hM j_ h_k)))
                          refine Z.pick [0, 1, 2, 3, 4, 5, 6, 7, 8, 9, 10, 11, 12] rfl ?_
                          exact key_129 _ _ _ (Nat.lt_succ_self _) (by omega) hM
                    refine Z.pick [0, 1, 2, 3, 4, 5, 6, 7, 8, 9] rfl ?_
                    exact key_99 _ _ _ (Nat.lt_succ_self _) (by omega) hM
                  refine Z.lload hX dX3_addProduct_79 rfl ?_
                  refine Z.lconst (v := 0) hX dX3_addProduct_81 rfl ?_
                  refine Z.lcmp_ne hX 90 dX3_addProduct_82 dX3_addProduct_83 (by decide) ?_ ?_
                  · intro c13
                    refine Z.aload_n hX dX3_addProduct_90 rfl rfl ?_
                    refine Z.getf hX 3 (24 + kb) 1 dX3_addProduct_91 (cW_pl (by omega)) rfl inX3 (by decide) fl_X3_15 rfl rfl ?_
                    refine Z.pick [0, 1, 2, 3, 4, 5, 6, 7] rfl ?_
                    exact key_94 _ (by omega)
                  · intro c13
                    refine Z.iconst hX dX3_addProduct_86 ?_
                    refine Z.goto hX 94 dX3_addProduct_87 (by decide) ?_
                    refine Z.pick [0, 1, 2, 3, 4, 5, 6, 7] rfl ?_
                    exact key_94 _ (by omega)
            refine Z.pick [0, 1, 2, 3, 4, 5, 6] rfl ?_
            exact key_56 _ _ _ (Nat.lt_succ_self _) (by omega) hM
      refine Z.pick [0, 1, 2, 3, 4, 5] rfl ?_
      exact key_44 _ _ _ (Nat.lt_succ_self _) (by omega) (fun _ _ => rfl)
    refine Z.aload_n hX dX3_addProduct_19 rfl rfl ?_
    refine Z.aload_n hX dX3_addProduct_20 rfl rfl ?_
    refine Z.getf hX 3 (24 + k) 1 dX3_addProduct_21 (cW_pl (by omega)) rfl inX3 (by decide) fl_X3_15 rfl rfl ?_
    refine Z.iload hX dX3_addProduct_24 rfl ?_
    refine Z.icmp_ge hX 34 dX3_addProduct_26 (by decide) ⟨by omega, by omega⟩ ⟨by omega, by omega⟩ ?_ ?_
    · intro c14
      refine Z.aload_n hX dX3_addProduct_34 rfl rfl ?_
      refine Z.getf hX 3 (24 + k) 1 dX3_addProduct_35 (cW_pl (by omega)) rfl inX3 (by decide) fl_X3_15 rfl rfl ?_
      refine Z.pick [0, 4, 3, 2, 1] rfl ?_
      exact key_38 _ (by omega)
    · intro c14
      refine Z.iload hX dX3_addProduct_29 rfl ?_
      refine Z.goto hX 38 dX3_addProduct_31 (by decide) ?_
      refine Z.pick [0, 4, 3, 2, 1] rfl ?_
      exact key_38 _ (by omega)
  · intro c1
    exact hR _ _ _ dX3_addProduct_18 ⟨B, J, rfl, (fun _ _ => rfl), (fun _ _ => rfl), hB⟩
end
section
theorem hp_s {a b d : Nat → Int64} {z : Int} (h : ∀ k : Int, z < k → k ≤ 4 → a k.toNat = 0 ∧ b k.toNat = 0 ∧ d k.toNat = 0) (hz : a z.toNat = 0 ∧ b z.toNat = 0 ∧ d z.toNat = 0) : ∀ k : Int, z + -1 < k → k ≤ 4 → a k.toNat = 0 ∧ b k.toNat = 0 ∧ d k.toNat = 0 := by
  intro k h1 h2
  by_cases e : k = z
  · rw [e]; exact hz
  · exact h k (by omega) h2
def cntB (f : Nat → Int64) : Nat → Int
  | 0 => 0
  | k + 1 => cntB f k + (if f k = 0 then 0 else 1)
/-- the row's first t places are 0, the others as they were -/
def erI (L M : Nat → Nat → Int64) (t : Int) : Prop := ∀ q : Int, 0 ≤ q → q < 15 → M (q.toNat / 5) (q.toNat % 5) = if q < t then 0 else L (q.toNat / 5) (q.toNat % 5)
theorem erI_0 (L : Nat → Nat → Int64) : erI L L (5 * 0) := fun q h1 _ => (if_neg (by omega)).symm
theorem er_at {w i : Int} (hw : 0 ≤ w) (hi : 0 ≤ i) (hi5 : i < 5) : (5 * w + i).toNat / 5 = w.toNat ∧ (5 * w + i).toNat % 5 = i.toNat := by omega
theorem cntB_s {L M : Nat → Nat → Int64} {w i n x : Int} (hw : 0 ≤ w) (hi : 0 ≤ i) (h5 : i < 5 ∧ w < 3) (hn : n = cntB (fun q => L (q / 5) (q % 5)) (5 * w + i).toNat) (hM : erI L M (5 * w + i)) (hx : (M w.toNat i.toNat = 0 ∧ x = n) ∨ (¬ M w.toNat i.toNat = 0 ∧ x = n + 1)) : x = cntB (fun q => L (q / 5) (q % 5)) (5 * w + (i + 1)).toNat := by
  obtain ⟨e1, e2⟩ := er_at hw hi h5.1
  have h := hM (5 * w + i) (by omega) (by omega)
  rw [e1, e2, if_neg (by omega)] at h
  rw [show (5 * w + (i + 1)).toNat = (5 * w + i).toNat + 1 by omega]
  show x = cntB _ _ + (if L ((5 * w + i).toNat / 5) ((5 * w + i).toNat % 5) = 0 then 0 else 1)
  rw [e1, e2, ← h, ← hn]
  rcases hx with ⟨g1, g2⟩ | ⟨g1, g2⟩
  · rw [if_pos g1, g2, Int.add_zero]
  · rw [if_neg g1, g2]
theorem erI_z {L M : Nat → Nat → Int64} {w i : Int} (hw : 0 ≤ w) (hi : 0 ≤ i) (h5 : i < 5 ∧ w < 3) (hM : erI L M (5 * w + i)) (hz : M w.toNat i.toNat = 0) : erI L M (5 * w + (i + 1)) := by
  intro q h1 h2
  obtain ⟨e1, e2⟩ := er_at hw hi h5.1
  by_cases g : q = 5 * w + i
  · rw [if_pos (by omega), g, e1, e2, hz]
  · rw [hM q h1 h2]
    by_cases g2 : q < 5 * w + i
    · rw [if_pos g2, if_pos (by omega)]
    · rw [if_neg g2, if_neg (by omega)]
theorem erI_s {L M M2 : Nat → Nat → Int64} {w i : Int} (hw : 0 ≤ w) (hi : 0 ≤ i) (h5 : i < 5 ∧ w < 3) (hM : erI L M (5 * w + i)) (e : M2 w.toNat = vp_updL (M w.toNat) i.toNat 0) (f : ∀ j, j ≠ w.toNat → M2 j = M j) : erI L M2 (5 * w + (i + 1)) := by
  intro q h1 h2
  obtain ⟨e1, e2⟩ := er_at hw hi h5.1
  by_cases g : q = 5 * w + i
  · rw [if_pos (by omega), g, e1, e2, e]
    exact if_pos rfl
  · have h3 : M2 (q.toNat / 5) (q.toNat % 5) = M (q.toNat / 5) (q.toNat % 5) := by
      by_cases g3 : q.toNat / 5 = w.toNat
      · rw [g3, e]
        exact if_neg (by omega)
      · rw [f _ g3]
    rw [h3, hM q h1 h2]
    by_cases g2 : q < 5 * w + i
    · rw [if_pos g2, if_pos (by omega)]
    · rw [if_neg g2, if_neg (by omega)]
theorem er_f {L M M2 : Nat → Nat → Int64} {w : Int} (hw : 0 ≤ w ∧ w < 3) (f : ∀ j, j ≠ w.toNat → M2 j = M j) (h : ∀ k, k ≠ 0 → k ≠ 1 → k ≠ 2 → M k = L k) : ∀ k, k ≠ 0 → k ≠ 1 → k ≠ 2 → M2 k = L k := fun k h1 h2 h3 => (f k (by omega)).trans (h k h1 h2 h3)
theorem er_e {L M : Nat → Nat → Int64} (h : erI L M 15) : ∀ q : Int, 0 ≤ q → q < 15 → M (q.toNat / 5) (q.toNat % 5) = 0 := fun q h1 h2 => by rw [h q h1 h2, if_pos h2]
end
section
theorem dX3_sumOfSizes_0 : decode cX3_sumOfSizes 0 = .ok (.lconst 0, 1) := by decide +kernel
theorem dX3_sumOfSizes_1 : decode cX3_sumOfSizes 1 = .ok (.lstore_n 1, 1) := by decide +kernel
theorem dX3_sumOfSizes_2 : decode cX3_sumOfSizes 2 = .ok (.iconst 0, 1) := by decide +kernel
theorem dX3_sumOfSizes_3 : decode cX3_sumOfSizes 3 = .ok (.istore_n 3, 1) := by decide +kernel
theorem dX3_sumOfSizes_4 : decode cX3_sumOfSizes 4 = .ok (.iload_n 3, 1) := by decide +kernel
theorem dX3_sumOfSizes_5 : decode cX3_sumOfSizes 5 = .ok (.bipush 28, 2) := by decide +kernel
theorem dX3_sumOfSizes_7 : decode cX3_sumOfSizes 7 = .ok (.if_icmp .ge 21, 3) := by decide +kernel
theorem dX3_sumOfSizes_10 : decode cX3_sumOfSizes 10 = .ok (.lload_n 1, 1) := by decide +kernel
theorem dX3_sumOfSizes_11 : decode cX3_sumOfSizes 11 = .ok (.aload_n 0, 1) := by decide +kernel
theorem dX3_sumOfSizes_12 : decode cX3_sumOfSizes 12 = .ok (.getfield 9, 3) := by decide +kernel
theorem dX3_sumOfSizes_15 : decode cX3_sumOfSizes 15 = .ok (.iload_n 3, 1) := by decide +kernel
theorem dX3_sumOfSizes_16 : decode cX3_sumOfSizes 16 = .ok (.laload, 1) := by decide +kernel
theorem dX3_sumOfSizes_17 : decode cX3_sumOfSizes 17 = .ok (.invokestatic 49, 3) := by decide +kernel
theorem dX3_sumOfSizes_20 : decode cX3_sumOfSizes 20 = .ok (.ladd, 1) := by decide +kernel
theorem dX3_sumOfSizes_21 : decode cX3_sumOfSizes 21 = .ok (.lstore_n 1, 1) := by decide +kernel
theorem dX3_sumOfSizes_22 : decode cX3_sumOfSizes 22 = .ok (.iinc 3 1, 3) := by decide +kernel
theorem dX3_sumOfSizes_25 : decode cX3_sumOfSizes 25 = .ok (.goto (-21), 3) := by decide +kernel
theorem dX3_sumOfSizes_28 : decode cX3_sumOfSizes 28 = .ok (.lload_n 1, 1) := by decide +kernel
theorem dX3_sumOfSizes_29 : decode cX3_sumOfSizes 29 = .ok (.lreturn, 1) := by decide +kernel
set_option maxHeartbeats 4000000 in
set_option maxRecDepth 100000 in
theorem ct_X3_sumOfSizes (l : Launch) (D : va_G) (ce : Nat → ClassId) (h pl ar : Nat → Nat) (G : Nat → Int) (L : Nat → Nat → Int64) (B : Nat → Int) (J : Nat → Nat → Int64) (k : Nat) (hk : k < 42) (hB : BOK B) : Ct l yX3_sumOfSizes cX3_sumOfSizes 4 (some .long) { frames := 1, cells := 0, slots := 0, locals := 40 } 0 0 D (TY ce) [.ref (pl k)] (cW ce h pl ar G L B J) (QL D (TY ce) (fun r w1 => ∃ r0 : Int64, r = r0 ∧ w1 = cW ce h pl ar G L B J)) := by
  refine Ct.ofL (by decide) (Nat.le_of_ble_eq_true rfl) ?_
  intro p e s m args below meth c A Q hX hnm hR
  refine Z.pick (lv' := [(0, .ref (pl k))]) [0] rfl ?_
  refine Z.lconst (v := 0) hX dX3_sumOfSizes_0 rfl ?_
  refine Z.lstore_n (lv' := [(1, .long 0), (0, .ref (pl k))]) hX dX3_sumOfSizes_1 rfl (by decide) rfl ?_
  refine Z.iconst hX dX3_sumOfSizes_2 ?_
  refine Z.istore_n (lv' := [(3, .int (zI 0)), (1, .long 0), (0, .ref (pl k))]) hX dX3_sumOfSizes_3 rfl (by decide) rfl ?_
  have key_4 : ∀ (N : Nat), ∀ (i : Int) (x : Int64), (28 - i).toNat < N → (hi : 0 ≤ i ∧ i ≤ 28) → Z p l e { frames := 1, cells := 0, slots := 0, locals := 40 } s m args below meth c D A 4 0 0 Q 4 [(3, .int (zI i)), (1, .long x), (0, .ref (pl k))] [] (cW ce h pl ar G L B J) := by
    intro N
    induction N with
    | zero => intro i x hm; exact absurd hm (Nat.not_lt_zero _)
    | succ N ih_4 =>
      intro i x hm hi
      refine Z.iload_n hX dX3_sumOfSizes_4 rfl rfl ?_
      refine Z.bipush hX dX3_sumOfSizes_5 (by decide) ?_
      refine Z.icmp_ge hX 28 dX3_sumOfSizes_7 (by decide) ⟨by omega, by omega⟩ ⟨by omega, by omega⟩ ?_ ?_
      · intro c1
        refine Z.lload_n hX dX3_sumOfSizes_28 rfl rfl ?_
        exact hR _ _ _ _ dX3_sumOfSizes_29 ⟨x, rfl, rfl⟩
      · intro c1
        refine Z.lload_n hX dX3_sumOfSizes_10 rfl rfl ?_
        refine Z.aload_n hX dX3_sumOfSizes_11 rfl rfl ?_
        refine Z.getf hX 3 (24 + k) 0 dX3_sumOfSizes_12 (cW_pl (by omega)) rfl inX3 (by decide) fl_X3_9 rfl rfl ?_
        refine Z.iload_n hX dX3_sumOfSizes_15 rfl rfl ?_
        refine Z.laload hX (66 + k) 1 dX3_sumOfSizes_16 (cW_ar (by omega)) rfl (by omega) (by omega) (by decide) ?_
        refine Z.mabs hX dX3_sumOfSizes_17 mm_X3_49 (by decide) (Nat.le_of_ble_eq_true rfl) (Nat.le_refl _) (Nat.le_refl _) ?_
        refine Z.topl (fun y2 ey2 => ?_)
        refine Z.ladd hX dX3_sumOfSizes_20 ?_
        refine Z.lstore_n (lv' := [(1, .long (x + y2)), (3, .int (zI i)), (0, .ref (pl k))]) hX dX3_sumOfSizes_21 rfl (by decide) rfl ?_
        refine Z.iinc (lv' := [(3, .int (zI (i + 1))), (1, .long (x + y2)), (0, .ref (pl k))]) hX dX3_sumOfSizes_22 rfl (by decide) rfl ?_
        refine Z.goto hX 4 dX3_sumOfSizes_25 (by decide) ?_
        refine Z.pick [0, 1, 2] rfl ?_
        exact ih_4 _ _ (by omega) (by omega)
  refine Z.pick [0, 1, 2] rfl ?_
  exact key_4 _ _ _ (Nat.lt_succ_self _) (by omega)

theorem dX5_highestPower_0 : decode cX5_highestPower 0 = .ok (.iconst 4, 1) := by decide +kernel
theorem dX5_highestPower_1 : decode cX5_highestPower 1 = .ok (.istore_n 1, 1) := by decide +kernel
theorem dX5_highestPower_2 : decode cX5_highestPower 2 = .ok (.iload_n 1, 1) := by decide +kernel
theorem dX5_highestPower_3 : decode cX5_highestPower 3 = .ok (.ifCond .le 50, 3) := by decide +kernel
theorem dX5_highestPower_6 : decode cX5_highestPower 6 = .ok (.aload_n 0, 1) := by decide +kernel
theorem dX5_highestPower_7 : decode cX5_highestPower 7 = .ok (.getfield 11, 3) := by decide +kernel
theorem dX5_highestPower_10 : decode cX5_highestPower 10 = .ok (.iconst 0, 1) := by decide +kernel
theorem dX5_highestPower_11 : decode cX5_highestPower 11 = .ok (.aaload, 1) := by decide +kernel
theorem dX5_highestPower_12 : decode cX5_highestPower 12 = .ok (.iload_n 1, 1) := by decide +kernel
theorem dX5_highestPower_13 : decode cX5_highestPower 13 = .ok (.laload, 1) := by decide +kernel
theorem dX5_highestPower_14 : decode cX5_highestPower 14 = .ok (.lconst 0, 1) := by decide +kernel
theorem dX5_highestPower_15 : decode cX5_highestPower 15 = .ok (.lcmp, 1) := by decide +kernel
theorem dX5_highestPower_16 : decode cX5_highestPower 16 = .ok (.ifCond .ne 29, 3) := by decide +kernel
theorem dX5_highestPower_19 : decode cX5_highestPower 19 = .ok (.aload_n 0, 1) := by decide +kernel
theorem dX5_highestPower_20 : decode cX5_highestPower 20 = .ok (.getfield 11, 3) := by decide +kernel
theorem dX5_highestPower_23 : decode cX5_highestPower 23 = .ok (.iconst 1, 1) := by decide +kernel
theorem dX5_highestPower_24 : decode cX5_highestPower 24 = .ok (.aaload, 1) := by decide +kernel
theorem dX5_highestPower_25 : decode cX5_highestPower 25 = .ok (.iload_n 1, 1) := by decide +kernel
theorem dX5_highestPower_26 : decode cX5_highestPower 26 = .ok (.laload, 1) := by decide +kernel
theorem dX5_highestPower_27 : decode cX5_highestPower 27 = .ok (.lconst 0, 1) := by decide +kernel
theorem dX5_highestPower_28 : decode cX5_highestPower 28 = .ok (.lcmp, 1) := by decide +kernel
theorem dX5_highestPower_29 : decode cX5_highestPower 29 = .ok (.ifCond .ne 16, 3) := by decide +kernel
theorem dX5_highestPower_32 : decode cX5_highestPower 32 = .ok (.aload_n 0, 1) := by decide +kernel
theorem dX5_highestPower_33 : decode cX5_highestPower 33 = .ok (.getfield 11, 3) := by decide +kernel
theorem dX5_highestPower_36 : decode cX5_highestPower 36 = .ok (.iconst 2, 1) := by decide +kernel
theorem dX5_highestPower_37 : decode cX5_highestPower 37 = .ok (.aaload, 1) := by decide +kernel
theorem dX5_highestPower_38 : decode cX5_highestPower 38 = .ok (.iload_n 1, 1) := by decide +kernel
theorem dX5_highestPower_39 : decode cX5_highestPower 39 = .ok (.laload, 1) := by decide +kernel
theorem dX5_highestPower_40 : decode cX5_highestPower 40 = .ok (.lconst 0, 1) := by decide +kernel
theorem dX5_highestPower_41 : decode cX5_highestPower 41 = .ok (.lcmp, 1) := by decide +kernel
theorem dX5_highestPower_42 : decode cX5_highestPower 42 = .ok (.ifCond .eq 5, 3) := by decide +kernel
theorem dX5_highestPower_45 : decode cX5_highestPower 45 = .ok (.iload_n 1, 1) := by decide +kernel
theorem dX5_highestPower_46 : decode cX5_highestPower 46 = .ok (.ireturn, 1) := by decide +kernel
theorem dX5_highestPower_47 : decode cX5_highestPower 47 = .ok (.iinc 1 (-1), 3) := by decide +kernel
theorem dX5_highestPower_50 : decode cX5_highestPower 50 = .ok (.goto (-48), 3) := by decide +kernel
theorem dX5_highestPower_53 : decode cX5_highestPower 53 = .ok (.iconst 0, 1) := by decide +kernel
theorem dX5_highestPower_54 : decode cX5_highestPower 54 = .ok (.ireturn, 1) := by decide +kernel
set_option maxHeartbeats 4000000 in
set_option maxRecDepth 100000 in
theorem ct_X5_highestPower_r (l : Launch) (D : va_G) (ce : Nat → ClassId) (h pl ar : Nat → Nat) (G : Nat → Int) (L : Nat → Nat → Int64) (B : Nat → Int) (J : Nat → Nat → Int64)  : Ct l yX5_highestPower cX5_highestPower 2 (some .int) { frames := 0, cells := 0, slots := 0, locals := 0 } 0 0 D (TY ce) [.ref (h 1)] (cW ce h pl ar G L B J) (QI D (TY ce) (fun r w1 => ∃ z : Int, r = zI z ∧ w1 = cW ce h pl ar G L B J ∧ (0 ≤ z ∧ z ≤ 4) ∧ (∀ k : Int, z < k → k ≤ 4 → L 0 k.toNat = 0 ∧ L 1 k.toNat = 0 ∧ L 2 k.toNat = 0) ∧ (0 < z → ¬ (L 0 z.toNat = 0 ∧ L 1 z.toNat = 0 ∧ L 2 z.toNat = 0)))) := by
  refine Ct.ofI (by decide) (Nat.le_of_ble_eq_true rfl) ?_
  intro p e s m args below meth c A Q hX hnm hR
  refine Z.pick (lv' := [(0, .ref (h 1))]) [0] rfl ?_
  refine Z.iconst hX dX5_highestPower_0 ?_
  refine Z.istore_n (lv' := [(1, .int (zI 4)), (0, .ref (h 1))]) hX dX5_highestPower_1 rfl (by decide) rfl ?_
  have key_2 : ∀ (N : Nat), ∀ (z : Int), z.toNat < N → (hz : 0 ≤ z ∧ z ≤ 4) → (hn : ∀ k : Int, z < k → k ≤ 4 → L 0 k.toNat = 0 ∧ L 1 k.toNat = 0 ∧ L 2 k.toNat = 0) → Z p l e { frames := 0, cells := 0, slots := 0, locals := 0 } s m args below meth c D A 2 0 0 Q 2 [(1, .int (zI z)), (0, .ref (h 1))] [] (cW ce h pl ar G L B J) := by
    intro N
    induction N with
    | zero => intro z hm; exact absurd hm (Nat.not_lt_zero _)
    | succ N ih_2 =>
      intro z hm hz hn
      refine Z.iload_n hX dX5_highestPower_2 rfl rfl ?_
      refine Z.if_le hX 53 dX5_highestPower_3 (by decide) ⟨by omega, by omega⟩ ?_ ?_
      · intro c1
        refine Z.iconst hX dX5_highestPower_53 ?_
        exact hR _ _ _ _ dX5_highestPower_54 ⟨0, rfl, rfl, (by omega), (fun k h1 h2 => hn k (by omega) h2), (fun h => by omega)⟩
      · intro c1
        refine Z.aload_n hX dX5_highestPower_6 rfl rfl ?_
        refine Z.getf hX 5 1 0 dX5_highestPower_7 rfl rfl inX5 (by decide) fl_X5_11 rfl rfl ?_
        refine Z.iconst hX dX5_highestPower_10 ?_
        refine Z.aaload hX 9 3 dX5_highestPower_11 rfl rfl rfl (by omega) (by omega) (by decide) rfl ?_
        refine Z.iload_n hX dX5_highestPower_12 rfl rfl ?_
        refine Z.laload hX (18 + 0) 1 dX5_highestPower_13 (cW_in (by decide)) rfl (by omega) (by omega) (by decide) ?_
        refine Z.lconst (v := 0) hX dX5_highestPower_14 rfl ?_
        refine Z.lcmp_ne hX 45 dX5_highestPower_15 dX5_highestPower_16 (by decide) ?_ ?_
        · intro c2
          refine Z.iload_n hX dX5_highestPower_45 rfl rfl ?_
          exact hR _ _ _ _ dX5_highestPower_46 ⟨z, rfl, rfl, (by omega), hn, (fun _ q => by first | exact absurd q.1 (by assumption) | exact absurd q.2.1 (by assumption) | exact absurd q.2.2 (by assumption))⟩
        · intro c2
          refine Z.aload_n hX dX5_highestPower_19 rfl rfl ?_
          refine Z.getf hX 5 1 0 dX5_highestPower_20 rfl rfl inX5 (by decide) fl_X5_11 rfl rfl ?_
          refine Z.iconst hX dX5_highestPower_23 ?_
          refine Z.aaload hX 9 3 dX5_highestPower_24 rfl rfl rfl (by omega) (by omega) (by decide) rfl ?_
          refine Z.iload_n hX dX5_highestPower_25 rfl rfl ?_
          refine Z.laload hX (18 + 1) 1 dX5_highestPower_26 (cW_in (by decide)) rfl (by omega) (by omega) (by decide) ?_
          refine Z.lconst (v := 0) hX dX5_highestPower_27 rfl ?_
          refine Z.lcmp_ne hX 45 dX5_highestPower_28 dX5_highestPower_29 (by decide) ?_ ?_
          · intro c3
            refine Z.iload_n hX dX5_highestPower_45 rfl rfl ?_
            exact hR _ _ _ _ dX5_highestPower_46 ⟨z, rfl, rfl, (by omega), hn, (fun _ q => by first | exact absurd q.1 (by assumption) | exact absurd q.2.1 (by assumption) | exact absurd q.2.2 (by assumption))⟩
          · intro c3
            refine Z.aload_n hX dX5_highestPower_32 rfl rfl ?_
            refine Z.getf hX 5 1 0 dX5_highestPower_33 rfl rfl inX5 (by decide) fl_X5_11 rfl rfl ?_
            refine Z.iconst hX dX5_highestPower_36 ?_
            refine Z.aaload hX 9 3 dX5_highestPower_37 rfl rfl rfl (by omega) (by omega) (by decide) rfl ?_
            refine Z.iload_n hX dX5_highestPower_38 rfl rfl ?_
            refine Z.laload hX (18 + 2) 1 dX5_highestPower_39 (cW_in (by decide)) rfl (by omega) (by omega) (by decide) ?_
            refine Z.lconst (v := 0) hX dX5_highestPower_40 rfl ?_
            refine Z.lcmp_eq hX 47 dX5_highestPower_41 dX5_highestPower_42 (by decide) ?_ ?_
            · intro c4
              refine Z.iinc (lv' := [(1, .int (zI (z + -1))), (0, .ref (h 1))]) hX dX5_highestPower_47 rfl (by decide) rfl ?_
              refine Z.goto hX 2 dX5_highestPower_50 (by decide) ?_
              refine Z.pick [0, 1] rfl ?_
              exact ih_2 _ (by omega) (by omega) (hp_s hn ⟨by assumption, by assumption, by assumption⟩)
            · intro c4
              refine Z.iload_n hX dX5_highestPower_45 rfl rfl ?_
              exact hR _ _ _ _ dX5_highestPower_46 ⟨z, rfl, rfl, (by omega), hn, (fun _ q => by first | exact absurd q.1 (by assumption) | exact absurd q.2.1 (by assumption) | exact absurd q.2.2 (by assumption))⟩
  refine Z.pick [0, 1] rfl ?_
  exact key_2 _ _ (Nat.lt_succ_self _) (by omega) (fun k h1 h2 => by omega)

set_option maxHeartbeats 4000000 in
set_option maxRecDepth 100000 in
theorem ct_X5_highestPower_f (l : Launch) (D : va_G) (ce : Nat → ClassId) (h pl ar : Nat → Nat) (G : Nat → Int) (L : Nat → Nat → Int64) (B : Nat → Int) (J : Nat → Nat → Int64)  : Ct l yX5_highestPower cX5_highestPower 2 (some .int) { frames := 0, cells := 0, slots := 0, locals := 0 } 0 0 D (TY ce) [.ref (h 2)] (cW ce h pl ar G L B J) (QI D (TY ce) (fun r w1 => ∃ z : Int, r = zI z ∧ w1 = cW ce h pl ar G L B J ∧ (0 ≤ z ∧ z ≤ 4) ∧ (∀ k : Int, z < k → k ≤ 4 → L (3 + 0) k.toNat = 0 ∧ L (3 + 1) k.toNat = 0 ∧ L (3 + 2) k.toNat = 0) ∧ (0 < z → ¬ (L (3 + 0) z.toNat = 0 ∧ L (3 + 1) z.toNat = 0 ∧ L (3 + 2) z.toNat = 0)))) := by
  refine Ct.ofI (by decide) (Nat.le_of_ble_eq_true rfl) ?_
  intro p e s m args below meth c A Q hX hnm hR
  refine Z.pick (lv' := [(0, .ref (h 2))]) [0] rfl ?_
  refine Z.iconst hX dX5_highestPower_0 ?_
  refine Z.istore_n (lv' := [(1, .int (zI 4)), (0, .ref (h 2))]) hX dX5_highestPower_1 rfl (by decide) rfl ?_
  have key_2 : ∀ (N : Nat), ∀ (z : Int), z.toNat < N → (hz : 0 ≤ z ∧ z ≤ 4) → (hn : ∀ k : Int, z < k → k ≤ 4 → L (3 + 0) k.toNat = 0 ∧ L (3 + 1) k.toNat = 0 ∧ L (3 + 2) k.toNat = 0) → Z p l e { frames := 0, cells := 0, slots := 0, locals := 0 } s m args below meth c D A 2 0 0 Q 2 [(1, .int (zI z)), (0, .ref (h 2))] [] (cW ce h pl ar G L B J) := by
    intro N
    induction N with
    | zero => intro z hm; exact absurd hm (Nat.not_lt_zero _)
    | succ N ih_2 =>
      intro z hm hz hn
      refine Z.iload_n hX dX5_highestPower_2 rfl rfl ?_
      refine Z.if_le hX 53 dX5_highestPower_3 (by decide) ⟨by omega, by omega⟩ ?_ ?_
      · intro c1
        refine Z.iconst hX dX5_highestPower_53 ?_
        exact hR _ _ _ _ dX5_highestPower_54 ⟨0, rfl, rfl, (by omega), (fun k h1 h2 => hn k (by omega) h2), (fun h => by omega)⟩
      · intro c1
        refine Z.aload_n hX dX5_highestPower_6 rfl rfl ?_
        refine Z.getf hX 5 2 0 dX5_highestPower_7 rfl rfl inX5 (by decide) fl_X5_11 rfl rfl ?_
        refine Z.iconst hX dX5_highestPower_10 ?_
        refine Z.aaload hX 10 3 dX5_highestPower_11 rfl rfl rfl (by omega) (by omega) (by decide) rfl ?_
        refine Z.iload_n hX dX5_highestPower_12 rfl rfl ?_
        refine Z.laload hX (18 + (3 + 0)) 1 dX5_highestPower_13 (cW_in (by omega)) rfl (by omega) (by omega) (by decide) ?_
        refine Z.lconst (v := 0) hX dX5_highestPower_14 rfl ?_
        refine Z.lcmp_ne hX 45 dX5_highestPower_15 dX5_highestPower_16 (by decide) ?_ ?_
        · intro c2
          refine Z.iload_n hX dX5_highestPower_45 rfl rfl ?_
          exact hR _ _ _ _ dX5_highestPower_46 ⟨z, rfl, rfl, (by omega), hn, (fun _ q => by first | exact absurd q.1 (by assumption) | exact absurd q.2.1 (by assumption) | exact absurd q.2.2 (by assumption))⟩
        · intro c2
          refine Z.aload_n hX dX5_highestPower_19 rfl rfl ?_
          refine Z.getf hX 5 2 0 dX5_highestPower_20 rfl rfl inX5 (by decide) fl_X5_11 rfl rfl ?_
          refine Z.iconst hX dX5_highestPower_23 ?_
          refine Z.aaload hX 10 3 dX5_highestPower_24 rfl rfl rfl (by omega) (by omega) (by decide) rfl ?_
          refine Z.iload_n hX dX5_highestPower_25 rfl rfl ?_
          refine Z.laload hX (18 + (3 + 1)) 1 dX5_highestPower_26 (cW_in (by omega)) rfl (by omega) (by omega) (by decide) ?_
          refine Z.lconst (v := 0) hX dX5_highestPower_27 rfl ?_
          refine Z.lcmp_ne hX 45 dX5_highestPower_28 dX5_highestPower_29 (by decide) ?_ ?_
          · intro c3
            refine Z.iload_n hX dX5_highestPower_45 rfl rfl ?_
            exact hR _ _ _ _ dX5_highestPower_46 ⟨z, rfl, rfl, (by omega), hn, (fun _ q => by first | exact absurd q.1 (by assumption) | exact absurd q.2.1 (by assumption) | exact absurd q.2.2 (by assumption))⟩
          · intro c3
            refine Z.aload_n hX dX5_highestPower_32 rfl rfl ?_
            refine Z.getf hX 5 2 0 dX5_highestPower_33 rfl rfl inX5 (by decide) fl_X5_11 rfl rfl ?_
            refine Z.iconst hX dX5_highestPower_36 ?_
            refine Z.aaload hX 10 3 dX5_highestPower_37 rfl rfl rfl (by omega) (by omega) (by decide) rfl ?_
            refine Z.iload_n hX dX5_highestPower_38 rfl rfl ?_
            refine Z.laload hX (18 + (3 + 2)) 1 dX5_highestPower_39 (cW_in (by omega)) rfl (by omega) (by omega) (by decide) ?_
            refine Z.lconst (v := 0) hX dX5_highestPower_40 rfl ?_
            refine Z.lcmp_eq hX 47 dX5_highestPower_41 dX5_highestPower_42 (by decide) ?_ ?_
            · intro c4
              refine Z.iinc (lv' := [(1, .int (zI (z + -1))), (0, .ref (h 2))]) hX dX5_highestPower_47 rfl (by decide) rfl ?_
              refine Z.goto hX 2 dX5_highestPower_50 (by decide) ?_
              refine Z.pick [0, 1] rfl ?_
              exact ih_2 _ (by omega) (by omega) (hp_s hn ⟨by assumption, by assumption, by assumption⟩)
            · intro c4
              refine Z.iload_n hX dX5_highestPower_45 rfl rfl ?_
              exact hR _ _ _ _ dX5_highestPower_46 ⟨z, rfl, rfl, (by omega), hn, (fun _ q => by first | exact absurd q.1 (by assumption) | exact absurd q.2.1 (by assumption) | exact absurd q.2.2 (by assumption))⟩
  refine Z.pick [0, 1] rfl ?_
  exact key_2 _ _ (Nat.lt_succ_self _) (by omega) (fun k h1 h2 => by omega)

theorem dX5_isZero_0 : decode cX5_isZero 0 = .ok (.aload_n 0, 1) := by decide +kernel
theorem dX5_isZero_1 : decode cX5_isZero 1 = .ok (.getfield 11, 3) := by decide +kernel
theorem dX5_isZero_4 : decode cX5_isZero 4 = .ok (.iload_n 1, 1) := by decide +kernel
theorem dX5_isZero_5 : decode cX5_isZero 5 = .ok (.aaload, 1) := by decide +kernel
theorem dX5_isZero_6 : decode cX5_isZero 6 = .ok (.invokestatic 16, 3) := by decide +kernel
theorem dX5_isZero_9 : decode cX5_isZero 9 = .ok (.ifCond .ge 7, 3) := by decide +kernel
theorem dX5_isZero_12 : decode cX5_isZero 12 = .ok (.iconst 1, 1) := by decide +kernel
theorem dX5_isZero_13 : decode cX5_isZero 13 = .ok (.goto 4, 3) := by decide +kernel
theorem dX5_isZero_16 : decode cX5_isZero 16 = .ok (.iconst 0, 1) := by decide +kernel
theorem dX5_isZero_17 : decode cX5_isZero 17 = .ok (.ireturn, 1) := by decide +kernel
set_option maxHeartbeats 4000000 in
set_option maxRecDepth 100000 in
theorem ct_X5_isZero_r (l : Launch) (D : va_G) (ce : Nat → ClassId) (h pl ar : Nat → Nat) (G : Nat → Int) (L : Nat → Nat → Int64) (B : Nat → Int) (J : Nat → Nat → Int64) (i : Int) (hi : 0 ≤ i ∧ i ≤ 2) : Ct l yX5_isZero cX5_isZero 2 (some .boolean) { frames := 1, cells := 0, slots := 0, locals := 21 } 0 0 D (TY ce) [.ref (h 1), .int (zI i)] (cW ce h pl ar G L B J) (QI D (TY ce) (fun r w1 => ∃ z : Int, r = zI z ∧ w1 = cW ce h pl ar G L B J ∧ (z = 0 ∨ z = 1))) := by
  refine Ct.ofB (by decide) (Nat.le_of_ble_eq_true rfl) ?_
  intro p e s m args below meth c A Q hX hnm hR
  refine Z.pick (lv' := [(0, .ref (h 1)), (1, .int (zI i))]) [0, 1] rfl ?_
  refine Z.aload_n hX dX5_isZero_0 rfl rfl ?_
  refine Z.getf hX 5 1 0 dX5_isZero_1 rfl rfl inX5 (by decide) fl_X5_11 rfl rfl ?_
  refine Z.iload_n hX dX5_isZero_4 rfl rfl ?_
  refine Z.aaload hX 9 3 dX5_isZero_5 rfl rfl rfl (by omega) (by omega) (by decide) rfl ?_
  refine Z.callS1i (As := [.ref (h (18 + (i : Int).toNat))]) (rest := []) hX (18 + (i : Int).toNat) (cW_in (by omega)) (ct_X5_topOf l D ce ((h (18 + (i : Int).toNat))) (L ((i : Int).toNat)) ) mc_X5_topOf ml_X5_16 st_X5_topOf ini_X5 nd_X5_topOf ⟨Nat.le_of_ble_eq_true rfl, Nat.le_of_ble_eq_true rfl⟩ ⟨rfl, rfl⟩ ⟨Nat.le_refl _, Nat.le_refl _⟩ rfl (Nat.le_of_ble_eq_true rfl) dX5_isZero_6 ?_
  rintro r_1 w1 ⟨z2, hr_, hw_, hq3, hq4, hq5⟩
  subst hr_
  refine ⟨_, hw_, ?_⟩
  refine Z.toW (w' := cW ce h pl ar G L B J) (set_self (cW_in (by omega))) ?_
  refine Z.if_ge hX 16 dX5_isZero_9 (by decide) ⟨by omega, by omega⟩ ?_ ?_
  · intro c6
    refine Z.iconst hX dX5_isZero_16 ?_
    exact hR _ _ _ _ dX5_isZero_17 rfl ⟨0, rfl, rfl, (by omega)⟩
  · intro c6
    refine Z.iconst hX dX5_isZero_12 ?_
    refine Z.goto hX 17 dX5_isZero_13 (by decide) ?_
    exact hR _ _ _ _ dX5_isZero_17 rfl ⟨1, rfl, rfl, (by omega)⟩

set_option maxHeartbeats 4000000 in
set_option maxRecDepth 100000 in
theorem ct_X5_isZero_f (l : Launch) (D : va_G) (ce : Nat → ClassId) (h pl ar : Nat → Nat) (G : Nat → Int) (L : Nat → Nat → Int64) (B : Nat → Int) (J : Nat → Nat → Int64) (i : Int) (hi : 0 ≤ i ∧ i ≤ 2) : Ct l yX5_isZero cX5_isZero 2 (some .boolean) { frames := 1, cells := 0, slots := 0, locals := 21 } 0 0 D (TY ce) [.ref (h 2), .int (zI i)] (cW ce h pl ar G L B J) (QI D (TY ce) (fun r w1 => ∃ z : Int, r = zI z ∧ w1 = cW ce h pl ar G L B J ∧ (z = 0 ∨ z = 1))) := by
  refine Ct.ofB (by decide) (Nat.le_of_ble_eq_true rfl) ?_
  intro p e s m args below meth c A Q hX hnm hR
  refine Z.pick (lv' := [(0, .ref (h 2)), (1, .int (zI i))]) [0, 1] rfl ?_
  refine Z.aload_n hX dX5_isZero_0 rfl rfl ?_
  refine Z.getf hX 5 2 0 dX5_isZero_1 rfl rfl inX5 (by decide) fl_X5_11 rfl rfl ?_
  refine Z.iload_n hX dX5_isZero_4 rfl rfl ?_
  refine Z.aaload hX 10 3 dX5_isZero_5 rfl rfl rfl (by omega) (by omega) (by decide) rfl ?_
  refine Z.callS1i (As := [.ref (h (18 + (3 + (i : Int).toNat)))]) (rest := []) hX (18 + (3 + (i : Int).toNat)) (cW_in (by omega)) (ct_X5_topOf l D ce ((h (18 + (3 + (i : Int).toNat)))) (L ((3 + (i : Int).toNat))) ) mc_X5_topOf ml_X5_16 st_X5_topOf ini_X5 nd_X5_topOf ⟨Nat.le_of_ble_eq_true rfl, Nat.le_of_ble_eq_true rfl⟩ ⟨rfl, rfl⟩ ⟨Nat.le_refl _, Nat.le_refl _⟩ rfl (Nat.le_of_ble_eq_true rfl) dX5_isZero_6 ?_
  rintro r_1 w1 ⟨z2, hr_, hw_, hq3, hq4, hq5⟩
  subst hr_
  refine ⟨_, hw_, ?_⟩
  refine Z.toW (w' := cW ce h pl ar G L B J) (set_self (cW_in (by omega))) ?_
  refine Z.if_ge hX 16 dX5_isZero_9 (by decide) ⟨by omega, by omega⟩ ?_ ?_
  · intro c6
    refine Z.iconst hX dX5_isZero_16 ?_
    exact hR _ _ _ _ dX5_isZero_17 rfl ⟨0, rfl, rfl, (by omega)⟩
  · intro c6
    refine Z.iconst hX dX5_isZero_12 ?_
    refine Z.goto hX 17 dX5_isZero_13 (by decide) ?_
    exact hR _ _ _ _ dX5_isZero_17 rfl ⟨1, rfl, rfl, (by omega)⟩

theorem dX5_countAndErase_0 : decode cX5_countAndErase 0 = .ok (.iconst 0, 1) := by decide +kernel
theorem dX5_countAndErase_1 : decode cX5_countAndErase 1 = .ok (.istore_n 1, 1) := by decide +kernel
theorem dX5_countAndErase_2 : decode cX5_countAndErase 2 = .ok (.iconst 0, 1) := by decide +kernel
theorem dX5_countAndErase_3 : decode cX5_countAndErase 3 = .ok (.istore_n 2, 1) := by decide +kernel
theorem dX5_countAndErase_4 : decode cX5_countAndErase 4 = .ok (.iload_n 2, 1) := by decide +kernel
theorem dX5_countAndErase_5 : decode cX5_countAndErase 5 = .ok (.iconst 3, 1) := by decide +kernel
theorem dX5_countAndErase_6 : decode cX5_countAndErase 6 = .ok (.if_icmp .ge 47, 3) := by decide +kernel
theorem dX5_countAndErase_9 : decode cX5_countAndErase 9 = .ok (.iconst 0, 1) := by decide +kernel
theorem dX5_countAndErase_10 : decode cX5_countAndErase 10 = .ok (.istore_n 3, 1) := by decide +kernel
theorem dX5_countAndErase_11 : decode cX5_countAndErase 11 = .ok (.iload_n 3, 1) := by decide +kernel
theorem dX5_countAndErase_12 : decode cX5_countAndErase 12 = .ok (.iconst 5, 1) := by decide +kernel
theorem dX5_countAndErase_13 : decode cX5_countAndErase 13 = .ok (.if_icmp .ge 34, 3) := by decide +kernel
theorem dX5_countAndErase_16 : decode cX5_countAndErase 16 = .ok (.aload_n 0, 1) := by decide +kernel
theorem dX5_countAndErase_17 : decode cX5_countAndErase 17 = .ok (.getfield 11, 3) := by decide +kernel
theorem dX5_countAndErase_20 : decode cX5_countAndErase 20 = .ok (.iload_n 2, 1) := by decide +kernel
theorem dX5_countAndErase_21 : decode cX5_countAndErase 21 = .ok (.aaload, 1) := by decide +kernel
theorem dX5_countAndErase_22 : decode cX5_countAndErase 22 = .ok (.iload_n 3, 1) := by decide +kernel
theorem dX5_countAndErase_23 : decode cX5_countAndErase 23 = .ok (.laload, 1) := by decide +kernel
theorem dX5_countAndErase_24 : decode cX5_countAndErase 24 = .ok (.lconst 0, 1) := by decide +kernel
theorem dX5_countAndErase_25 : decode cX5_countAndErase 25 = .ok (.lcmp, 1) := by decide +kernel
theorem dX5_countAndErase_26 : decode cX5_countAndErase 26 = .ok (.ifCond .eq 15, 3) := by decide +kernel
theorem dX5_countAndErase_29 : decode cX5_countAndErase 29 = .ok (.iinc 1 1, 3) := by decide +kernel
theorem dX5_countAndErase_32 : decode cX5_countAndErase 32 = .ok (.aload_n 0, 1) := by decide +kernel
theorem dX5_countAndErase_33 : decode cX5_countAndErase 33 = .ok (.getfield 11, 3) := by decide +kernel
theorem dX5_countAndErase_36 : decode cX5_countAndErase 36 = .ok (.iload_n 2, 1) := by decide +kernel
theorem dX5_countAndErase_37 : decode cX5_countAndErase 37 = .ok (.aaload, 1) := by decide +kernel
theorem dX5_countAndErase_38 : decode cX5_countAndErase 38 = .ok (.iload_n 3, 1) := by decide +kernel
theorem dX5_countAndErase_39 : decode cX5_countAndErase 39 = .ok (.lconst 0, 1) := by decide +kernel
theorem dX5_countAndErase_40 : decode cX5_countAndErase 40 = .ok (.lastore, 1) := by decide +kernel
theorem dX5_countAndErase_41 : decode cX5_countAndErase 41 = .ok (.iinc 3 1, 3) := by decide +kernel
theorem dX5_countAndErase_44 : decode cX5_countAndErase 44 = .ok (.goto (-33), 3) := by decide +kernel
theorem dX5_countAndErase_47 : decode cX5_countAndErase 47 = .ok (.iinc 2 1, 3) := by decide +kernel
theorem dX5_countAndErase_50 : decode cX5_countAndErase 50 = .ok (.goto (-46), 3) := by decide +kernel
theorem dX5_countAndErase_53 : decode cX5_countAndErase 53 = .ok (.iload_n 1, 1) := by decide +kernel
theorem dX5_countAndErase_54 : decode cX5_countAndErase 54 = .ok (.ireturn, 1) := by decide +kernel
set_option maxHeartbeats 4000000 in
set_option maxRecDepth 100000 in
theorem ct_X5_countAndErase (l : Launch) (D : va_G) (ce : Nat → ClassId) (h pl ar : Nat → Nat) (G : Nat → Int) (L : Nat → Nat → Int64) (B : Nat → Int) (J : Nat → Nat → Int64)  : Ct l yX5_countAndErase cX5_countAndErase 4 (some .int) { frames := 0, cells := 0, slots := 0, locals := 0 } 0 0 D (TY ce) [.ref (h 1)] (cW ce h pl ar G L B J) (QI D (TY ce) (fun r w1 => ∃ z : Int, ∃ L2 : Nat → Nat → Int64, r = zI z ∧ w1 = cW ce h pl ar G L2 B J ∧ (z = cntB (fun q => L (q / 5) (q % 5)) 15) ∧ (∀ q : Int, 0 ≤ q → q < 15 → L2 (q.toNat / 5) (q.toNat % 5) = 0) ∧ (∀ k, k ≠ 0 → k ≠ 1 → k ≠ 2 → L2 k = L k))) := by
  refine Ct.ofI (by decide) (Nat.le_of_ble_eq_true rfl) ?_
  intro p e s m args below meth c A Q hX hnm hR
  refine Z.pick (lv' := [(0, .ref (h 1))]) [0] rfl ?_
  refine Z.iconst hX dX5_countAndErase_0 ?_
  refine Z.istore_n (lv' := [(1, .int (zI 0)), (0, .ref (h 1))]) hX dX5_countAndErase_1 rfl (by decide) rfl ?_
  refine Z.iconst hX dX5_countAndErase_2 ?_
  refine Z.istore_n (lv' := [(2, .int (zI 0)), (1, .int (zI 0)), (0, .ref (h 1))]) hX dX5_countAndErase_3 rfl (by decide) rfl ?_
  have key_4 : ∀ (N : Nat), ∀ (w_ n : Int) (M : Nat → Nat → Int64), (3 - w_).toNat < N → (hw : 0 ≤ w_ ∧ w_ ≤ 3) → (hn : n = cntB (fun q => L (q / 5) (q % 5)) (5 * w_).toNat) → (hM : erI L M (5 * w_)) → (hf : ∀ k, k ≠ 0 → k ≠ 1 → k ≠ 2 → M k = L k) → (hn2 : 0 ≤ n ∧ n ≤ 5 * w_) → Z p l e { frames := 0, cells := 0, slots := 0, locals := 0 } s m args below meth c D A 4 0 0 Q 4 [(2, .int (zI w_)), (1, .int (zI n)), (0, .ref (h 1))] [] (cW ce h pl ar G M B J) := by
    intro N
    induction N with
    | zero => intro w_ n M hm; exact absurd hm (Nat.not_lt_zero _)
    | succ N ih_4 =>
      intro w_ n M hm hw hn hM hf hn2
      refine Z.iload_n hX dX5_countAndErase_4 rfl rfl ?_
      refine Z.iconst hX dX5_countAndErase_5 ?_
      refine Z.icmp_ge hX 53 dX5_countAndErase_6 (by decide) ⟨by omega, by omega⟩ ⟨by omega, by omega⟩ ?_ ?_
      · intro c1
        refine Z.iload_n hX dX5_countAndErase_53 rfl rfl ?_
        exact hR _ _ _ _ dX5_countAndErase_54 ⟨n, M, rfl, rfl, (by rw [hn, show 5 * w_ = 15 by omega]; rfl), (er_e (by rw [show (15 : Int) = 5 * w_ by omega]; exact hM)), hf⟩
      · intro c1
        refine Z.iconst hX dX5_countAndErase_9 ?_
        refine Z.istore_n (lv' := [(3, .int (zI 0)), (2, .int (zI w_)), (1, .int (zI n)), (0, .ref (h 1))]) hX dX5_countAndErase_10 rfl (by decide) rfl ?_
        have key_11 : ∀ (N : Nat), ∀ (i n : Int) (M : Nat → Nat → Int64), (5 - i).toNat < N → (hi : 0 ≤ i ∧ i ≤ 5) → (hn : n = cntB (fun q => L (q / 5) (q % 5)) (5 * w_ + i).toNat) → (hM : erI L M (5 * w_ + i)) → (hf : ∀ k, k ≠ 0 → k ≠ 1 → k ≠ 2 → M k = L k) → (hn2 : 0 ≤ n ∧ n ≤ 5 * w_ + i) → Z p l e { frames := 0, cells := 0, slots := 0, locals := 0 } s m args below meth c D A 4 0 0 Q 11 [(3, .int (zI i)), (2, .int (zI w_)), (1, .int (zI n)), (0, .ref (h 1))] [] (cW ce h pl ar G M B J) := by
          intro N
          induction N with
          | zero => intro i n M hm; exact absurd hm (Nat.not_lt_zero _)
          | succ N ih_11 =>
            intro i n M hm hi hn hM hf hn2
            refine Z.iload_n hX dX5_countAndErase_11 rfl rfl ?_
            refine Z.iconst hX dX5_countAndErase_12 ?_
            refine Z.icmp_ge hX 47 dX5_countAndErase_13 (by decide) ⟨by omega, by omega⟩ ⟨by omega, by omega⟩ ?_ ?_
            · intro c2
              refine Z.iinc (lv' := [(2, .int (zI (w_ + 1))), (3, .int (zI i)), (1, .int (zI n)), (0, .ref (h 1))]) hX dX5_countAndErase_47 rfl (by decide) rfl ?_
              refine Z.goto hX 4 dX5_countAndErase_50 (by decide) ?_
              refine Z.pick [0, 2, 3] rfl ?_
              exact ih_4 _ _ _ (by omega) (by omega) (by rw [hn, show 5 * (w_ + 1) = 5 * w_ + i by omega]) (by rw [show 5 * (w_ + 1) = 5 * w_ + i by omega]; exact hM) hf (by omega)
            · intro c2
              refine Z.aload_n hX dX5_countAndErase_16 rfl rfl ?_
              refine Z.getf hX 5 1 0 dX5_countAndErase_17 rfl rfl inX5 (by decide) fl_X5_11 rfl rfl ?_
              refine Z.iload_n hX dX5_countAndErase_20 rfl rfl ?_
              refine Z.aaload hX 9 3 dX5_countAndErase_21 rfl rfl rfl (by omega) (by omega) (by decide) rfl ?_
              refine Z.iload_n hX dX5_countAndErase_22 rfl rfl ?_
              refine Z.laload hX (18 + (w_ : Int).toNat) 1 dX5_countAndErase_23 (cW_in (by omega)) rfl (by omega) (by omega) (by decide) ?_
              refine Z.lconst (v := 0) hX dX5_countAndErase_24 rfl ?_
              refine Z.lcmp_eq hX 41 dX5_countAndErase_25 dX5_countAndErase_26 (by decide) ?_ ?_
              · intro c3
                refine Z.iinc (lv' := [(3, .int (zI (i + 1))), (2, .int (zI w_)), (1, .int (zI n)), (0, .ref (h 1))]) hX dX5_countAndErase_41 rfl (by decide) rfl ?_
                refine Z.goto hX 11 dX5_countAndErase_44 (by decide) ?_
                refine Z.pick [0, 1, 2, 3] rfl ?_
                exact ih_11 _ _ _ (by omega) (by omega) (cntB_s hw.1 hi.1 (by omega) hn hM (Or.inl ⟨by assumption, rfl⟩)) (erI_z hw.1 hi.1 (by omega) hM (by assumption)) hf (by omega)
              · intro c3
                refine Z.iinc (lv' := [(1, .int (zI (n + 1))), (3, .int (zI i)), (2, .int (zI w_)), (0, .ref (h 1))]) hX dX5_countAndErase_29 rfl (by decide) rfl ?_
                refine Z.aload_n hX dX5_countAndErase_32 rfl rfl ?_
                refine Z.getf hX 5 1 0 dX5_countAndErase_33 rfl rfl inX5 (by decide) fl_X5_11 rfl rfl ?_
                refine Z.iload_n hX dX5_countAndErase_36 rfl rfl ?_
                refine Z.aaload hX 9 3 dX5_countAndErase_37 rfl rfl rfl (by omega) (by omega) (by decide) rfl ?_
                refine Z.iload_n hX dX5_countAndErase_38 rfl rfl ?_
                refine Z.lconst (v := 0) hX dX5_countAndErase_39 rfl ?_
                refine Z.lastore hX (18 + (w_ : Int).toNat) 1 dX5_countAndErase_40 (cW_in (by omega)) rfl (by omega) (by omega) (by decide) ?_
                obtain ⟨L4, eL4⟩ : ∃ J' : Nat → Nat → Int64, J' = va_up M ((w_ : Int).toNat) (vp_updL (M ((w_ : Int).toNat)) (i : Int).toNat (0)) := ⟨_, rfl⟩
                refine Z.toW (w' := cW ce h pl ar G L4 B J) (by rw [eL4]; exact cW_setL (by omega)) ?_
                have gL4 : L4 ((w_ : Int).toNat) = vp_updL (M ((w_ : Int).toNat)) (i : Int).toNat (0) := by rw [eL4]; exact up_eq
                have fL4 : ∀ j_, j_ ≠ (w_ : Int).toNat → L4 j_ = M j_ := fun j_ hj_ => by rw [eL4]; exact up_ne hj_
                refine Z.iinc (lv' := [(3, .int (zI (i + 1))), (1, .int (zI (n + 1))), (2, .int (zI w_)), (0, .ref (h 1))]) hX dX5_countAndErase_41 rfl (by decide) rfl ?_
                refine Z.goto hX 11 dX5_countAndErase_44 (by decide) ?_
                refine Z.pick [0, 2, 1, 3] rfl ?_
                exact ih_11 _ _ _ (by omega) (by omega) (cntB_s hw.1 hi.1 (by omega) hn hM (Or.inr ⟨by assumption, rfl⟩)) (erI_s hw.1 hi.1 (by omega) hM gL4 fL4) (er_f (by omega) fL4 hf) (by omega)
        refine Z.pick [0, 1, 2, 3] rfl ?_
        exact key_11 _ _ _ _ (Nat.lt_succ_self _) (by omega) (by rw [Int.add_zero]; exact hn) (by rw [Int.add_zero]; exact hM) hf (by omega)
  refine Z.pick [0, 1, 2] rfl ?_
  exact key_4 _ _ _ _ (Nat.lt_succ_self _) (by omega) rfl (erI_0 L) (fun _ _ _ _ => rfl) (by omega)
end
section
theorem dX1_swap_0 : decode cX1_swap 0 = .ok (.aload_n 0, 1) := by decide +kernel
theorem dX1_swap_1 : decode cX1_swap 1 = .ok (.getfield 9, 3) := by decide +kernel
theorem dX1_swap_4 : decode cX1_swap 4 = .ok (.iconst 0, 1) := by decide +kernel
theorem dX1_swap_5 : decode cX1_swap 5 = .ok (.aload_n 0, 1) := by decide +kernel
theorem dX1_swap_6 : decode cX1_swap 6 = .ok (.getfield 18, 3) := by decide +kernel
theorem dX1_swap_9 : decode cX1_swap 9 = .ok (.iconst 0, 1) := by decide +kernel
theorem dX1_swap_10 : decode cX1_swap 10 = .ok (.iconst 5, 1) := by decide +kernel
theorem dX1_swap_11 : decode cX1_swap 11 = .ok (.invokestatic 33, 3) := by decide +kernel
theorem dX1_swap_14 : decode cX1_swap 14 = .ok (.aload_n 0, 1) := by decide +kernel
theorem dX1_swap_15 : decode cX1_swap 15 = .ok (.getfield 15, 3) := by decide +kernel
theorem dX1_swap_18 : decode cX1_swap 18 = .ok (.iconst 0, 1) := by decide +kernel
theorem dX1_swap_19 : decode cX1_swap 19 = .ok (.aload_n 0, 1) := by decide +kernel
theorem dX1_swap_20 : decode cX1_swap 20 = .ok (.getfield 9, 3) := by decide +kernel
theorem dX1_swap_23 : decode cX1_swap 23 = .ok (.iconst 0, 1) := by decide +kernel
theorem dX1_swap_24 : decode cX1_swap 24 = .ok (.iconst 5, 1) := by decide +kernel
theorem dX1_swap_25 : decode cX1_swap 25 = .ok (.invokestatic 33, 3) := by decide +kernel
theorem dX1_swap_28 : decode cX1_swap 28 = .ok (.aload_n 0, 1) := by decide +kernel
theorem dX1_swap_29 : decode cX1_swap 29 = .ok (.getfield 18, 3) := by decide +kernel
theorem dX1_swap_32 : decode cX1_swap 32 = .ok (.iconst 0, 1) := by decide +kernel
theorem dX1_swap_33 : decode cX1_swap 33 = .ok (.aload_n 0, 1) := by decide +kernel
theorem dX1_swap_34 : decode cX1_swap 34 = .ok (.getfield 15, 3) := by decide +kernel
theorem dX1_swap_37 : decode cX1_swap 37 = .ok (.iconst 0, 1) := by decide +kernel
theorem dX1_swap_38 : decode cX1_swap 38 = .ok (.iconst 5, 1) := by decide +kernel
theorem dX1_swap_39 : decode cX1_swap 39 = .ok (.invokestatic 33, 3) := by decide +kernel
theorem dX1_swap_42 : decode cX1_swap 42 = .ok (.return_, 1) := by decide +kernel
set_option maxHeartbeats 4000000 in
set_option maxRecDepth 100000 in
theorem ct_X1_swap (l : Launch) (D : va_G) (ce : Nat → ClassId) (h pl ar : Nat → Nat) (G : Nat → Int) (L : Nat → Nat → Int64) (B : Nat → Int) (J : Nat → Nat → Int64)  : Ct l yX1_swap cX1_swap 1 none { frames := 1, cells := 0, slots := 0, locals := 40 } 0 0 D (TY ce) [.ref (h 3)] (cW ce h pl ar G L B J) (QV D (TY ce) (fun w1 => ∃ L2 : Nat → Nat → Int64, w1 = cW ce h pl ar G L2 B J ∧ (∀ k, k ≠ 6 → k ≠ 7 → k ≠ 8 → L2 k = L k))) := by
  refine Ct.ofV (by decide) (Nat.le_of_ble_eq_true rfl) ?_
  intro p e s m args below meth c A Q hX hnm hR
  refine Z.pick (lv' := [(0, .ref (h 3))]) [0] rfl ?_
  refine Z.aload_n hX dX1_swap_0 rfl rfl ?_
  refine Z.getf hX 1 3 0 dX1_swap_1 rfl rfl inX1 (by decide) fl_X1_9 rfl rfl ?_
  refine Z.iconst hX dX1_swap_4 ?_
  refine Z.aload_n hX dX1_swap_5 rfl rfl ?_
  refine Z.getf hX 1 3 2 dX1_swap_6 rfl rfl inX1 (by decide) fl_X1_18 rfl rfl ?_
  refine Z.iconst hX dX1_swap_9 ?_
  refine Z.iconst hX dX1_swap_10 ?_
  refine Z.copyA hX 11 13 1 dX1_swap_11 rfl rfl rfl rfl (by decide) ml_X1_33 (by decide) (Nat.le_of_ble_eq_true rfl) ?_
  obtain ⟨L1, eL1⟩ : ∃ J' : Nat → Nat → Int64, J' = va_up L 8 (va_cpy (L 6) (L 8) 0 0 5) := ⟨_, rfl⟩
  refine Z.toW (w' := cW ce h pl ar G L1 B J) (by rw [eL1]; rfl) ?_
  have gL1 : L1 8 = va_cpy (L 6) (L 8) 0 0 5 := by rw [eL1]; exact up_eq
  have fL1 : ∀ j_, j_ ≠ 8 → L1 j_ = L j_ := fun j_ hj_ => by rw [eL1]; exact up_ne hj_
  refine Z.aload_n hX dX1_swap_14 rfl rfl ?_
  refine Z.getf hX 1 3 1 dX1_swap_15 rfl rfl inX1 (by decide) fl_X1_15 rfl rfl ?_
  refine Z.iconst hX dX1_swap_18 ?_
  refine Z.aload_n hX dX1_swap_19 rfl rfl ?_
  refine Z.getf hX 1 3 0 dX1_swap_20 rfl rfl inX1 (by decide) fl_X1_9 rfl rfl ?_
  refine Z.iconst hX dX1_swap_23 ?_
  refine Z.iconst hX dX1_swap_24 ?_
  refine Z.copyA hX 12 11 1 dX1_swap_25 rfl rfl rfl rfl (by decide) ml_X1_33 (by decide) (Nat.le_of_ble_eq_true rfl) ?_
  obtain ⟨L2, eL2⟩ : ∃ J' : Nat → Nat → Int64, J' = va_up L1 6 (va_cpy (L1 7) (L1 6) 0 0 5) := ⟨_, rfl⟩
  refine Z.toW (w' := cW ce h pl ar G L2 B J) (by rw [eL2]; rfl) ?_
  have gL2 : L2 6 = va_cpy (L1 7) (L1 6) 0 0 5 := by rw [eL2]; exact up_eq
  have fL2 : ∀ j_, j_ ≠ 6 → L2 j_ = L1 j_ := fun j_ hj_ => by rw [eL2]; exact up_ne hj_
  refine Z.aload_n hX dX1_swap_28 rfl rfl ?_
  refine Z.getf hX 1 3 2 dX1_swap_29 rfl rfl inX1 (by decide) fl_X1_18 rfl rfl ?_
  refine Z.iconst hX dX1_swap_32 ?_
  refine Z.aload_n hX dX1_swap_33 rfl rfl ?_
  refine Z.getf hX 1 3 1 dX1_swap_34 rfl rfl inX1 (by decide) fl_X1_15 rfl rfl ?_
  refine Z.iconst hX dX1_swap_37 ?_
  refine Z.iconst hX dX1_swap_38 ?_
  refine Z.copyA hX 13 12 1 dX1_swap_39 rfl rfl rfl rfl (by decide) ml_X1_33 (by decide) (Nat.le_of_ble_eq_true rfl) ?_
  obtain ⟨L3, eL3⟩ : ∃ J' : Nat → Nat → Int64, J' = va_up L2 7 (va_cpy (L2 8) (L2 7) 0 0 5) := ⟨_, rfl⟩
  refine Z.toW (w' := cW ce h pl ar G L3 B J) (by rw [eL3]; rfl) ?_
  have gL3 : L3 7 = va_cpy (L2 8) (L2 7) 0 0 5 := by rw [eL3]; exact up_eq
  have fL3 : ∀ j_, j_ ≠ 7 → L3 j_ = L2 j_ := fun j_ hj_ => by rw [eL3]; exact up_ne hj_
  exact hR _ _ _ dX1_swap_42 ⟨L3, rfl, (fun j_ h_6 h_7 h_8 => ((fL3 j_ h_7).trans ((fL2 j_ h_6).trans ((fL1 j_ h_8).trans rfl))))⟩

theorem dX1_lowerShared_0 : decode cX1_lowerShared 0 = .ok (.aload_n 0, 1) := by decide +kernel
theorem dX1_lowerShared_1 : decode cX1_lowerShared 1 = .ok (.getfield 9, 3) := by decide +kernel
theorem dX1_lowerShared_4 : decode cX1_lowerShared 4 = .ok (.iload_n 1, 1) := by decide +kernel
theorem dX1_lowerShared_5 : decode cX1_lowerShared 5 = .ok (.laload, 1) := by decide +kernel
theorem dX1_lowerShared_6 : decode cX1_lowerShared 6 = .ok (.aload_n 0, 1) := by decide +kernel
theorem dX1_lowerShared_7 : decode cX1_lowerShared 7 = .ok (.getfield 15, 3) := by decide +kernel
theorem dX1_lowerShared_10 : decode cX1_lowerShared 10 = .ok (.iload_n 2, 1) := by decide +kernel
theorem dX1_lowerShared_11 : decode cX1_lowerShared 11 = .ok (.laload, 1) := by decide +kernel
theorem dX1_lowerShared_12 : decode cX1_lowerShared 12 = .ok (.invokestatic 60, 3) := by decide +kernel
theorem dX1_lowerShared_15 : decode cX1_lowerShared 15 = .ok (.lstore_n 3, 1) := by decide +kernel
theorem dX1_lowerShared_16 : decode cX1_lowerShared 16 = .ok (.lload_n 3, 1) := by decide +kernel
theorem dX1_lowerShared_17 : decode cX1_lowerShared 17 = .ok (.lconst 0, 1) := by decide +kernel
theorem dX1_lowerShared_18 : decode cX1_lowerShared 18 = .ok (.lcmp, 1) := by decide +kernel
theorem dX1_lowerShared_19 : decode cX1_lowerShared 19 = .ok (.ifCond .ne 4, 3) := by decide +kernel
theorem dX1_lowerShared_22 : decode cX1_lowerShared 22 = .ok (.return_, 1) := by decide +kernel
theorem dX1_lowerShared_23 : decode cX1_lowerShared 23 = .ok (.aload_n 0, 1) := by decide +kernel
theorem dX1_lowerShared_24 : decode cX1_lowerShared 24 = .ok (.getfield 15, 3) := by decide +kernel
theorem dX1_lowerShared_27 : decode cX1_lowerShared 27 = .ok (.iload_n 2, 1) := by decide +kernel
theorem dX1_lowerShared_28 : decode cX1_lowerShared 28 = .ok (.laload, 1) := by decide +kernel
theorem dX1_lowerShared_29 : decode cX1_lowerShared 29 = .ok (.lload_n 3, 1) := by decide +kernel
theorem dX1_lowerShared_30 : decode cX1_lowerShared 30 = .ok (.ldiv, 1) := by decide +kernel
theorem dX1_lowerShared_31 : decode cX1_lowerShared 31 = .ok (.lstore 5, 2) := by decide +kernel
theorem dX1_lowerShared_33 : decode cX1_lowerShared 33 = .ok (.aload_n 0, 1) := by decide +kernel
theorem dX1_lowerShared_34 : decode cX1_lowerShared 34 = .ok (.getfield 9, 3) := by decide +kernel
theorem dX1_lowerShared_37 : decode cX1_lowerShared 37 = .ok (.iload_n 1, 1) := by decide +kernel
theorem dX1_lowerShared_38 : decode cX1_lowerShared 38 = .ok (.laload, 1) := by decide +kernel
theorem dX1_lowerShared_39 : decode cX1_lowerShared 39 = .ok (.lload_n 3, 1) := by decide +kernel
theorem dX1_lowerShared_40 : decode cX1_lowerShared 40 = .ok (.ldiv, 1) := by decide +kernel
theorem dX1_lowerShared_41 : decode cX1_lowerShared 41 = .ok (.lstore 7, 2) := by decide +kernel
theorem dX1_lowerShared_43 : decode cX1_lowerShared 43 = .ok (.iload_n 1, 1) := by decide +kernel
theorem dX1_lowerShared_44 : decode cX1_lowerShared 44 = .ok (.iload_n 2, 1) := by decide +kernel
theorem dX1_lowerShared_45 : decode cX1_lowerShared 45 = .ok (.isub, 1) := by decide +kernel
theorem dX1_lowerShared_46 : decode cX1_lowerShared 46 = .ok (.istore 9, 2) := by decide +kernel
theorem dX1_lowerShared_48 : decode cX1_lowerShared 48 = .ok (.iconst 0, 1) := by decide +kernel
theorem dX1_lowerShared_49 : decode cX1_lowerShared 49 = .ok (.istore 10, 2) := by decide +kernel
theorem dX1_lowerShared_51 : decode cX1_lowerShared 51 = .ok (.iload 10, 2) := by decide +kernel
theorem dX1_lowerShared_53 : decode cX1_lowerShared 53 = .ok (.iload_n 1, 1) := by decide +kernel
theorem dX1_lowerShared_54 : decode cX1_lowerShared 54 = .ok (.if_icmp .gt 55, 3) := by decide +kernel
theorem dX1_lowerShared_57 : decode cX1_lowerShared 57 = .ok (.iload 10, 2) := by decide +kernel
theorem dX1_lowerShared_59 : decode cX1_lowerShared 59 = .ok (.iload 9, 2) := by decide +kernel
theorem dX1_lowerShared_61 : decode cX1_lowerShared 61 = .ok (.if_icmp .ge 7, 3) := by decide +kernel
theorem dX1_lowerShared_64 : decode cX1_lowerShared 64 = .ok (.lconst 0, 1) := by decide +kernel
theorem dX1_lowerShared_65 : decode cX1_lowerShared 65 = .ok (.goto 16, 3) := by decide +kernel
theorem dX1_lowerShared_68 : decode cX1_lowerShared 68 = .ok (.lload 7, 2) := by decide +kernel
theorem dX1_lowerShared_70 : decode cX1_lowerShared 70 = .ok (.aload_n 0, 1) := by decide +kernel
theorem dX1_lowerShared_71 : decode cX1_lowerShared 71 = .ok (.getfield 15, 3) := by decide +kernel
theorem dX1_lowerShared_74 : decode cX1_lowerShared 74 = .ok (.iload 10, 2) := by decide +kernel
theorem dX1_lowerShared_76 : decode cX1_lowerShared 76 = .ok (.iload 9, 2) := by decide +kernel
theorem dX1_lowerShared_78 : decode cX1_lowerShared 78 = .ok (.isub, 1) := by decide +kernel
theorem dX1_lowerShared_79 : decode cX1_lowerShared 79 = .ok (.laload, 1) := by decide +kernel
theorem dX1_lowerShared_80 : decode cX1_lowerShared 80 = .ok (.lmul, 1) := by decide +kernel
theorem dX1_lowerShared_81 : decode cX1_lowerShared 81 = .ok (.lstore 11, 2) := by decide +kernel
theorem dX1_lowerShared_83 : decode cX1_lowerShared 83 = .ok (.aload_n 0, 1) := by decide +kernel
theorem dX1_lowerShared_84 : decode cX1_lowerShared 84 = .ok (.getfield 9, 3) := by decide +kernel
theorem dX1_lowerShared_87 : decode cX1_lowerShared 87 = .ok (.iload 10, 2) := by decide +kernel
theorem dX1_lowerShared_89 : decode cX1_lowerShared 89 = .ok (.lload 5, 2) := by decide +kernel
theorem dX1_lowerShared_91 : decode cX1_lowerShared 91 = .ok (.aload_n 0, 1) := by decide +kernel
theorem dX1_lowerShared_92 : decode cX1_lowerShared 92 = .ok (.getfield 9, 3) := by decide +kernel
theorem dX1_lowerShared_95 : decode cX1_lowerShared 95 = .ok (.iload 10, 2) := by decide +kernel
theorem dX1_lowerShared_97 : decode cX1_lowerShared 97 = .ok (.laload, 1) := by decide +kernel
theorem dX1_lowerShared_98 : decode cX1_lowerShared 98 = .ok (.lmul, 1) := by decide +kernel
theorem dX1_lowerShared_99 : decode cX1_lowerShared 99 = .ok (.lload 11, 2) := by decide +kernel
theorem dX1_lowerShared_101 : decode cX1_lowerShared 101 = .ok (.lsub, 1) := by decide +kernel
theorem dX1_lowerShared_102 : decode cX1_lowerShared 102 = .ok (.lastore, 1) := by decide +kernel
theorem dX1_lowerShared_103 : decode cX1_lowerShared 103 = .ok (.iinc 10 1, 3) := by decide +kernel
theorem dX1_lowerShared_106 : decode cX1_lowerShared 106 = .ok (.goto (-55), 3) := by decide +kernel
theorem dX1_lowerShared_109 : decode cX1_lowerShared 109 = .ok (.return_, 1) := by decide +kernel
set_option maxHeartbeats 4000000 in
set_option maxRecDepth 100000 in
theorem ct_X1_lowerShared (l : Launch) (D : va_G) (ce : Nat → ClassId) (h pl ar : Nat → Nat) (G : Nat → Int) (L : Nat → Nat → Int64) (B : Nat → Int) (J : Nat → Nat → Int64) (st_ ot : Int) (hs : 0 ≤ ot ∧ ot ≤ st_ ∧ st_ ≤ 4) : Ct l yX1_lowerShared cX1_lowerShared 13 none { frames := 1, cells := 0, slots := 0, locals := 30 } 0 0 D (TY ce) [.ref (h 3), .int (zI st_), .int (zI ot)] (cW ce h pl ar G L B J) (QV D (TY ce) (fun w1 => ∃ L2 : Nat → Nat → Int64, w1 = cW ce h pl ar G L2 B J ∧ (∀ k, k ≠ 6 → L2 k = L k))) := by
  refine Ct.ofV (by decide) (Nat.le_of_ble_eq_true rfl) ?_
  intro p e s m args below meth c A Q hX hnm hR
  refine Z.pick (lv' := [(0, .ref (h 3)), (1, .int (zI st_)), (2, .int (zI ot))]) [0, 1, 2] rfl ?_
  refine Z.aload_n hX dX1_lowerShared_0 rfl rfl ?_
  refine Z.getf hX 1 3 0 dX1_lowerShared_1 rfl rfl inX1 (by decide) fl_X1_9 rfl rfl ?_
  refine Z.iload_n hX dX1_lowerShared_4 rfl rfl ?_
  refine Z.laload hX 11 1 dX1_lowerShared_5 rfl rfl (by omega) (by omega) (by decide) ?_
  refine Z.aload_n hX dX1_lowerShared_6 rfl rfl ?_
  refine Z.getf hX 1 3 1 dX1_lowerShared_7 rfl rfl inX1 (by decide) fl_X1_15 rfl rfl ?_
  refine Z.iload_n hX dX1_lowerShared_10 rfl rfl ?_
  refine Z.laload hX 12 1 dX1_lowerShared_11 rfl rfl (by omega) (by omega) (by decide) ?_
  refine Z.callSNl (As := [.long (L 6 (st_ : Int).toNat), .long (L 7 (ot : Int).toNat)]) (rest := []) hX (ct_X6_commonOf l D ce (L 6 (st_ : Int).toNat) (L 7 (ot : Int).toNat) ) mc_X6_commonOf ns_X1_60 st_X6_commonOf ini_X6 nd_X6_commonOf ⟨Nat.le_of_ble_eq_true rfl, Nat.le_of_ble_eq_true rfl⟩ ⟨rfl, rfl⟩ ⟨Nat.le_refl _, Nat.le_refl _⟩ rfl (Nat.le_of_ble_eq_true rfl) dX1_lowerShared_12 ?_
  rintro cm w1 ⟨r02, hr_, hw_, hq3⟩
  subst hr_
  refine ⟨hw_, ?_⟩
  refine Z.lstore_n (lv' := [(3, .long cm), (0, .ref (h 3)), (1, .int (zI st_)), (2, .int (zI ot))]) hX dX1_lowerShared_15 rfl (by decide) rfl ?_
  refine Z.lload_n hX dX1_lowerShared_16 rfl rfl ?_
  refine Z.lconst (v := 0) hX dX1_lowerShared_17 rfl ?_
  refine Z.lcmp_ne hX 23 dX1_lowerShared_18 dX1_lowerShared_19 (by decide) ?_ ?_
  · intro c4
    refine Z.aload_n hX dX1_lowerShared_23 rfl rfl ?_
    refine Z.getf hX 1 3 1 dX1_lowerShared_24 rfl rfl inX1 (by decide) fl_X1_15 rfl rfl ?_
    refine Z.iload_n hX dX1_lowerShared_27 rfl rfl ?_
    refine Z.laload hX 12 1 dX1_lowerShared_28 rfl rfl (by omega) (by omega) (by decide) ?_
    refine Z.lload_n hX dX1_lowerShared_29 rfl rfl ?_
    refine Z.ldiv hX dX1_lowerShared_30 (by assumption) ?_
    refine Z.lstore (lv' := [(5, .long ((L 7 (ot : Int).toNat) / cm)), (3, .long cm), (0, .ref (h 3)), (1, .int (zI st_)), (2, .int (zI ot))]) hX dX1_lowerShared_31 (by decide) rfl ?_
    obtain ⟨sf, esf⟩ : ∃ x : Int64, x = (L 7 (ot : Int).toNat) / cm := ⟨_, rfl⟩
    rw [← esf]
    refine Z.aload_n hX dX1_lowerShared_33 rfl rfl ?_
    refine Z.getf hX 1 3 0 dX1_lowerShared_34 rfl rfl inX1 (by decide) fl_X1_9 rfl rfl ?_
    refine Z.iload_n hX dX1_lowerShared_37 rfl rfl ?_
    refine Z.laload hX 11 1 dX1_lowerShared_38 rfl rfl (by omega) (by omega) (by decide) ?_
    refine Z.lload_n hX dX1_lowerShared_39 rfl rfl ?_
    refine Z.ldiv hX dX1_lowerShared_40 (by assumption) ?_
    refine Z.lstore (lv' := [(7, .long ((L 6 (st_ : Int).toNat) / cm)), (5, .long sf), (3, .long cm), (0, .ref (h 3)), (1, .int (zI st_)), (2, .int (zI ot))]) hX dX1_lowerShared_41 (by decide) rfl ?_
    obtain ⟨of, eof⟩ : ∃ x : Int64, x = (L 6 (st_ : Int).toNat) / cm := ⟨_, rfl⟩
    rw [← eof]
    refine Z.iload_n hX dX1_lowerShared_43 rfl rfl ?_
    refine Z.iload_n hX dX1_lowerShared_44 rfl rfl ?_
    refine Z.isub hX dX1_lowerShared_45 ?_
    refine Z.istore (lv' := [(9, .int (zI (st_ - ot))), (7, .long of), (5, .long sf), (3, .long cm), (0, .ref (h 3)), (1, .int (zI st_)), (2, .int (zI ot))]) hX dX1_lowerShared_46 (by decide) rfl ?_
    refine Z.iconst hX dX1_lowerShared_48 ?_
    refine Z.istore (lv' := [(10, .int (zI 0)), (9, .int (zI (st_ - ot))), (7, .long of), (5, .long sf), (3, .long cm), (0, .ref (h 3)), (1, .int (zI st_)), (2, .int (zI ot))]) hX dX1_lowerShared_49 (by decide) rfl ?_
    have key_51 : ∀ (N : Nat), ∀ (i : Int) (M : Nat → Nat → Int64), (st_ + 1 - i).toNat < N → (hi : 0 ≤ i ∧ i ≤ st_ + 1) → (hM : ∀ k, k ≠ 6 → M k = L k) → Z p l e { frames := 1, cells := 0, slots := 0, locals := 30 } s m args below meth c D A 13 0 0 Q 51 [(10, .int (zI i)), (9, .int (zI (st_ - ot))), (7, .long of), (5, .long sf), (2, .int (zI ot)), (1, .int (zI st_)), (0, .ref (h 3))] [] (cW ce h pl ar G M B J) := by
      intro N
      induction N with
      | zero => intro i M hm; exact absurd hm (Nat.not_lt_zero _)
      | succ N ih_51 =>
        intro i M hm hi hM
        refine Z.iload hX dX1_lowerShared_51 rfl ?_
        refine Z.iload_n hX dX1_lowerShared_53 rfl rfl ?_
        refine Z.icmp_gt hX 109 dX1_lowerShared_54 (by decide) ⟨by omega, by omega⟩ ⟨by omega, by omega⟩ ?_ ?_
        · intro c5
          exact hR _ _ _ dX1_lowerShared_109 ⟨M, rfl, hM⟩
        · intro c5
          refine Z.iload hX dX1_lowerShared_57 rfl ?_
          refine Z.iload hX dX1_lowerShared_59 rfl ?_
          refine Z.icmp_ge hX 68 dX1_lowerShared_61 (by decide) ⟨by omega, by omega⟩ ⟨by omega, by omega⟩ ?_ ?_
          · intro c6
            refine Z.lload hX dX1_lowerShared_68 rfl ?_
            refine Z.aload_n hX dX1_lowerShared_70 rfl rfl ?_
            refine Z.getf hX 1 3 1 dX1_lowerShared_71 rfl rfl inX1 (by decide) fl_X1_15 rfl rfl ?_
            refine Z.iload hX dX1_lowerShared_74 rfl ?_
            refine Z.iload hX dX1_lowerShared_76 rfl ?_
            refine Z.isub hX dX1_lowerShared_78 ?_
            refine Z.laload hX 12 1 dX1_lowerShared_79 rfl rfl (by omega) (by omega) (by decide) ?_
            refine Z.lmul hX dX1_lowerShared_80 ?_
            refine Z.lstore (lv' := [(11, .long (of * (M 7 (i - (st_ - ot) : Int).toNat))), (10, .int (zI i)), (9, .int (zI (st_ - ot))), (7, .long of), (5, .long sf), (2, .int (zI ot)), (1, .int (zI st_)), (0, .ref (h 3))]) hX dX1_lowerShared_81 (by decide) rfl ?_
            refine Z.aload_n hX dX1_lowerShared_83 rfl rfl ?_
            refine Z.getf hX 1 3 0 dX1_lowerShared_84 rfl rfl inX1 (by decide) fl_X1_9 rfl rfl ?_
            refine Z.iload hX dX1_lowerShared_87 rfl ?_
            refine Z.lload hX dX1_lowerShared_89 rfl ?_
            refine Z.aload_n hX dX1_lowerShared_91 rfl rfl ?_
            refine Z.getf hX 1 3 0 dX1_lowerShared_92 rfl rfl inX1 (by decide) fl_X1_9 rfl rfl ?_
            refine Z.iload hX dX1_lowerShared_95 rfl ?_
            refine Z.laload hX 11 1 dX1_lowerShared_97 rfl rfl (by omega) (by omega) (by decide) ?_
            refine Z.lmul hX dX1_lowerShared_98 ?_
            refine Z.lload hX dX1_lowerShared_99 rfl ?_
            refine Z.lsub hX dX1_lowerShared_101 ?_
            refine Z.lastore hX 11 1 dX1_lowerShared_102 rfl rfl (by omega) (by omega) (by decide) ?_
            obtain ⟨L7, eL7⟩ : ∃ J' : Nat → Nat → Int64, J' = va_up M 6 (vp_updL (M 6) (i : Int).toNat ((sf * (M 6 (i : Int).toNat)) - (of * (M 7 (i - (st_ - ot) : Int).toNat)))) := ⟨_, rfl⟩
            refine Z.toW (w' := cW ce h pl ar G L7 B J) (by rw [eL7]; rfl) ?_
            have gL7 : L7 6 = vp_updL (M 6) (i : Int).toNat ((sf * (M 6 (i : Int).toNat)) - (of * (M 7 (i - (st_ - ot) : Int).toNat))) := by rw [eL7]; exact up_eq
            have fL7 : ∀ j_, j_ ≠ 6 → L7 j_ = M j_ := fun j_ hj_ => by rw [eL7]; exact up_ne hj_
            refine Z.iinc (lv' := [(10, .int (zI (i + 1))), (11, .long (of * (M 7 (i - (st_ - ot) : Int).toNat))), (9, .int (zI (st_ - ot))), (7, .long of), (5, .long sf), (2, .int (zI ot)), (1, .int (zI st_)), (0, .ref (h 3))]) hX dX1_lowerShared_103 rfl (by decide) rfl ?_
            refine Z.goto hX 51 dX1_lowerShared_106 (by decide) ?_
            refine Z.pick [0, 2, 3, 4, 5, 6, 7] rfl ?_
            exact ih_51 _ _ (by omega) (by omega) (fun j_ h_6 => ((fL7 j_ h_6).trans (hM j_ h_6)))
          · intro c6
            refine Z.lconst (v := 0) hX dX1_lowerShared_64 rfl ?_
            refine Z.goto hX 81 dX1_lowerShared_65 (by decide) ?_
            refine Z.lstore (lv' := [(11, .long 0), (10, .int (zI i)), (9, .int (zI (st_ - ot))), (7, .long of), (5, .long sf), (2, .int (zI ot)), (1, .int (zI st_)), (0, .ref (h 3))]) hX dX1_lowerShared_81 (by decide) rfl ?_
            refine Z.aload_n hX dX1_lowerShared_83 rfl rfl ?_
            refine Z.getf hX 1 3 0 dX1_lowerShared_84 rfl rfl inX1 (by decide) fl_X1_9 rfl rfl ?_
            refine Z.iload hX dX1_lowerShared_87 rfl ?_
            refine Z.lload hX dX1_lowerShared_89 rfl ?_
            refine Z.aload_n hX dX1_lowerShared_91 rfl rfl ?_
            refine Z.getf hX 1 3 0 dX1_lowerShared_92 rfl rfl inX1 (by decide) fl_X1_9 rfl rfl ?_
            refine Z.iload hX dX1_lowerShared_95 rfl ?_
            refine Z.laload hX 11 1 dX1_lowerShared_97 rfl rfl (by omega) (by omega) (by decide) ?_
            refine Z.lmul hX dX1_lowerShared_98 ?_
            refine Z.lload hX dX1_lowerShared_99 rfl ?_
            refine Z.lsub hX dX1_lowerShared_101 ?_
            refine Z.lastore hX 11 1 dX1_lowerShared_102 rfl rfl (by omega) (by omega) (by decide) ?_
            obtain ⟨L8, eL8⟩ : ∃ J' : Nat → Nat → Int64, J' = va_up M 6 (vp_updL (M 6) (i : Int).toNat ((sf * (M 6 (i : Int).toNat)) - 0)) := ⟨_, rfl⟩
            refine Z.toW (w' := cW ce h pl ar G L8 B J) (by rw [eL8]; rfl) ?_
            have gL8 : L8 6 = vp_updL (M 6) (i : Int).toNat ((sf * (M 6 (i : Int).toNat)) - 0) := by rw [eL8]; exact up_eq
            have fL8 : ∀ j_, j_ ≠ 6 → L8 j_ = M j_ := fun j_ hj_ => by rw [eL8]; exact up_ne hj_
            refine Z.iinc (lv' := [(10, .int (zI (i + 1))), (11, .long 0), (9, .int (zI (st_ - ot))), (7, .long of), (5, .long sf), (2, .int (zI ot)), (1, .int (zI st_)), (0, .ref (h 3))]) hX dX1_lowerShared_103 rfl (by decide) rfl ?_
            refine Z.goto hX 51 dX1_lowerShared_106 (by decide) ?_
            refine Z.pick [0, 2, 3, 4, 5, 6, 7] rfl ?_
            exact ih_51 _ _ (by omega) (by omega) (fun j_ h_6 => ((fL8 j_ h_6).trans (hM j_ h_6)))
    refine Z.pick [0, 1, 2, 3, 7, 6, 5] rfl ?_
    exact key_51 _ _ _ (Nat.lt_succ_self _) (by omega) (fun _ _ => rfl)
  · intro c4
    exact hR _ _ _ dX1_lowerShared_22 ⟨L, rfl, (fun _ _ => rfl)⟩

theorem dX1_makePrimitive_0 : decode cX1_makePrimitive 0 = .ok (.aload_n 1, 1) := by decide +kernel
theorem dX1_makePrimitive_1 : decode cX1_makePrimitive 1 = .ok (.invokestatic 46, 3) := by decide +kernel
theorem dX1_makePrimitive_4 : decode cX1_makePrimitive 4 = .ok (.istore_n 2, 1) := by decide +kernel
theorem dX1_makePrimitive_5 : decode cX1_makePrimitive 5 = .ok (.iload_n 2, 1) := by decide +kernel
theorem dX1_makePrimitive_6 : decode cX1_makePrimitive 6 = .ok (.ifCond .ge 4, 3) := by decide +kernel
theorem dX1_makePrimitive_9 : decode cX1_makePrimitive 9 = .ok (.return_, 1) := by decide +kernel
theorem dX1_makePrimitive_10 : decode cX1_makePrimitive 10 = .ok (.lconst 0, 1) := by decide +kernel
theorem dX1_makePrimitive_11 : decode cX1_makePrimitive 11 = .ok (.lstore_n 3, 1) := by decide +kernel
theorem dX1_makePrimitive_12 : decode cX1_makePrimitive 12 = .ok (.iconst 0, 1) := by decide +kernel
theorem dX1_makePrimitive_13 : decode cX1_makePrimitive 13 = .ok (.istore 5, 2) := by decide +kernel
theorem dX1_makePrimitive_15 : decode cX1_makePrimitive 15 = .ok (.iload 5, 2) := by decide +kernel
theorem dX1_makePrimitive_17 : decode cX1_makePrimitive 17 = .ok (.iload_n 2, 1) := by decide +kernel
theorem dX1_makePrimitive_18 : decode cX1_makePrimitive 18 = .ok (.if_icmp .gt 18, 3) := by decide +kernel
theorem dX1_makePrimitive_21 : decode cX1_makePrimitive 21 = .ok (.lload_n 3, 1) := by decide +kernel
theorem dX1_makePrimitive_22 : decode cX1_makePrimitive 22 = .ok (.aload_n 1, 1) := by decide +kernel
theorem dX1_makePrimitive_23 : decode cX1_makePrimitive 23 = .ok (.iload 5, 2) := by decide +kernel
theorem dX1_makePrimitive_25 : decode cX1_makePrimitive 25 = .ok (.laload, 1) := by decide +kernel
theorem dX1_makePrimitive_26 : decode cX1_makePrimitive 26 = .ok (.invokestatic 60, 3) := by decide +kernel
theorem dX1_makePrimitive_29 : decode cX1_makePrimitive 29 = .ok (.lstore_n 3, 1) := by decide +kernel
theorem dX1_makePrimitive_30 : decode cX1_makePrimitive 30 = .ok (.iinc 5 1, 3) := by decide +kernel
theorem dX1_makePrimitive_33 : decode cX1_makePrimitive 33 = .ok (.goto (-18), 3) := by decide +kernel
theorem dX1_makePrimitive_36 : decode cX1_makePrimitive 36 = .ok (.lload_n 3, 1) := by decide +kernel
theorem dX1_makePrimitive_37 : decode cX1_makePrimitive 37 = .ok (.lconst 0, 1) := by decide +kernel
theorem dX1_makePrimitive_38 : decode cX1_makePrimitive 38 = .ok (.lcmp, 1) := by decide +kernel
theorem dX1_makePrimitive_39 : decode cX1_makePrimitive 39 = .ok (.ifCond .ne 4, 3) := by decide +kernel
theorem dX1_makePrimitive_42 : decode cX1_makePrimitive 42 = .ok (.return_, 1) := by decide +kernel
theorem dX1_makePrimitive_43 : decode cX1_makePrimitive 43 = .ok (.aload_n 1, 1) := by decide +kernel
theorem dX1_makePrimitive_44 : decode cX1_makePrimitive 44 = .ok (.iload_n 2, 1) := by decide +kernel
theorem dX1_makePrimitive_45 : decode cX1_makePrimitive 45 = .ok (.laload, 1) := by decide +kernel
theorem dX1_makePrimitive_46 : decode cX1_makePrimitive 46 = .ok (.lconst 0, 1) := by decide +kernel
theorem dX1_makePrimitive_47 : decode cX1_makePrimitive 47 = .ok (.lcmp, 1) := by decide +kernel
theorem dX1_makePrimitive_48 : decode cX1_makePrimitive 48 = .ok (.ifCond .ge 6, 3) := by decide +kernel
theorem dX1_makePrimitive_51 : decode cX1_makePrimitive 51 = .ok (.lload_n 3, 1) := by decide +kernel
theorem dX1_makePrimitive_52 : decode cX1_makePrimitive 52 = .ok (.lneg, 1) := by decide +kernel
theorem dX1_makePrimitive_53 : decode cX1_makePrimitive 53 = .ok (.lstore_n 3, 1) := by decide +kernel
theorem dX1_makePrimitive_54 : decode cX1_makePrimitive 54 = .ok (.iconst 0, 1) := by decide +kernel
theorem dX1_makePrimitive_55 : decode cX1_makePrimitive 55 = .ok (.istore 5, 2) := by decide +kernel
theorem dX1_makePrimitive_57 : decode cX1_makePrimitive 57 = .ok (.iload 5, 2) := by decide +kernel
theorem dX1_makePrimitive_59 : decode cX1_makePrimitive 59 = .ok (.iload_n 2, 1) := by decide +kernel
theorem dX1_makePrimitive_60 : decode cX1_makePrimitive 60 = .ok (.if_icmp .gt 17, 3) := by decide +kernel
theorem dX1_makePrimitive_63 : decode cX1_makePrimitive 63 = .ok (.aload_n 1, 1) := by decide +kernel
theorem dX1_makePrimitive_64 : decode cX1_makePrimitive 64 = .ok (.iload 5, 2) := by decide +kernel
theorem dX1_makePrimitive_66 : decode cX1_makePrimitive 66 = .ok (.dup2, 1) := by decide +kernel
theorem dX1_makePrimitive_67 : decode cX1_makePrimitive 67 = .ok (.laload, 1) := by decide +kernel
theorem dX1_makePrimitive_68 : decode cX1_makePrimitive 68 = .ok (.lload_n 3, 1) := by decide +kernel
theorem dX1_makePrimitive_69 : decode cX1_makePrimitive 69 = .ok (.ldiv, 1) := by decide +kernel
theorem dX1_makePrimitive_70 : decode cX1_makePrimitive 70 = .ok (.lastore, 1) := by decide +kernel
theorem dX1_makePrimitive_71 : decode cX1_makePrimitive 71 = .ok (.iinc 5 1, 3) := by decide +kernel
theorem dX1_makePrimitive_74 : decode cX1_makePrimitive 74 = .ok (.goto (-17), 3) := by decide +kernel
theorem dX1_makePrimitive_77 : decode cX1_makePrimitive 77 = .ok (.return_, 1) := by decide +kernel
set_option maxHeartbeats 4000000 in
set_option maxRecDepth 100000 in
theorem ct_X1_makePrimitive (l : Launch) (D : va_G) (ce : Nat → ClassId) (h pl ar : Nat → Nat) (G : Nat → Int) (L : Nat → Nat → Int64) (B : Nat → Int) (J : Nat → Nat → Int64)  : Ct l yX1_makePrimitive cX1_makePrimitive 6 none { frames := 1, cells := 0, slots := 0, locals := 30 } 0 0 D (TY ce) [.ref (h 3), .ref (h 11)] (cW ce h pl ar G L B J) (QV D (TY ce) (fun w1 => ∃ L2 : Nat → Nat → Int64, w1 = cW ce h pl ar G L2 B J ∧ (∀ k, k ≠ 6 → L2 k = L k))) := by
  refine Ct.ofV (by decide) (Nat.le_of_ble_eq_true rfl) ?_
  intro p e s m args below meth c A Q hX hnm hR
  refine Z.pick (lv' := [(0, .ref (h 3)), (1, .ref (h 11))]) [0, 1] rfl ?_
  refine Z.aload_n hX dX1_makePrimitive_0 rfl rfl ?_
  refine Z.callS1i (As := [.ref (h 11)]) (rest := []) hX 11 rfl (ct_X5_topOf l D ce ((h 11)) (L 6) ) mc_X5_topOf ml_X1_46 st_X5_topOf ini_X5 nd_X5_topOf ⟨Nat.le_of_ble_eq_true rfl, Nat.le_of_ble_eq_true rfl⟩ ⟨rfl, rfl⟩ ⟨Nat.le_refl _, Nat.le_refl _⟩ rfl (Nat.le_of_ble_eq_true rfl) dX1_makePrimitive_1 ?_
  rintro r_1 w1 ⟨tp, hr_, hw_, t1, t2, t3⟩
  subst hr_
  refine ⟨_, hw_, ?_⟩
  refine Z.toW (w' := cW ce h pl ar G L B J) (set_self rfl) ?_
  refine Z.istore_n (lv' := [(2, .int (zI tp)), (0, .ref (h 3)), (1, .ref (h 11))]) hX dX1_makePrimitive_4 rfl (by decide) rfl ?_
  refine Z.iload_n hX dX1_makePrimitive_5 rfl rfl ?_
  refine Z.if_ge hX 10 dX1_makePrimitive_6 (by decide) ⟨by omega, by omega⟩ ?_ ?_
  · intro c2
    refine Z.lconst (v := 0) hX dX1_makePrimitive_10 rfl ?_
    refine Z.lstore_n (lv' := [(3, .long 0), (2, .int (zI tp)), (0, .ref (h 3)), (1, .ref (h 11))]) hX dX1_makePrimitive_11 rfl (by decide) rfl ?_
    refine Z.iconst hX dX1_makePrimitive_12 ?_
    refine Z.istore (lv' := [(5, .int (zI 0)), (3, .long 0), (2, .int (zI tp)), (0, .ref (h 3)), (1, .ref (h 11))]) hX dX1_makePrimitive_13 (by decide) rfl ?_
    have key_15 : ∀ (N : Nat), ∀ (i : Int) (x : Int64), (tp + 1 - i).toNat < N → (hi : 0 ≤ i ∧ i ≤ tp + 1) → Z p l e { frames := 1, cells := 0, slots := 0, locals := 30 } s m args below meth c D A 6 0 0 Q 15 [(5, .int (zI i)), (3, .long x), (2, .int (zI tp)), (1, .ref (h 11)), (0, .ref (h 3))] [] (cW ce h pl ar G L B J) := by
      intro N
      induction N with
      | zero => intro i x hm; exact absurd hm (Nat.not_lt_zero _)
      | succ N ih_15 =>
        intro i x hm hi
        refine Z.iload hX dX1_makePrimitive_15 rfl ?_
        refine Z.iload_n hX dX1_makePrimitive_17 rfl rfl ?_
        refine Z.icmp_gt hX 36 dX1_makePrimitive_18 (by decide) ⟨by omega, by omega⟩ ⟨by omega, by omega⟩ ?_ ?_
        · intro c3
          refine Z.lload_n hX dX1_makePrimitive_36 rfl rfl ?_
          refine Z.lconst (v := 0) hX dX1_makePrimitive_37 rfl ?_
          refine Z.lcmp_ne hX 43 dX1_makePrimitive_38 dX1_makePrimitive_39 (by decide) ?_ ?_
          · intro c4
            have key_54 : ∀ (y : Int64), (hy0 : ¬ y = 0) → Z p l e { frames := 1, cells := 0, slots := 0, locals := 30 } s m args below meth c D A 6 0 0 Q 54 [(3, .long y), (2, .int (zI tp)), (1, .ref (h 11)), (0, .ref (h 3))] [] (cW ce h pl ar G L B J) := by
              intro y hy0
              refine Z.iconst hX dX1_makePrimitive_54 ?_
              refine Z.istore (lv' := [(5, .int (zI 0)), (3, .long y), (2, .int (zI tp)), (1, .ref (h 11)), (0, .ref (h 3))]) hX dX1_makePrimitive_55 (by decide) rfl ?_
              have key_57 : ∀ (N : Nat), ∀ (i : Int) (M : Nat → Nat → Int64), (tp + 1 - i).toNat < N → (hi2 : 0 ≤ i ∧ i ≤ tp + 1) → (hM : ∀ k, k ≠ 6 → M k = L k) → Z p l e { frames := 1, cells := 0, slots := 0, locals := 30 } s m args below meth c D A 6 0 0 Q 57 [(5, .int (zI i)), (3, .long y), (2, .int (zI tp)), (1, .ref (h 11)), (0, .ref (h 3))] [] (cW ce h pl ar G M B J) := by
                intro N
                induction N with
                | zero => intro i M hm; exact absurd hm (Nat.not_lt_zero _)
                | succ N ih_57 =>
                  intro i M hm hi2 hM
                  refine Z.iload hX dX1_makePrimitive_57 rfl ?_
                  refine Z.iload_n hX dX1_makePrimitive_59 rfl rfl ?_
                  refine Z.icmp_gt hX 77 dX1_makePrimitive_60 (by decide) ⟨by omega, by omega⟩ ⟨by omega, by omega⟩ ?_ ?_
                  · intro c5
                    exact hR _ _ _ dX1_makePrimitive_77 ⟨M, rfl, hM⟩
                  · intro c5
                    refine Z.aload_n hX dX1_makePrimitive_63 rfl rfl ?_
                    refine Z.iload hX dX1_makePrimitive_64 rfl ?_
                    refine Z.dup2 hX dX1_makePrimitive_66 rfl rfl ?_
                    refine Z.laload hX 11 1 dX1_makePrimitive_67 rfl rfl (by omega) (by omega) (by decide) ?_
                    refine Z.lload_n hX dX1_makePrimitive_68 rfl rfl ?_
                    refine Z.ldiv hX dX1_makePrimitive_69 hy0 ?_
                    refine Z.lastore hX 11 1 dX1_makePrimitive_70 rfl rfl (by omega) (by omega) (by decide) ?_
                    obtain ⟨L6, eL6⟩ : ∃ J' : Nat → Nat → Int64, J' = va_up M 6 (vp_updL (M 6) (i : Int).toNat ((M 6 (i : Int).toNat) / y)) := ⟨_, rfl⟩
                    refine Z.toW (w' := cW ce h pl ar G L6 B J) (by rw [eL6]; rfl) ?_
                    have gL6 : L6 6 = vp_updL (M 6) (i : Int).toNat ((M 6 (i : Int).toNat) / y) := by rw [eL6]; exact up_eq
                    have fL6 : ∀ j_, j_ ≠ 6 → L6 j_ = M j_ := fun j_ hj_ => by rw [eL6]; exact up_ne hj_
                    refine Z.iinc (lv' := [(5, .int (zI (i + 1))), (3, .long y), (2, .int (zI tp)), (1, .ref (h 11)), (0, .ref (h 3))]) hX dX1_makePrimitive_71 rfl (by decide) rfl ?_
                    refine Z.goto hX 57 dX1_makePrimitive_74 (by decide) ?_
                    refine Z.pick [0, 1, 2, 3, 4] rfl ?_
                    exact ih_57 _ _ (by omega) (by omega) (fun j_ h_6 => ((fL6 j_ h_6).trans (hM j_ h_6)))
              refine Z.pick [0, 1, 2, 3, 4] rfl ?_
              exact key_57 _ _ _ (Nat.lt_succ_self _) (by omega) (fun _ _ => rfl)
            refine Z.aload_n hX dX1_makePrimitive_43 rfl rfl ?_
            refine Z.iload_n hX dX1_makePrimitive_44 rfl rfl ?_
            refine Z.laload hX 11 1 dX1_makePrimitive_45 rfl rfl (by omega) (by omega) (by decide) ?_
            refine Z.lconst (v := 0) hX dX1_makePrimitive_46 rfl ?_
            refine Z.lcmp_ge hX 54 dX1_makePrimitive_47 dX1_makePrimitive_48 (by decide) ?_ ?_
            · intro c7
              refine Z.pick [1, 2, 3, 4] rfl ?_
              exact key_54 _ (by omega)
            · intro c7
              refine Z.lload_n hX dX1_makePrimitive_51 rfl rfl ?_
              refine Z.lneg hX dX1_makePrimitive_52 ?_
              refine Z.lstore_n (lv' := [(3, .long (-x)), (5, .int (zI i)), (2, .int (zI tp)), (1, .ref (h 11)), (0, .ref (h 3))]) hX dX1_makePrimitive_53 rfl (by decide) rfl ?_
              refine Z.pick [0, 2, 3, 4] rfl ?_
              exact key_54 _ (tl_n (by assumption))
          · intro c4
            exact hR _ _ _ dX1_makePrimitive_42 ⟨L, rfl, (fun _ _ => rfl)⟩
        · intro c3
          refine Z.lload_n hX dX1_makePrimitive_21 rfl rfl ?_
          refine Z.aload_n hX dX1_makePrimitive_22 rfl rfl ?_
          refine Z.iload hX dX1_makePrimitive_23 rfl ?_
          refine Z.laload hX 11 1 dX1_makePrimitive_25 rfl rfl (by omega) (by omega) (by decide) ?_
          refine Z.callSNl (As := [.long x, .long (L 6 (i : Int).toNat)]) (rest := []) hX (ct_X6_commonOf l D ce x (L 6 (i : Int).toNat) ) mc_X6_commonOf ns_X1_60 st_X6_commonOf ini_X6 nd_X6_commonOf ⟨Nat.le_of_ble_eq_true rfl, Nat.le_of_ble_eq_true rfl⟩ ⟨rfl, rfl⟩ ⟨Nat.le_refl _, Nat.le_refl _⟩ rfl (Nat.le_of_ble_eq_true rfl) dX1_makePrimitive_26 ?_
          rintro r_8 w1 ⟨r09, hr_, hw_, hq10⟩
          subst hr_
          refine ⟨hw_, ?_⟩
          refine Z.lstore_n (lv' := [(3, .long r_8), (5, .int (zI i)), (2, .int (zI tp)), (1, .ref (h 11)), (0, .ref (h 3))]) hX dX1_makePrimitive_29 rfl (by decide) rfl ?_
          refine Z.iinc (lv' := [(5, .int (zI (i + 1))), (3, .long r_8), (2, .int (zI tp)), (1, .ref (h 11)), (0, .ref (h 3))]) hX dX1_makePrimitive_30 rfl (by decide) rfl ?_
          refine Z.goto hX 15 dX1_makePrimitive_33 (by decide) ?_
          refine Z.pick [0, 1, 2, 3, 4] rfl ?_
          exact ih_15 _ _ (by omega) (by omega)
    refine Z.pick [0, 1, 2, 4, 3] rfl ?_
    exact key_15 _ _ _ (Nat.lt_succ_self _) (by omega)
  · intro c2
    exact hR _ _ _ dX1_makePrimitive_9 ⟨L, rfl, (fun _ _ => rfl)⟩

theorem dX1_shareWithOther_0 : decode cX1_shareWithOther 0 = .ok (.iconst 0, 1) := by decide +kernel
theorem dX1_shareWithOther_1 : decode cX1_shareWithOther 1 = .ok (.istore_n 1, 1) := by decide +kernel
theorem dX1_shareWithOther_2 : decode cX1_shareWithOther 2 = .ok (.iload_n 1, 1) := by decide +kernel
theorem dX1_shareWithOther_3 : decode cX1_shareWithOther 3 = .ok (.bipush 32, 2) := by decide +kernel
theorem dX1_shareWithOther_5 : decode cX1_shareWithOther 5 = .ok (.if_icmp .ge 56, 3) := by decide +kernel
theorem dX1_shareWithOther_8 : decode cX1_shareWithOther 8 = .ok (.aload_n 0, 1) := by decide +kernel
theorem dX1_shareWithOther_9 : decode cX1_shareWithOther 9 = .ok (.getfield 9, 3) := by decide +kernel
theorem dX1_shareWithOther_12 : decode cX1_shareWithOther 12 = .ok (.invokestatic 46, 3) := by decide +kernel
theorem dX1_shareWithOther_15 : decode cX1_shareWithOther 15 = .ok (.istore_n 2, 1) := by decide +kernel
theorem dX1_shareWithOther_16 : decode cX1_shareWithOther 16 = .ok (.aload_n 0, 1) := by decide +kernel
theorem dX1_shareWithOther_17 : decode cX1_shareWithOther 17 = .ok (.getfield 15, 3) := by decide +kernel
theorem dX1_shareWithOther_20 : decode cX1_shareWithOther 20 = .ok (.invokestatic 46, 3) := by decide +kernel
theorem dX1_shareWithOther_23 : decode cX1_shareWithOther 23 = .ok (.istore_n 3, 1) := by decide +kernel
theorem dX1_shareWithOther_24 : decode cX1_shareWithOther 24 = .ok (.iload_n 3, 1) := by decide +kernel
theorem dX1_shareWithOther_25 : decode cX1_shareWithOther 25 = .ok (.ifCond .ge 4, 3) := by decide +kernel
theorem dX1_shareWithOther_28 : decode cX1_shareWithOther 28 = .ok (.return_, 1) := by decide +kernel
theorem dX1_shareWithOther_29 : decode cX1_shareWithOther 29 = .ok (.iload_n 2, 1) := by decide +kernel
theorem dX1_shareWithOther_30 : decode cX1_shareWithOther 30 = .ok (.iload_n 3, 1) := by decide +kernel
theorem dX1_shareWithOther_31 : decode cX1_shareWithOther 31 = .ok (.if_icmp .ge 10, 3) := by decide +kernel
theorem dX1_shareWithOther_34 : decode cX1_shareWithOther 34 = .ok (.aload_n 0, 1) := by decide +kernel
theorem dX1_shareWithOther_35 : decode cX1_shareWithOther 35 = .ok (.invokevirtual 53, 3) := by decide +kernel
theorem dX1_shareWithOther_38 : decode cX1_shareWithOther 38 = .ok (.goto 17, 3) := by decide +kernel
theorem dX1_shareWithOther_41 : decode cX1_shareWithOther 41 = .ok (.aload_n 0, 1) := by decide +kernel
theorem dX1_shareWithOther_42 : decode cX1_shareWithOther 42 = .ok (.iload_n 2, 1) := by decide +kernel
theorem dX1_shareWithOther_43 : decode cX1_shareWithOther 43 = .ok (.iload_n 3, 1) := by decide +kernel
theorem dX1_shareWithOther_44 : decode cX1_shareWithOther 44 = .ok (.invokevirtual 56, 3) := by decide +kernel
theorem dX1_shareWithOther_47 : decode cX1_shareWithOther 47 = .ok (.aload_n 0, 1) := by decide +kernel
theorem dX1_shareWithOther_48 : decode cX1_shareWithOther 48 = .ok (.aload_n 0, 1) := by decide +kernel
theorem dX1_shareWithOther_49 : decode cX1_shareWithOther 49 = .ok (.getfield 9, 3) := by decide +kernel
theorem dX1_shareWithOther_52 : decode cX1_shareWithOther 52 = .ok (.invokevirtual 42, 3) := by decide +kernel
theorem dX1_shareWithOther_55 : decode cX1_shareWithOther 55 = .ok (.iinc 1 1, 3) := by decide +kernel
theorem dX1_shareWithOther_58 : decode cX1_shareWithOther 58 = .ok (.goto (-56), 3) := by decide +kernel
theorem dX1_shareWithOther_61 : decode cX1_shareWithOther 61 = .ok (.return_, 1) := by decide +kernel
set_option maxHeartbeats 4000000 in
set_option maxRecDepth 100000 in
theorem ct_X1_shareWithOther (l : Launch) (D : va_G) (ce : Nat → ClassId) (h pl ar : Nat → Nat) (G : Nat → Int) (L : Nat → Nat → Int64) (B : Nat → Int) (J : Nat → Nat → Int64)  : Ct l yX1_shareWithOther cX1_shareWithOther 4 none { frames := 2, cells := 0, slots := 0, locals := 62 } 0 0 D (TY ce) [.ref (h 3)] (cW ce h pl ar G L B J) (QV D (TY ce) (fun w1 => ∃ L2 : Nat → Nat → Int64, w1 = cW ce h pl ar G L2 B J ∧ (∀ k, k ≠ 6 → k ≠ 7 → k ≠ 8 → L2 k = L k))) := by
  refine Ct.ofV (by decide) (Nat.le_of_ble_eq_true rfl) ?_
  intro p e s m args below meth c A Q hX hnm hR
  refine Z.pick (lv' := [(0, .ref (h 3))]) [0] rfl ?_
  refine Z.iconst hX dX1_shareWithOther_0 ?_
  refine Z.istore_n (lv' := [(1, .int (zI 0)), (0, .ref (h 3))]) hX dX1_shareWithOther_1 rfl (by decide) rfl ?_
  have key_2 : ∀ (N : Nat), ∀ (i : Int) (M : Nat → Nat → Int64), (32 - i).toNat < N → (hi : 0 ≤ i ∧ i ≤ 32) → (hM : ∀ k, k ≠ 6 → k ≠ 7 → k ≠ 8 → M k = L k) → Z p l e { frames := 2, cells := 0, slots := 0, locals := 62 } s m args below meth c D A 4 0 0 Q 2 [(1, .int (zI i)), (0, .ref (h 3))] [] (cW ce h pl ar G M B J) := by
    intro N
    induction N with
    | zero => intro i M hm; exact absurd hm (Nat.not_lt_zero _)
    | succ N ih_2 =>
      intro i M hm hi hM
      refine Z.iload_n hX dX1_shareWithOther_2 rfl rfl ?_
      refine Z.bipush hX dX1_shareWithOther_3 (by decide) ?_
      refine Z.icmp_ge hX 61 dX1_shareWithOther_5 (by decide) ⟨by omega, by omega⟩ ⟨by omega, by omega⟩ ?_ ?_
      · intro c1
        exact hR _ _ _ dX1_shareWithOther_61 ⟨M, rfl, hM⟩
      · intro c1
        refine Z.aload_n hX dX1_shareWithOther_8 rfl rfl ?_
        refine Z.getf hX 1 3 0 dX1_shareWithOther_9 rfl rfl inX1 (by decide) fl_X1_9 rfl rfl ?_
        refine Z.callS1i (As := [.ref (h 11)]) (rest := []) hX 11 rfl (ct_X5_topOf l D ce ((h 11)) (M 6) ) mc_X5_topOf ml_X1_46 st_X5_topOf ini_X5 nd_X5_topOf ⟨Nat.le_of_ble_eq_true rfl, Nat.le_of_ble_eq_true rfl⟩ ⟨rfl, rfl⟩ ⟨Nat.le_refl _, Nat.le_refl _⟩ rfl (Nat.le_of_ble_eq_true rfl) dX1_shareWithOther_12 ?_
        rintro r_2 w1 ⟨ta, hr_, hw_, a1, a2, a3⟩
        subst hr_
        refine ⟨_, hw_, ?_⟩
        refine Z.toW (w' := cW ce h pl ar G M B J) (set_self rfl) ?_
        refine Z.istore_n (lv' := [(2, .int (zI ta)), (1, .int (zI i)), (0, .ref (h 3))]) hX dX1_shareWithOther_15 rfl (by decide) rfl ?_
        refine Z.aload_n hX dX1_shareWithOther_16 rfl rfl ?_
        refine Z.getf hX 1 3 1 dX1_shareWithOther_17 rfl rfl inX1 (by decide) fl_X1_15 rfl rfl ?_
        refine Z.callS1i (As := [.ref (h 12)]) (rest := []) hX 12 rfl (ct_X5_topOf l D ce ((h 12)) (M 7) ) mc_X5_topOf ml_X1_46 st_X5_topOf ini_X5 nd_X5_topOf ⟨Nat.le_of_ble_eq_true rfl, Nat.le_of_ble_eq_true rfl⟩ ⟨rfl, rfl⟩ ⟨Nat.le_refl _, Nat.le_refl _⟩ rfl (Nat.le_of_ble_eq_true rfl) dX1_shareWithOther_20 ?_
        rintro r_3 w1 ⟨tb, hr_, hw_, b1, b2, b3⟩
        subst hr_
        refine ⟨_, hw_, ?_⟩
        refine Z.toW (w' := cW ce h pl ar G M B J) (set_self rfl) ?_
        refine Z.istore_n (lv' := [(3, .int (zI tb)), (2, .int (zI ta)), (1, .int (zI i)), (0, .ref (h 3))]) hX dX1_shareWithOther_23 rfl (by decide) rfl ?_
        refine Z.iload_n hX dX1_shareWithOther_24 rfl rfl ?_
        refine Z.if_ge hX 29 dX1_shareWithOther_25 (by decide) ⟨by omega, by omega⟩ ?_ ?_
        · intro c4
          refine Z.iload_n hX dX1_shareWithOther_29 rfl rfl ?_
          refine Z.iload_n hX dX1_shareWithOther_30 rfl rfl ?_
          refine Z.icmp_ge hX 41 dX1_shareWithOther_31 (by decide) ⟨by omega, by omega⟩ ⟨by omega, by omega⟩ ?_ ?_
          · intro c5
            refine Z.aload_n hX dX1_shareWithOther_41 rfl rfl ?_
            refine Z.iload_n hX dX1_shareWithOther_42 rfl rfl ?_
            refine Z.iload_n hX dX1_shareWithOther_43 rfl rfl ?_
            refine Z.callVfv (As := [.int (zI ta), .int (zI tb)]) (rest := []) hX 1 3 rfl rfl (ct_X1_lowerShared l D ce h pl ar G M B J ta tb (by omega)) mc_X1_lowerShared ml_X1_56 im_X1_lowerShared se_X1_lowerShared ini_X1 nd_X1_lowerShared ⟨Nat.le_of_ble_eq_true rfl, Nat.le_of_ble_eq_true rfl⟩ ⟨rfl, rfl⟩ ⟨Nat.le_refl _, Nat.le_refl _⟩ rfl (Nat.le_of_ble_eq_true rfl) dX1_shareWithOther_44 ?_
            rintro w1 ⟨L27, hw_, hq8⟩
            subst hw_
            refine Z.aload_n hX dX1_shareWithOther_47 rfl rfl ?_
            refine Z.aload_n hX dX1_shareWithOther_48 rfl rfl ?_
            refine Z.getf hX 1 3 0 dX1_shareWithOther_49 rfl rfl inX1 (by decide) fl_X1_9 rfl rfl ?_
            refine Z.callVfv (As := [.ref (h 11)]) (rest := []) hX 1 3 rfl rfl (ct_X1_makePrimitive l D ce h pl ar G L27 B J ) mc_X1_makePrimitive ml_X1_42 im_X1_makePrimitive se_X1_makePrimitive ini_X1 nd_X1_makePrimitive ⟨Nat.le_of_ble_eq_true rfl, Nat.le_of_ble_eq_true rfl⟩ ⟨rfl, rfl⟩ ⟨Nat.le_refl _, Nat.le_refl _⟩ rfl (Nat.le_of_ble_eq_true rfl) dX1_shareWithOther_52 ?_
            rintro w1 ⟨L210, hw_, hq11⟩
            subst hw_
            refine Z.iinc (lv' := [(1, .int (zI (i + 1))), (3, .int (zI tb)), (2, .int (zI ta)), (0, .ref (h 3))]) hX dX1_shareWithOther_55 rfl (by decide) rfl ?_
            refine Z.goto hX 2 dX1_shareWithOther_58 (by decide) ?_
            refine Z.pick [0, 3] rfl ?_
            exact ih_2 _ _ (by omega) (by omega) (fun j_ h_6 h_7 h_8 => ((hq11 j_ h_6).trans ((hq8 j_ h_6).trans (hM j_ h_6 h_7 h_8))))
          · intro c5
            refine Z.aload_n hX dX1_shareWithOther_34 rfl rfl ?_
            refine Z.callVfv (As := []) (rest := []) hX 1 3 rfl rfl (ct_X1_swap l D ce h pl ar G M B J ) mc_X1_swap ml_X1_53 im_X1_swap se_X1_swap ini_X1 nd_X1_swap ⟨Nat.le_of_ble_eq_true rfl, Nat.le_of_ble_eq_true rfl⟩ ⟨rfl, rfl⟩ ⟨Nat.le_refl _, Nat.le_refl _⟩ rfl (Nat.le_of_ble_eq_true rfl) dX1_shareWithOther_35 ?_
            rintro w1 ⟨L213, hw_, hq14⟩
            subst hw_
            refine Z.goto hX 55 dX1_shareWithOther_38 (by decide) ?_
            refine Z.iinc (lv' := [(1, .int (zI (i + 1))), (3, .int (zI tb)), (2, .int (zI ta)), (0, .ref (h 3))]) hX dX1_shareWithOther_55 rfl (by decide) rfl ?_
            refine Z.goto hX 2 dX1_shareWithOther_58 (by decide) ?_
            refine Z.pick [0, 3] rfl ?_
            exact ih_2 _ _ (by omega) (by omega) (fun j_ h_6 h_7 h_8 => ((hq14 j_ h_6 h_7 h_8).trans (hM j_ h_6 h_7 h_8)))
        · intro c4
          exact hR _ _ _ dX1_shareWithOther_28 ⟨M, rfl, hM⟩
  refine Z.pick [0, 1] rfl ?_
  exact key_2 _ _ _ (Nat.lt_succ_self _) (by omega) (fun _ _ _ _ => rfl)

theorem dX1_divideByShared_0 : decode cX1_divideByShared 0 = .ok (.aload_n 0, 1) := by decide +kernel
theorem dX1_divideByShared_1 : decode cX1_divideByShared 1 = .ok (.getfield 9, 3) := by decide +kernel
theorem dX1_divideByShared_4 : decode cX1_divideByShared 4 = .ok (.invokestatic 46, 3) := by decide +kernel
theorem dX1_divideByShared_7 : decode cX1_divideByShared 7 = .ok (.istore_n 2, 1) := by decide +kernel
theorem dX1_divideByShared_8 : decode cX1_divideByShared 8 = .ok (.iload_n 2, 1) := by decide +kernel
theorem dX1_divideByShared_9 : decode cX1_divideByShared 9 = .ok (.ifCond .lt 14, 3) := by decide +kernel
theorem dX1_divideByShared_12 : decode cX1_divideByShared 12 = .ok (.aload_n 0, 1) := by decide +kernel
theorem dX1_divideByShared_13 : decode cX1_divideByShared 13 = .ok (.getfield 9, 3) := by decide +kernel
theorem dX1_divideByShared_16 : decode cX1_divideByShared 16 = .ok (.iload_n 2, 1) := by decide +kernel
theorem dX1_divideByShared_17 : decode cX1_divideByShared 17 = .ok (.laload, 1) := by decide +kernel
theorem dX1_divideByShared_18 : decode cX1_divideByShared 18 = .ok (.lconst 0, 1) := by decide +kernel
theorem dX1_divideByShared_19 : decode cX1_divideByShared 19 = .ok (.lcmp, 1) := by decide +kernel
theorem dX1_divideByShared_20 : decode cX1_divideByShared 20 = .ok (.ifCond .ne 4, 3) := by decide +kernel
theorem dX1_divideByShared_23 : decode cX1_divideByShared 23 = .ok (.return_, 1) := by decide +kernel
theorem dX1_divideByShared_24 : decode cX1_divideByShared 24 = .ok (.aload_n 1, 1) := by decide +kernel
theorem dX1_divideByShared_25 : decode cX1_divideByShared 25 = .ok (.iconst 0, 1) := by decide +kernel
theorem dX1_divideByShared_26 : decode cX1_divideByShared 26 = .ok (.aload_n 0, 1) := by decide +kernel
theorem dX1_divideByShared_27 : decode cX1_divideByShared 27 = .ok (.getfield 18, 3) := by decide +kernel
theorem dX1_divideByShared_30 : decode cX1_divideByShared 30 = .ok (.iconst 0, 1) := by decide +kernel
theorem dX1_divideByShared_31 : decode cX1_divideByShared 31 = .ok (.iconst 5, 1) := by decide +kernel
theorem dX1_divideByShared_32 : decode cX1_divideByShared 32 = .ok (.invokestatic 33, 3) := by decide +kernel
theorem dX1_divideByShared_35 : decode cX1_divideByShared 35 = .ok (.aload_n 1, 1) := by decide +kernel
theorem dX1_divideByShared_36 : decode cX1_divideByShared 36 = .ok (.lconst 0, 1) := by decide +kernel
theorem dX1_divideByShared_37 : decode cX1_divideByShared 37 = .ok (.invokestatic 21, 3) := by decide +kernel
theorem dX1_divideByShared_40 : decode cX1_divideByShared 40 = .ok (.iconst 4, 1) := by decide +kernel
theorem dX1_divideByShared_41 : decode cX1_divideByShared 41 = .ok (.iload_n 2, 1) := by decide +kernel
theorem dX1_divideByShared_42 : decode cX1_divideByShared 42 = .ok (.isub, 1) := by decide +kernel
theorem dX1_divideByShared_43 : decode cX1_divideByShared 43 = .ok (.istore_n 3, 1) := by decide +kernel
theorem dX1_divideByShared_44 : decode cX1_divideByShared 44 = .ok (.iload_n 3, 1) := by decide +kernel
theorem dX1_divideByShared_45 : decode cX1_divideByShared 45 = .ok (.ifCond .lt 68, 3) := by decide +kernel
theorem dX1_divideByShared_48 : decode cX1_divideByShared 48 = .ok (.aload_n 0, 1) := by decide +kernel
theorem dX1_divideByShared_49 : decode cX1_divideByShared 49 = .ok (.getfield 18, 3) := by decide +kernel
theorem dX1_divideByShared_52 : decode cX1_divideByShared 52 = .ok (.iload_n 3, 1) := by decide +kernel
theorem dX1_divideByShared_53 : decode cX1_divideByShared 53 = .ok (.iload_n 2, 1) := by decide +kernel
theorem dX1_divideByShared_54 : decode cX1_divideByShared 54 = .ok (.iadd, 1) := by decide +kernel
theorem dX1_divideByShared_55 : decode cX1_divideByShared 55 = .ok (.laload, 1) := by decide +kernel
theorem dX1_divideByShared_56 : decode cX1_divideByShared 56 = .ok (.aload_n 0, 1) := by decide +kernel
theorem dX1_divideByShared_57 : decode cX1_divideByShared 57 = .ok (.getfield 9, 3) := by decide +kernel
theorem dX1_divideByShared_60 : decode cX1_divideByShared 60 = .ok (.iload_n 2, 1) := by decide +kernel
theorem dX1_divideByShared_61 : decode cX1_divideByShared 61 = .ok (.laload, 1) := by decide +kernel
theorem dX1_divideByShared_62 : decode cX1_divideByShared 62 = .ok (.ldiv, 1) := by decide +kernel
theorem dX1_divideByShared_63 : decode cX1_divideByShared 63 = .ok (.lstore 4, 2) := by decide +kernel
theorem dX1_divideByShared_65 : decode cX1_divideByShared 65 = .ok (.aload_n 1, 1) := by decide +kernel
theorem dX1_divideByShared_66 : decode cX1_divideByShared 66 = .ok (.iload_n 3, 1) := by decide +kernel
theorem dX1_divideByShared_67 : decode cX1_divideByShared 67 = .ok (.lload 4, 2) := by decide +kernel
theorem dX1_divideByShared_69 : decode cX1_divideByShared 69 = .ok (.lastore, 1) := by decide +kernel
theorem dX1_divideByShared_70 : decode cX1_divideByShared 70 = .ok (.iconst 0, 1) := by decide +kernel
theorem dX1_divideByShared_71 : decode cX1_divideByShared 71 = .ok (.istore 6, 2) := by decide +kernel
theorem dX1_divideByShared_73 : decode cX1_divideByShared 73 = .ok (.iload 6, 2) := by decide +kernel
theorem dX1_divideByShared_75 : decode cX1_divideByShared 75 = .ok (.iload_n 2, 1) := by decide +kernel
theorem dX1_divideByShared_76 : decode cX1_divideByShared 76 = .ok (.if_icmp .gt 31, 3) := by decide +kernel
theorem dX1_divideByShared_79 : decode cX1_divideByShared 79 = .ok (.aload_n 0, 1) := by decide +kernel
theorem dX1_divideByShared_80 : decode cX1_divideByShared 80 = .ok (.getfield 18, 3) := by decide +kernel
theorem dX1_divideByShared_83 : decode cX1_divideByShared 83 = .ok (.iload_n 3, 1) := by decide +kernel
theorem dX1_divideByShared_84 : decode cX1_divideByShared 84 = .ok (.iload 6, 2) := by decide +kernel
theorem dX1_divideByShared_86 : decode cX1_divideByShared 86 = .ok (.iadd, 1) := by decide +kernel
theorem dX1_divideByShared_87 : decode cX1_divideByShared 87 = .ok (.dup2, 1) := by decide +kernel
theorem dX1_divideByShared_88 : decode cX1_divideByShared 88 = .ok (.laload, 1) := by decide +kernel
theorem dX1_divideByShared_89 : decode cX1_divideByShared 89 = .ok (.lload 4, 2) := by decide +kernel
theorem dX1_divideByShared_91 : decode cX1_divideByShared 91 = .ok (.aload_n 0, 1) := by decide +kernel
theorem dX1_divideByShared_92 : decode cX1_divideByShared 92 = .ok (.getfield 9, 3) := by decide +kernel
theorem dX1_divideByShared_95 : decode cX1_divideByShared 95 = .ok (.iload 6, 2) := by decide +kernel
theorem dX1_divideByShared_97 : decode cX1_divideByShared 97 = .ok (.laload, 1) := by decide +kernel
theorem dX1_divideByShared_98 : decode cX1_divideByShared 98 = .ok (.lmul, 1) := by decide +kernel
theorem dX1_divideByShared_99 : decode cX1_divideByShared 99 = .ok (.lsub, 1) := by decide +kernel
theorem dX1_divideByShared_100 : decode cX1_divideByShared 100 = .ok (.lastore, 1) := by decide +kernel
theorem dX1_divideByShared_101 : decode cX1_divideByShared 101 = .ok (.iinc 6 1, 3) := by decide +kernel
theorem dX1_divideByShared_104 : decode cX1_divideByShared 104 = .ok (.goto (-31), 3) := by decide +kernel
theorem dX1_divideByShared_107 : decode cX1_divideByShared 107 = .ok (.iinc 3 (-1), 3) := by decide +kernel
theorem dX1_divideByShared_110 : decode cX1_divideByShared 110 = .ok (.goto (-66), 3) := by decide +kernel
theorem dX1_divideByShared_113 : decode cX1_divideByShared 113 = .ok (.return_, 1) := by decide +kernel
set_option maxHeartbeats 4000000 in
set_option maxRecDepth 100000 in
theorem ct_X1_divideByShared (l : Launch) (D : va_G) (ce : Nat → ClassId) (h pl ar : Nat → Nat) (G : Nat → Int) (L : Nat → Nat → Int64) (B : Nat → Int) (J : Nat → Nat → Int64) (K : Nat) (hK : 3 ≤ K ∧ K < 6) : Ct l yX1_divideByShared cX1_divideByShared 7 none { frames := 1, cells := 0, slots := 0, locals := 40 } 0 0 D (TY ce) [.ref (h 3), .ref (h (18 + K))] (cW ce h pl ar G L B J) (QV D (TY ce) (fun w1 => ∃ L2 : Nat → Nat → Int64, w1 = cW ce h pl ar G L2 B J ∧ (∀ k, k ≠ K → k ≠ 8 → L2 k = L k))) := by
  refine Ct.ofV (by decide) (Nat.le_of_ble_eq_true rfl) ?_
  intro p e s m args below meth c A Q hX hnm hR
  refine Z.pick (lv' := [(0, .ref (h 3)), (1, .ref (h (18 + K)))]) [0, 1] rfl ?_
  refine Z.aload_n hX dX1_divideByShared_0 rfl rfl ?_
  refine Z.getf hX 1 3 0 dX1_divideByShared_1 rfl rfl inX1 (by decide) fl_X1_9 rfl rfl ?_
  refine Z.callS1i (As := [.ref (h 11)]) (rest := []) hX 11 rfl (ct_X5_topOf l D ce ((h 11)) (L 6) ) mc_X5_topOf ml_X1_46 st_X5_topOf ini_X5 nd_X5_topOf ⟨Nat.le_of_ble_eq_true rfl, Nat.le_of_ble_eq_true rfl⟩ ⟨rfl, rfl⟩ ⟨Nat.le_refl _, Nat.le_refl _⟩ rfl (Nat.le_of_ble_eq_true rfl) dX1_divideByShared_4 ?_
  rintro r_1 w1 ⟨lo, hr_, hw_, l1, l2, l3⟩
  subst hr_
  refine ⟨_, hw_, ?_⟩
  refine Z.toW (w' := cW ce h pl ar G L B J) (set_self rfl) ?_
  refine Z.istore_n (lv' := [(2, .int (zI lo)), (0, .ref (h 3)), (1, .ref (h (18 + K)))]) hX dX1_divideByShared_7 rfl (by decide) rfl ?_
  refine Z.iload_n hX dX1_divideByShared_8 rfl rfl ?_
  refine Z.if_lt hX 23 dX1_divideByShared_9 (by decide) ⟨by omega, by omega⟩ ?_ ?_
  · intro c2
    exact hR _ _ _ dX1_divideByShared_23 ⟨L, rfl, (fun _ _ _ => rfl)⟩
  · intro c2
    refine Z.aload_n hX dX1_divideByShared_12 rfl rfl ?_
    refine Z.getf hX 1 3 0 dX1_divideByShared_13 rfl rfl inX1 (by decide) fl_X1_9 rfl rfl ?_
    refine Z.iload_n hX dX1_divideByShared_16 rfl rfl ?_
    refine Z.laload hX 11 1 dX1_divideByShared_17 rfl rfl (by omega) (by omega) (by decide) ?_
    refine Z.lconst (v := 0) hX dX1_divideByShared_18 rfl ?_
    refine Z.lcmp_ne hX 24 dX1_divideByShared_19 dX1_divideByShared_20 (by decide) ?_ ?_
    · intro c3
      refine Z.aload_n hX dX1_divideByShared_24 rfl rfl ?_
      refine Z.iconst hX dX1_divideByShared_25 ?_
      refine Z.aload_n hX dX1_divideByShared_26 rfl rfl ?_
      refine Z.getf hX 1 3 2 dX1_divideByShared_27 rfl rfl inX1 (by decide) fl_X1_18 rfl rfl ?_
      refine Z.iconst hX dX1_divideByShared_30 ?_
      refine Z.iconst hX dX1_divideByShared_31 ?_
      refine Z.copyA hX (18 + K) 13 1 dX1_divideByShared_32 (cW_in (by omega)) rfl rfl rfl (by decide) ml_X1_33 (by decide) (Nat.le_of_ble_eq_true rfl) ?_
      obtain ⟨L4, eL4⟩ : ∃ J' : Nat → Nat → Int64, J' = va_up L 8 (va_cpy (L K) (L 8) 0 0 5) := ⟨_, rfl⟩
      refine Z.toW (w' := cW ce h pl ar G L4 B J) (by rw [eL4]; rfl) ?_
      have gL4 : L4 8 = va_cpy (L K) (L 8) 0 0 5 := by rw [eL4]; exact up_eq
      have fL4 : ∀ j_, j_ ≠ 8 → L4 j_ = L j_ := fun j_ hj_ => by rw [eL4]; exact up_ne hj_
      refine Z.aload_n hX dX1_divideByShared_35 rfl rfl ?_
      refine Z.lconst (v := 0) hX dX1_divideByShared_36 rfl ?_
      refine Z.callS1v (As := [.ref (h (18 + K)), .long 0]) (rest := []) hX (18 + K) (cW_in (by omega)) (ct_J7_fill_d0a16 l D ce ((h (18 + K))) 5 (L4 K) 0 (by decide)) mc_J7_fill_d0a16 ml_X1_21 st_J7_fill_d0a16 ini_J7 nd_J7_fill_d0a16 ⟨Nat.le_of_ble_eq_true rfl, Nat.le_of_ble_eq_true rfl⟩ ⟨rfl, rfl⟩ ⟨Nat.le_refl _, Nat.le_refl _⟩ rfl (Nat.le_of_ble_eq_true rfl) dX1_divideByShared_37 ?_
      rintro w1 ⟨f26, hw_, hq7⟩
      refine ⟨_, hw_, ?_⟩
      obtain ⟨L8, eL8⟩ : ∃ J' : Nat → Nat → Int64, J' = va_up L4 K (f26) := ⟨_, rfl⟩
      refine Z.toW (w' := cW ce h pl ar G L8 B J) (by rw [eL8]; exact cW_setL (by omega)) ?_
      have gL8 : L8 K = f26 := by rw [eL8]; exact up_eq
      have fL8 : ∀ j_, j_ ≠ K → L8 j_ = L4 j_ := fun j_ hj_ => by rw [eL8]; exact up_ne hj_
      refine Z.iconst hX dX1_divideByShared_40 ?_
      refine Z.iload_n hX dX1_divideByShared_41 rfl rfl ?_
      refine Z.isub hX dX1_divideByShared_42 ?_
      refine Z.istore_n (lv' := [(3, .int (zI (4 - lo))), (2, .int (zI lo)), (0, .ref (h 3)), (1, .ref (h (18 + K)))]) hX dX1_divideByShared_43 rfl (by decide) rfl ?_
      have key_44 : ∀ (N : Nat), ∀ (i : Int) (M : Nat → Nat → Int64), (i + 1).toNat < N → (hi : -1 ≤ i ∧ i ≤ 4 - lo) → (ho : M 6 = L 6) → (hM : ∀ k, k ≠ K → k ≠ 8 → M k = L k) → Z p l e { frames := 1, cells := 0, slots := 0, locals := 40 } s m args below meth c D A 7 0 0 Q 44 [(3, .int (zI i)), (2, .int (zI lo)), (1, .ref (h (18 + K))), (0, .ref (h 3))] [] (cW ce h pl ar G M B J) := by
        intro N
        induction N with
        | zero => intro i M hm; exact absurd hm (Nat.not_lt_zero _)
        | succ N ih_44 =>
          intro i M hm hi ho hM
          refine Z.iload_n hX dX1_divideByShared_44 rfl rfl ?_
          refine Z.if_lt hX 113 dX1_divideByShared_45 (by decide) ⟨by omega, by omega⟩ ?_ ?_
          · intro c9
            exact hR _ _ _ dX1_divideByShared_113 ⟨M, rfl, hM⟩
          · intro c9
            refine Z.aload_n hX dX1_divideByShared_48 rfl rfl ?_
            refine Z.getf hX 1 3 2 dX1_divideByShared_49 rfl rfl inX1 (by decide) fl_X1_18 rfl rfl ?_
            refine Z.iload_n hX dX1_divideByShared_52 rfl rfl ?_
            refine Z.iload_n hX dX1_divideByShared_53 rfl rfl ?_
            refine Z.iadd hX dX1_divideByShared_54 ?_
            refine Z.laload hX 13 1 dX1_divideByShared_55 rfl rfl (by omega) (by omega) (by decide) ?_
            refine Z.aload_n hX dX1_divideByShared_56 rfl rfl ?_
            refine Z.getf hX 1 3 0 dX1_divideByShared_57 rfl rfl inX1 (by decide) fl_X1_9 rfl rfl ?_
            refine Z.iload_n hX dX1_divideByShared_60 rfl rfl ?_
            refine Z.laload hX 11 1 dX1_divideByShared_61 rfl rfl (by omega) (by omega) (by decide) ?_
            refine Z.ldiv hX dX1_divideByShared_62 (by rw [ho]; assumption) ?_
            refine Z.lstore (lv' := [(4, .long ((M 8 (i + lo : Int).toNat) / (M 6 (lo : Int).toNat))), (3, .int (zI i)), (2, .int (zI lo)), (1, .ref (h (18 + K))), (0, .ref (h 3))]) hX dX1_divideByShared_63 (by decide) rfl ?_
            obtain ⟨qq, eqq⟩ : ∃ x : Int64, x = (M 8 (i + lo : Int).toNat) / (M 6 (lo : Int).toNat) := ⟨_, rfl⟩
            rw [← eqq]
            refine Z.aload_n hX dX1_divideByShared_65 rfl rfl ?_
            refine Z.iload_n hX dX1_divideByShared_66 rfl rfl ?_
            refine Z.lload hX dX1_divideByShared_67 rfl ?_
            refine Z.lastore hX (18 + K) 1 dX1_divideByShared_69 (cW_in (by omega)) rfl (by omega) (by omega) (by decide) ?_
            obtain ⟨L10, eL10⟩ : ∃ J' : Nat → Nat → Int64, J' = va_up M K (vp_updL (M K) (i : Int).toNat (qq)) := ⟨_, rfl⟩
            refine Z.toW (w' := cW ce h pl ar G L10 B J) (by rw [eL10]; exact cW_setL (by omega)) ?_
            have gL10 : L10 K = vp_updL (M K) (i : Int).toNat (qq) := by rw [eL10]; exact up_eq
            have fL10 : ∀ j_, j_ ≠ K → L10 j_ = M j_ := fun j_ hj_ => by rw [eL10]; exact up_ne hj_
            refine Z.iconst hX dX1_divideByShared_70 ?_
            refine Z.istore (lv' := [(6, .int (zI 0)), (4, .long qq), (3, .int (zI i)), (2, .int (zI lo)), (1, .ref (h (18 + K))), (0, .ref (h 3))]) hX dX1_divideByShared_71 (by decide) rfl ?_
            have key_73 : ∀ (N : Nat), ∀ (q : Int) (M : Nat → Nat → Int64), (lo + 1 - q).toNat < N → (hq : 0 ≤ q ∧ q ≤ lo + 1) → (ho : M 6 = L 6) → (hM : ∀ k, k ≠ K → k ≠ 8 → M k = L k) → Z p l e { frames := 1, cells := 0, slots := 0, locals := 40 } s m args below meth c D A 7 0 0 Q 73 [(6, .int (zI q)), (4, .long qq), (3, .int (zI i)), (2, .int (zI lo)), (1, .ref (h (18 + K))), (0, .ref (h 3))] [] (cW ce h pl ar G M B J) := by
              intro N
              induction N with
              | zero => intro q M hm; exact absurd hm (Nat.not_lt_zero _)
              | succ N ih_73 =>
                intro q M hm hq ho hM
                refine Z.iload hX dX1_divideByShared_73 rfl ?_
                refine Z.iload_n hX dX1_divideByShared_75 rfl rfl ?_
                refine Z.icmp_gt hX 107 dX1_divideByShared_76 (by decide) ⟨by omega, by omega⟩ ⟨by omega, by omega⟩ ?_ ?_
                · intro c11
                  refine Z.iinc (lv' := [(3, .int (zI (i + -1))), (6, .int (zI q)), (4, .long qq), (2, .int (zI lo)), (1, .ref (h (18 + K))), (0, .ref (h 3))]) hX dX1_divideByShared_107 rfl (by decide) rfl ?_
                  refine Z.goto hX 44 dX1_divideByShared_110 (by decide) ?_
                  refine Z.pick [0, 3, 4, 5] rfl ?_
                  exact ih_44 _ _ (by omega) (by omega) ho hM
                · intro c11
                  refine Z.aload_n hX dX1_divideByShared_79 rfl rfl ?_
                  refine Z.getf hX 1 3 2 dX1_divideByShared_80 rfl rfl inX1 (by decide) fl_X1_18 rfl rfl ?_
                  refine Z.iload_n hX dX1_divideByShared_83 rfl rfl ?_
                  refine Z.iload hX dX1_divideByShared_84 rfl ?_
                  refine Z.iadd hX dX1_divideByShared_86 ?_
                  refine Z.dup2 hX dX1_divideByShared_87 rfl rfl ?_
                  refine Z.laload hX 13 1 dX1_divideByShared_88 rfl rfl (by omega) (by omega) (by decide) ?_
                  refine Z.lload hX dX1_divideByShared_89 rfl ?_
                  refine Z.aload_n hX dX1_divideByShared_91 rfl rfl ?_
                  refine Z.getf hX 1 3 0 dX1_divideByShared_92 rfl rfl inX1 (by decide) fl_X1_9 rfl rfl ?_
                  refine Z.iload hX dX1_divideByShared_95 rfl ?_
                  refine Z.laload hX 11 1 dX1_divideByShared_97 rfl rfl (by omega) (by omega) (by decide) ?_
                  refine Z.lmul hX dX1_divideByShared_98 ?_
                  refine Z.lsub hX dX1_divideByShared_99 ?_
                  refine Z.lastore hX 13 1 dX1_divideByShared_100 rfl rfl (by omega) (by omega) (by decide) ?_
                  obtain ⟨L12, eL12⟩ : ∃ J' : Nat → Nat → Int64, J' = va_up M 8 (vp_updL (M 8) (i + q : Int).toNat ((M 8 (i + q : Int).toNat) - (qq * (M 6 (q : Int).toNat)))) := ⟨_, rfl⟩
                  refine Z.toW (w' := cW ce h pl ar G L12 B J) (by rw [eL12]; rfl) ?_
                  have gL12 : L12 8 = vp_updL (M 8) (i + q : Int).toNat ((M 8 (i + q : Int).toNat) - (qq * (M 6 (q : Int).toNat))) := by rw [eL12]; exact up_eq
                  have fL12 : ∀ j_, j_ ≠ 8 → L12 j_ = M j_ := fun j_ hj_ => by rw [eL12]; exact up_ne hj_
                  refine Z.iinc (lv' := [(6, .int (zI (q + 1))), (4, .long qq), (3, .int (zI i)), (2, .int (zI lo)), (1, .ref (h (18 + K))), (0, .ref (h 3))]) hX dX1_divideByShared_101 rfl (by decide) rfl ?_
                  refine Z.goto hX 73 dX1_divideByShared_104 (by decide) ?_
                  refine Z.pick [0, 1, 2, 3, 4, 5] rfl ?_
                  exact ih_73 _ _ (by omega) (by omega) ((fL12 6 (by omega)).trans ho) (fun j_ h_K h_8 => ((fL12 j_ h_8).trans (hM j_ h_K h_8)))
            refine Z.pick [0, 1, 2, 3, 4, 5] rfl ?_
            exact key_73 _ _ _ (Nat.lt_succ_self _) (by omega) ((fL10 6 (by omega)).trans ho) (fun j_ h_K h_8 => ((fL10 j_ h_K).trans (hM j_ h_K h_8)))
      refine Z.pick [0, 1, 3, 2] rfl ?_
      exact key_44 _ _ _ (Nat.lt_succ_self _) (by omega) ((fL8 6 (by omega)).trans ((fL4 6 (by omega)).trans rfl)) (fun j_ h_K h_8 => ((fL8 j_ h_K).trans ((fL4 j_ h_8).trans rfl)))
    · intro c3
      exact hR _ _ _ dX1_divideByShared_23 ⟨L, rfl, (fun _ _ _ => rfl)⟩

theorem dX1_free_0 : decode cX1_free 0 = .ok (.aload_n 0, 1) := by decide +kernel
theorem dX1_free_1 : decode cX1_free 1 = .ok (.getfield 9, 3) := by decide +kernel
theorem dX1_free_4 : decode cX1_free 4 = .ok (.lconst 0, 1) := by decide +kernel
theorem dX1_free_5 : decode cX1_free 5 = .ok (.invokestatic 21, 3) := by decide +kernel
theorem dX1_free_8 : decode cX1_free 8 = .ok (.iconst 0, 1) := by decide +kernel
theorem dX1_free_9 : decode cX1_free 9 = .ok (.istore_n 3, 1) := by decide +kernel
theorem dX1_free_10 : decode cX1_free 10 = .ok (.iload_n 3, 1) := by decide +kernel
theorem dX1_free_11 : decode cX1_free 11 = .ok (.iconst 3, 1) := by decide +kernel
theorem dX1_free_12 : decode cX1_free 12 = .ok (.if_icmp .ge 47, 3) := by decide +kernel
theorem dX1_free_15 : decode cX1_free 15 = .ok (.aload_n 1, 1) := by decide +kernel
theorem dX1_free_16 : decode cX1_free 16 = .ok (.getfield 27, 3) := by decide +kernel
theorem dX1_free_19 : decode cX1_free 19 = .ok (.iload_n 3, 1) := by decide +kernel
theorem dX1_free_20 : decode cX1_free 20 = .ok (.aaload, 1) := by decide +kernel
theorem dX1_free_21 : decode cX1_free 21 = .ok (.iconst 0, 1) := by decide +kernel
theorem dX1_free_22 : decode cX1_free 22 = .ok (.aload_n 2, 1) := by decide +kernel
theorem dX1_free_23 : decode cX1_free 23 = .ok (.getfield 27, 3) := by decide +kernel
theorem dX1_free_26 : decode cX1_free 26 = .ok (.iload_n 3, 1) := by decide +kernel
theorem dX1_free_27 : decode cX1_free 27 = .ok (.aaload, 1) := by decide +kernel
theorem dX1_free_28 : decode cX1_free 28 = .ok (.iconst 0, 1) := by decide +kernel
theorem dX1_free_29 : decode cX1_free 29 = .ok (.iconst 5, 1) := by decide +kernel
theorem dX1_free_30 : decode cX1_free 30 = .ok (.invokestatic 33, 3) := by decide +kernel
theorem dX1_free_33 : decode cX1_free 33 = .ok (.aload_n 1, 1) := by decide +kernel
theorem dX1_free_34 : decode cX1_free 34 = .ok (.getfield 27, 3) := by decide +kernel
theorem dX1_free_37 : decode cX1_free 37 = .ok (.iload_n 3, 1) := by decide +kernel
theorem dX1_free_38 : decode cX1_free 38 = .ok (.aaload, 1) := by decide +kernel
theorem dX1_free_39 : decode cX1_free 39 = .ok (.iconst 0, 1) := by decide +kernel
theorem dX1_free_40 : decode cX1_free 40 = .ok (.aload_n 0, 1) := by decide +kernel
theorem dX1_free_41 : decode cX1_free 41 = .ok (.getfield 15, 3) := by decide +kernel
theorem dX1_free_44 : decode cX1_free 44 = .ok (.iconst 0, 1) := by decide +kernel
theorem dX1_free_45 : decode cX1_free 45 = .ok (.iconst 5, 1) := by decide +kernel
theorem dX1_free_46 : decode cX1_free 46 = .ok (.invokestatic 33, 3) := by decide +kernel
theorem dX1_free_49 : decode cX1_free 49 = .ok (.aload_n 0, 1) := by decide +kernel
theorem dX1_free_50 : decode cX1_free 50 = .ok (.invokevirtual 39, 3) := by decide +kernel
theorem dX1_free_53 : decode cX1_free 53 = .ok (.iinc 3 1, 3) := by decide +kernel
theorem dX1_free_56 : decode cX1_free 56 = .ok (.goto (-46), 3) := by decide +kernel
theorem dX1_free_59 : decode cX1_free 59 = .ok (.aload_n 0, 1) := by decide +kernel
theorem dX1_free_60 : decode cX1_free 60 = .ok (.aload_n 0, 1) := by decide +kernel
theorem dX1_free_61 : decode cX1_free 61 = .ok (.getfield 9, 3) := by decide +kernel
theorem dX1_free_64 : decode cX1_free 64 = .ok (.invokevirtual 42, 3) := by decide +kernel
theorem dX1_free_67 : decode cX1_free 67 = .ok (.aload_n 0, 1) := by decide +kernel
theorem dX1_free_68 : decode cX1_free 68 = .ok (.getfield 9, 3) := by decide +kernel
theorem dX1_free_71 : decode cX1_free 71 = .ok (.invokestatic 46, 3) := by decide +kernel
theorem dX1_free_74 : decode cX1_free 74 = .ok (.iconst 1, 1) := by decide +kernel
theorem dX1_free_75 : decode cX1_free 75 = .ok (.if_icmp .lt 26, 3) := by decide +kernel
theorem dX1_free_78 : decode cX1_free 78 = .ok (.iconst 0, 1) := by decide +kernel
theorem dX1_free_79 : decode cX1_free 79 = .ok (.istore_n 3, 1) := by decide +kernel
theorem dX1_free_80 : decode cX1_free 80 = .ok (.iload_n 3, 1) := by decide +kernel
theorem dX1_free_81 : decode cX1_free 81 = .ok (.iconst 3, 1) := by decide +kernel
theorem dX1_free_82 : decode cX1_free 82 = .ok (.if_icmp .ge 19, 3) := by decide +kernel
theorem dX1_free_85 : decode cX1_free 85 = .ok (.aload_n 0, 1) := by decide +kernel
theorem dX1_free_86 : decode cX1_free 86 = .ok (.aload_n 2, 1) := by decide +kernel
theorem dX1_free_87 : decode cX1_free 87 = .ok (.getfield 27, 3) := by decide +kernel
theorem dX1_free_90 : decode cX1_free 90 = .ok (.iload_n 3, 1) := by decide +kernel
theorem dX1_free_91 : decode cX1_free 91 = .ok (.aaload, 1) := by decide +kernel
theorem dX1_free_92 : decode cX1_free 92 = .ok (.invokevirtual 50, 3) := by decide +kernel
theorem dX1_free_95 : decode cX1_free 95 = .ok (.iinc 3 1, 3) := by decide +kernel
theorem dX1_free_98 : decode cX1_free 98 = .ok (.goto (-18), 3) := by decide +kernel
theorem dX1_free_101 : decode cX1_free 101 = .ok (.return_, 1) := by decide +kernel
set_option maxHeartbeats 4000000 in
set_option maxRecDepth 100000 in
theorem ct_X1_free (l : Launch) (D : va_G) (ce : Nat → ClassId) (h pl ar : Nat → Nat) (G : Nat → Int) (L : Nat → Nat → Int64) (B : Nat → Int) (J : Nat → Nat → Int64)  : Ct l yX1_free cX1_free 4 none { frames := 3, cells := 0, slots := 0, locals := 85 } 0 0 D (TY ce) [.ref (h 3), .ref (h 1), .ref (h 2)] (cW ce h pl ar G L B J) (QV D (TY ce) (fun w1 => ∃ L2 : Nat → Nat → Int64, w1 = cW ce h pl ar G L2 B J ∧ (∀ k, k ≠ 3 → k ≠ 4 → k ≠ 5 → k ≠ 6 → k ≠ 7 → k ≠ 8 → L2 k = L k))) := by
  refine Ct.ofV (by decide) (Nat.le_of_ble_eq_true rfl) ?_
  intro p e s m args below meth c A Q hX hnm hR
  refine Z.pick (lv' := [(0, .ref (h 3)), (1, .ref (h 1)), (2, .ref (h 2))]) [0, 1, 2] rfl ?_
  refine Z.aload_n hX dX1_free_0 rfl rfl ?_
  refine Z.getf hX 1 3 0 dX1_free_1 rfl rfl inX1 (by decide) fl_X1_9 rfl rfl ?_
  refine Z.lconst (v := 0) hX dX1_free_4 rfl ?_
  refine Z.callS1v (As := [.ref (h 11), .long 0]) (rest := []) hX 11 rfl (ct_J7_fill_d0a16 l D ce ((h 11)) 5 (L 6) 0 (by decide)) mc_J7_fill_d0a16 ml_X1_21 st_J7_fill_d0a16 ini_J7 nd_J7_fill_d0a16 ⟨Nat.le_of_ble_eq_true rfl, Nat.le_of_ble_eq_true rfl⟩ ⟨rfl, rfl⟩ ⟨Nat.le_refl _, Nat.le_refl _⟩ rfl (Nat.le_of_ble_eq_true rfl) dX1_free_5 ?_
  rintro w1 ⟨f22, hw_, hfl⟩
  refine ⟨_, hw_, ?_⟩
  obtain ⟨L3, eL3⟩ : ∃ J' : Nat → Nat → Int64, J' = va_up L 6 (f22) := ⟨_, rfl⟩
  refine Z.toW (w' := cW ce h pl ar G L3 B J) (by rw [eL3]; rfl) ?_
  have gL3 : L3 6 = f22 := by rw [eL3]; exact up_eq
  have fL3 : ∀ j_, j_ ≠ 6 → L3 j_ = L j_ := fun j_ hj_ => by rw [eL3]; exact up_ne hj_
  refine Z.iconst hX dX1_free_8 ?_
  refine Z.istore_n (lv' := [(3, .int (zI 0)), (0, .ref (h 3)), (1, .ref (h 1)), (2, .ref (h 2))]) hX dX1_free_9 rfl (by decide) rfl ?_
  have key_10 : ∀ (N : Nat), ∀ (i : Int) (M : Nat → Nat → Int64), (3 - i).toNat < N → (hi : 0 ≤ i ∧ i ≤ 3) → (hM : ∀ k, k ≠ 3 → k ≠ 4 → k ≠ 5 → k ≠ 6 → k ≠ 7 → k ≠ 8 → M k = L k) → Z p l e { frames := 3, cells := 0, slots := 0, locals := 85 } s m args below meth c D A 4 0 0 Q 10 [(3, .int (zI i)), (2, .ref (h 2)), (1, .ref (h 1)), (0, .ref (h 3))] [] (cW ce h pl ar G M B J) := by
    intro N
    induction N with
    | zero => intro i M hm; exact absurd hm (Nat.not_lt_zero _)
    | succ N ih_10 =>
      intro i M hm hi hM
      refine Z.iload_n hX dX1_free_10 rfl rfl ?_
      refine Z.iconst hX dX1_free_11 ?_
      refine Z.icmp_ge hX 59 dX1_free_12 (by decide) ⟨by omega, by omega⟩ ⟨by omega, by omega⟩ ?_ ?_
      · intro c4
        refine Z.aload_n hX dX1_free_59 rfl rfl ?_
        refine Z.aload_n hX dX1_free_60 rfl rfl ?_
        refine Z.getf hX 1 3 0 dX1_free_61 rfl rfl inX1 (by decide) fl_X1_9 rfl rfl ?_
        refine Z.callVfv (As := [.ref (h 11)]) (rest := []) hX 1 3 rfl rfl (ct_X1_makePrimitive l D ce h pl ar G M B J ) mc_X1_makePrimitive ml_X1_42 im_X1_makePrimitive se_X1_makePrimitive ini_X1 nd_X1_makePrimitive ⟨Nat.le_of_ble_eq_true rfl, Nat.le_of_ble_eq_true rfl⟩ ⟨rfl, rfl⟩ ⟨Nat.le_refl _, Nat.le_refl _⟩ rfl (Nat.le_of_ble_eq_true rfl) dX1_free_64 ?_
        rintro w1 ⟨L26, hw_, hmp⟩
        subst hw_
        refine Z.aload_n hX dX1_free_67 rfl rfl ?_
        refine Z.getf hX 1 3 0 dX1_free_68 rfl rfl inX1 (by decide) fl_X1_9 rfl rfl ?_
        refine Z.callS1i (As := [.ref (h 11)]) (rest := []) hX 11 rfl (ct_X5_topOf l D ce ((h 11)) (L26 6) ) mc_X5_topOf ml_X1_46 st_X5_topOf ini_X5 nd_X5_topOf ⟨Nat.le_of_ble_eq_true rfl, Nat.le_of_ble_eq_true rfl⟩ ⟨rfl, rfl⟩ ⟨Nat.le_refl _, Nat.le_refl _⟩ rfl (Nat.le_of_ble_eq_true rfl) dX1_free_71 ?_
        rintro r_7 w1 ⟨tp, hr_, hw_, t1, t2, t3⟩
        subst hr_
        refine ⟨_, hw_, ?_⟩
        refine Z.toW (w' := cW ce h pl ar G L26 B J) (set_self rfl) ?_
        refine Z.iconst hX dX1_free_74 ?_
        refine Z.icmp_lt hX 101 dX1_free_75 (by decide) ⟨by omega, by omega⟩ ⟨by omega, by omega⟩ ?_ ?_
        · intro c8
          exact hR _ _ _ dX1_free_101 ⟨L26, rfl, (fun j_ h_3 h_4 h_5 h_6 h_7 h_8 => ((hmp j_ h_6).trans (hM j_ h_3 h_4 h_5 h_6 h_7 h_8)))⟩
        · intro c8
          refine Z.iconst hX dX1_free_78 ?_
          refine Z.istore_n (lv' := [(3, .int (zI 0)), (2, .ref (h 2)), (1, .ref (h 1)), (0, .ref (h 3))]) hX dX1_free_79 rfl (by decide) rfl ?_
          have key_80 : ∀ (N : Nat), ∀ (i : Int) (M : Nat → Nat → Int64), (3 - i).toNat < N → (hi2 : 0 ≤ i ∧ i ≤ 3) → (hM : ∀ k, k ≠ 3 → k ≠ 4 → k ≠ 5 → k ≠ 6 → k ≠ 7 → k ≠ 8 → M k = L k) → Z p l e { frames := 3, cells := 0, slots := 0, locals := 85 } s m args below meth c D A 4 0 0 Q 80 [(3, .int (zI i)), (2, .ref (h 2)), (0, .ref (h 3))] [] (cW ce h pl ar G M B J) := by
            intro N
            induction N with
            | zero => intro i M hm; exact absurd hm (Nat.not_lt_zero _)
            | succ N ih_80 =>
              intro i M hm hi2 hM
              refine Z.iload_n hX dX1_free_80 rfl rfl ?_
              refine Z.iconst hX dX1_free_81 ?_
              refine Z.icmp_ge hX 101 dX1_free_82 (by decide) ⟨by omega, by omega⟩ ⟨by omega, by omega⟩ ?_ ?_
              · intro c9
                exact hR _ _ _ dX1_free_101 ⟨M, rfl, (fun j_ h_3 h_4 h_5 h_6 h_7 h_8 => (hM j_ h_3 h_4 h_5 h_6 h_7 h_8))⟩
              · intro c9
                refine Z.aload_n hX dX1_free_85 rfl rfl ?_
                refine Z.aload_n hX dX1_free_86 rfl rfl ?_
                refine Z.getf hX 5 2 0 dX1_free_87 rfl rfl inX5 (by decide) fl_X1_27 rfl rfl ?_
                refine Z.iload_n hX dX1_free_90 rfl rfl ?_
                refine Z.aaload hX 10 3 dX1_free_91 rfl rfl rfl (by omega) (by omega) (by decide) rfl ?_
                refine Z.callVfv (As := [.ref (h (18 + (3 + (i : Int).toNat)))]) (rest := []) hX 1 3 rfl rfl (ct_X1_divideByShared l D ce h pl ar G M B J ((3 + (i : Int).toNat)) (by omega)) mc_X1_divideByShared ml_X1_50 im_X1_divideByShared se_X1_divideByShared ini_X1 nd_X1_divideByShared ⟨Nat.le_of_ble_eq_true rfl, Nat.le_of_ble_eq_true rfl⟩ ⟨rfl, rfl⟩ ⟨Nat.le_refl _, Nat.le_refl _⟩ rfl (Nat.le_of_ble_eq_true rfl) dX1_free_92 ?_
                rintro w1 ⟨L211, hw_, hdv⟩
                subst hw_
                refine Z.iinc (lv' := [(3, .int (zI (i + 1))), (2, .ref (h 2)), (0, .ref (h 3))]) hX dX1_free_95 rfl (by decide) rfl ?_
                refine Z.goto hX 80 dX1_free_98 (by decide) ?_
                refine Z.pick [0, 1, 2] rfl ?_
                exact ih_80 _ _ (by omega) (by omega) (fun j_ h_3 h_4 h_5 h_6 h_7 h_8 => ((hdv j_ (by omega) h_8).trans (hM j_ h_3 h_4 h_5 h_6 h_7 h_8)))
          refine Z.pick [0, 1, 3] rfl ?_
          exact key_80 _ _ _ (Nat.lt_succ_self _) (by omega) (fun j_ h_3 h_4 h_5 h_6 h_7 h_8 => ((hmp j_ h_6).trans (hM j_ h_3 h_4 h_5 h_6 h_7 h_8)))
      · intro c4
        refine Z.aload_n hX dX1_free_15 rfl rfl ?_
        refine Z.getf hX 5 1 0 dX1_free_16 rfl rfl inX5 (by decide) fl_X1_27 rfl rfl ?_
        refine Z.iload_n hX dX1_free_19 rfl rfl ?_
        refine Z.aaload hX 9 3 dX1_free_20 rfl rfl rfl (by omega) (by omega) (by decide) rfl ?_
        refine Z.iconst hX dX1_free_21 ?_
        refine Z.aload_n hX dX1_free_22 rfl rfl ?_
        refine Z.getf hX 5 2 0 dX1_free_23 rfl rfl inX5 (by decide) fl_X1_27 rfl rfl ?_
        refine Z.iload_n hX dX1_free_26 rfl rfl ?_
        refine Z.aaload hX 10 3 dX1_free_27 rfl rfl rfl (by omega) (by omega) (by decide) rfl ?_
        refine Z.iconst hX dX1_free_28 ?_
        refine Z.iconst hX dX1_free_29 ?_
        refine Z.copyA hX (18 + (i : Int).toNat) (18 + (3 + (i : Int).toNat)) 1 dX1_free_30 (cW_in (by omega)) (cW_in (by omega)) rfl rfl (by decide) ml_X1_33 (by decide) (Nat.le_of_ble_eq_true rfl) ?_
        obtain ⟨L12, eL12⟩ : ∃ J' : Nat → Nat → Int64, J' = va_up M ((3 + (i : Int).toNat)) (va_cpy (M ((i : Int).toNat)) (M ((3 + (i : Int).toNat))) 0 0 5) := ⟨_, rfl⟩
        refine Z.toW (w' := cW ce h pl ar G L12 B J) (by rw [eL12]; exact cW_setL (by omega)) ?_
        have gL12 : L12 ((3 + (i : Int).toNat)) = va_cpy (M ((i : Int).toNat)) (M ((3 + (i : Int).toNat))) 0 0 5 := by rw [eL12]; exact up_eq
        have fL12 : ∀ j_, j_ ≠ (3 + (i : Int).toNat) → L12 j_ = M j_ := fun j_ hj_ => by rw [eL12]; exact up_ne hj_
        refine Z.aload_n hX dX1_free_33 rfl rfl ?_
        refine Z.getf hX 5 1 0 dX1_free_34 rfl rfl inX5 (by decide) fl_X1_27 rfl rfl ?_
        refine Z.iload_n hX dX1_free_37 rfl rfl ?_
        refine Z.aaload hX 9 3 dX1_free_38 rfl rfl rfl (by omega) (by omega) (by decide) rfl ?_
        refine Z.iconst hX dX1_free_39 ?_
        refine Z.aload_n hX dX1_free_40 rfl rfl ?_
        refine Z.getf hX 1 3 1 dX1_free_41 rfl rfl inX1 (by decide) fl_X1_15 rfl rfl ?_
        refine Z.iconst hX dX1_free_44 ?_
        refine Z.iconst hX dX1_free_45 ?_
        refine Z.copyA hX (18 + (i : Int).toNat) 12 1 dX1_free_46 (cW_in (by omega)) rfl rfl rfl (by decide) ml_X1_33 (by decide) (Nat.le_of_ble_eq_true rfl) ?_
        obtain ⟨L13, eL13⟩ : ∃ J' : Nat → Nat → Int64, J' = va_up L12 7 (va_cpy (L12 ((i : Int).toNat)) (L12 7) 0 0 5) := ⟨_, rfl⟩
        refine Z.toW (w' := cW ce h pl ar G L13 B J) (by rw [eL13]; rfl) ?_
        have gL13 : L13 7 = va_cpy (L12 ((i : Int).toNat)) (L12 7) 0 0 5 := by rw [eL13]; exact up_eq
        have fL13 : ∀ j_, j_ ≠ 7 → L13 j_ = L12 j_ := fun j_ hj_ => by rw [eL13]; exact up_ne hj_
        refine Z.aload_n hX dX1_free_49 rfl rfl ?_
        refine Z.callVfv (As := []) (rest := []) hX 1 3 rfl rfl (ct_X1_shareWithOther l D ce h pl ar G L13 B J ) mc_X1_shareWithOther ml_X1_39 im_X1_shareWithOther se_X1_shareWithOther ini_X1 nd_X1_shareWithOther ⟨Nat.le_of_ble_eq_true rfl, Nat.le_of_ble_eq_true rfl⟩ ⟨rfl, rfl⟩ ⟨Nat.le_refl _, Nat.le_refl _⟩ rfl (Nat.le_of_ble_eq_true rfl) dX1_free_50 ?_
        rintro w1 ⟨L215, hw_, hsw⟩
        subst hw_
        refine Z.iinc (lv' := [(3, .int (zI (i + 1))), (2, .ref (h 2)), (1, .ref (h 1)), (0, .ref (h 3))]) hX dX1_free_53 rfl (by decide) rfl ?_
        refine Z.goto hX 10 dX1_free_56 (by decide) ?_
        refine Z.pick [0, 1, 2, 3] rfl ?_
        exact ih_10 _ _ (by omega) (by omega) (fun j_ h_3 h_4 h_5 h_6 h_7 h_8 => ((hsw j_ h_6 h_7 h_8).trans ((fL13 j_ h_7).trans ((fL12 j_ (by omega)).trans (hM j_ h_3 h_4 h_5 h_6 h_7 h_8)))))
  refine Z.pick [0, 3, 2, 1] rfl ?_
  exact key_10 _ _ _ (Nat.lt_succ_self _) (by omega) (fun j_ h_3 h_4 h_5 h_6 h_7 h_8 => ((fL3 j_ h_6).trans rfl))
end
