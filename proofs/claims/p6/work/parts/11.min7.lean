theorem dX7_emptied_0 : decode cX7_emptied 0 = .ok (.iconst 0, 1) := by decide +kernel
theorem dX7_emptied_1 : decode cX7_emptied 1 = .ok (.istore_n 1, 1) := by decide +kernel
theorem dX7_emptied_2 : decode cX7_emptied 2 = .ok (.iload_n 1, 1) := by decide +kernel
theorem dX7_emptied_3 : decode cX7_emptied 3 = .ok (.sipush 192, 3) := by decide +kernel
theorem dX7_emptied_6 : decode cX7_emptied 6 = .ok (.if_icmp .ge 16, 3) := by decide +kernel
theorem dX7_emptied_9 : decode cX7_emptied 9 = .ok (.aload_n 0, 1) := by decide +kernel
theorem dX7_emptied_10 : decode cX7_emptied 10 = .ok (.getfield 36, 3) := by decide +kernel
theorem dX7_emptied_13 : decode cX7_emptied 13 = .ok (.iload_n 1, 1) := by decide +kernel
theorem dX7_emptied_14 : decode cX7_emptied 14 = .ok (.lconst 0, 1) := by decide +kernel
theorem dX7_emptied_15 : decode cX7_emptied 15 = .ok (.lastore, 1) := by decide +kernel
theorem dX7_emptied_16 : decode cX7_emptied 16 = .ok (.iinc 1 1, 3) := by decide +kernel
theorem dX7_emptied_19 : decode cX7_emptied 19 = .ok (.goto (-17), 3) := by decide +kernel
theorem dX7_emptied_22 : decode cX7_emptied 22 = .ok (.return_, 1) := by decide +kernel
set_option maxHeartbeats 4000000 in
set_option maxRecDepth 100000 in
theorem ct_X7_emptied (l : Launch) (D : va_G) (ce : Nat → ClassId) (h : Nat → Nat) (F : Nat → Int) (I : Nat → Nat → Int32) (J : Nat → Nat → Int64)  : Ct l yX7_emptied cX7_emptied 2 none { frames := 0, cells := 0, slots := 0, locals := 0 } 0 0 D (TY ce) [.ref (h 0)] (rW ce h F I J) (QV D (TY ce) (fun w1 => ∃ J2 : Nat → Nat → Int64, w1 = rW ce h F I J2 ∧ (∀ k, k ≠ 4 → J2 k = J k) ∧ (∀ q : Int, 0 ≤ q → q < 192 → J2 4 q.toNat = 0))) := by
  refine Ct.ofV (by decide) (Nat.le_of_ble_eq_true rfl) ?_
  intro p e s m args below meth c A Q hX hnm hR
  refine Z.pick (lv' := [(0, .ref (h 0))]) [0] rfl ?_
  refine Z.iconst hX dX7_emptied_0 ?_
  refine Z.istore_n (lv' := [(1, .int (zI 0)), (0, .ref (h 0))]) hX dX7_emptied_1 rfl (by decide) rfl ?_
  have key_2 : ∀ (N : Nat), ∀ (k : Int) (M : Nat → Nat → Int64), (192 - k).toNat < N → (hk : 0 ≤ k ∧ k ≤ 192) → (hM : ∀ k, k ≠ 4 → M k = J k) → (hz : ∀ q : Int, 0 ≤ q → q < k → M 4 q.toNat = 0) → Z p l e { frames := 0, cells := 0, slots := 0, locals := 0 } s m args below meth c D A 2 0 0 Q 2 [(1, .int (zI k)), (0, .ref (h 0))] [] (rW ce h F I M) := by
    intro N
    induction N with
    | zero => intro k M hm; exact absurd hm (Nat.not_lt_zero _)
    | succ N ih_2 =>
      intro k M hm hk hM hz
      refine Z.iload_n hX dX7_emptied_2 rfl rfl ?_
      refine Z.sipush hX dX7_emptied_3 (by decide) ?_
      refine Z.icmp_ge hX 22 dX7_emptied_6 (by decide) ⟨by omega, by omega⟩ ⟨by omega, by omega⟩ ?_ ?_
      · intro c1
        exact hR _ _ _ dX7_emptied_22 ⟨M, rfl, (fun k h4 => (hM k h4)), (fun q h1 h2 => hz q h1 (by omega))⟩
      · intro c1
        refine Z.aload_n hX dX7_emptied_9 rfl rfl ?_
        refine Z.getf hX 7 0 11 dX7_emptied_10 rfl rfl inX7 (by decide) fl_X7_36 rfl rfl ?_
        refine Z.iload_n hX dX7_emptied_13 rfl rfl ?_
        refine Z.lconst (v := 0) hX dX7_emptied_14 rfl ?_
        refine Z.lastore hX 9 1 dX7_emptied_15 rfl rfl (by omega) (by omega) (by decide) ?_
        obtain ⟨J2, eJ2⟩ : ∃ J' : Nat → Nat → Int64, J' = va_up M 4 (vp_updL (M 4) (k : Int).toNat (0)) := ⟨_, rfl⟩
        refine Z.toW (w' := rW ce h F I J2) (by rw [eJ2]; rfl) ?_
        have gJ2 : J2 4 = vp_updL (M 4) (k : Int).toNat (0) := by rw [eJ2]; exact up_eq
        have fJ2 : ∀ k, k ≠ 4 → J2 k = M k := fun k hk => by rw [eJ2]; exact up_ne hk
        refine Z.iinc (lv' := [(1, .int (zI (k + 1))), (0, .ref (h 0))]) hX dX7_emptied_16 rfl (by decide) rfl ?_
        refine Z.goto hX 2 dX7_emptied_19 (by decide) ?_
        refine Z.pick [0, 1] rfl ?_
        exact ih_2 _ _ (by omega) (by omega) (fun k h4 => ((fJ2 k h4).trans (hM k h4))) (z_fill hk.1 gJ2 hz)
  refine Z.pick [0, 1] rfl ?_
  exact key_2 _ _ _ (Nat.lt_succ_self _) (by omega) (fun k h4 => rfl) (fun q h1 h2 => by omega)

theorem dX7_entry_0 : decode cX7_entry 0 = .ok (.aload_n 0, 1) := by decide +kernel
theorem dX7_entry_1 : decode cX7_entry 1 = .ok (.getfield 36, 3) := by decide +kernel
theorem dX7_entry_4 : decode cX7_entry 4 = .ok (.iconst 3, 1) := by decide +kernel
theorem dX7_entry_5 : decode cX7_entry 5 = .ok (.bipush 8, 2) := by decide +kernel
theorem dX7_entry_7 : decode cX7_entry 7 = .ok (.iload_n 1, 1) := by decide +kernel
theorem dX7_entry_8 : decode cX7_entry 8 = .ok (.imul, 1) := by decide +kernel
theorem dX7_entry_9 : decode cX7_entry 9 = .ok (.iload_n 2, 1) := by decide +kernel
theorem dX7_entry_10 : decode cX7_entry 10 = .ok (.iadd, 1) := by decide +kernel
theorem dX7_entry_11 : decode cX7_entry 11 = .ok (.imul, 1) := by decide +kernel
theorem dX7_entry_12 : decode cX7_entry 12 = .ok (.lload_n 3, 1) := by decide +kernel
theorem dX7_entry_13 : decode cX7_entry 13 = .ok (.lastore, 1) := by decide +kernel
theorem dX7_entry_14 : decode cX7_entry 14 = .ok (.aload_n 0, 1) := by decide +kernel
theorem dX7_entry_15 : decode cX7_entry 15 = .ok (.getfield 36, 3) := by decide +kernel
theorem dX7_entry_18 : decode cX7_entry 18 = .ok (.iconst 3, 1) := by decide +kernel
theorem dX7_entry_19 : decode cX7_entry 19 = .ok (.bipush 8, 2) := by decide +kernel
theorem dX7_entry_21 : decode cX7_entry 21 = .ok (.iload_n 1, 1) := by decide +kernel
theorem dX7_entry_22 : decode cX7_entry 22 = .ok (.imul, 1) := by decide +kernel
theorem dX7_entry_23 : decode cX7_entry 23 = .ok (.iload_n 2, 1) := by decide +kernel
theorem dX7_entry_24 : decode cX7_entry 24 = .ok (.iadd, 1) := by decide +kernel
theorem dX7_entry_25 : decode cX7_entry 25 = .ok (.imul, 1) := by decide +kernel
theorem dX7_entry_26 : decode cX7_entry 26 = .ok (.iconst 1, 1) := by decide +kernel
theorem dX7_entry_27 : decode cX7_entry 27 = .ok (.iadd, 1) := by decide +kernel
theorem dX7_entry_28 : decode cX7_entry 28 = .ok (.lload 5, 2) := by decide +kernel
theorem dX7_entry_30 : decode cX7_entry 30 = .ok (.lastore, 1) := by decide +kernel
theorem dX7_entry_31 : decode cX7_entry 31 = .ok (.aload_n 0, 1) := by decide +kernel
theorem dX7_entry_32 : decode cX7_entry 32 = .ok (.getfield 36, 3) := by decide +kernel
theorem dX7_entry_35 : decode cX7_entry 35 = .ok (.iconst 3, 1) := by decide +kernel
theorem dX7_entry_36 : decode cX7_entry 36 = .ok (.bipush 8, 2) := by decide +kernel
theorem dX7_entry_38 : decode cX7_entry 38 = .ok (.iload_n 1, 1) := by decide +kernel
theorem dX7_entry_39 : decode cX7_entry 39 = .ok (.imul, 1) := by decide +kernel
theorem dX7_entry_40 : decode cX7_entry 40 = .ok (.iload_n 2, 1) := by decide +kernel
theorem dX7_entry_41 : decode cX7_entry 41 = .ok (.iadd, 1) := by decide +kernel
theorem dX7_entry_42 : decode cX7_entry 42 = .ok (.imul, 1) := by decide +kernel
theorem dX7_entry_43 : decode cX7_entry 43 = .ok (.iconst 2, 1) := by decide +kernel
theorem dX7_entry_44 : decode cX7_entry 44 = .ok (.iadd, 1) := by decide +kernel
theorem dX7_entry_45 : decode cX7_entry 45 = .ok (.lload 7, 2) := by decide +kernel
theorem dX7_entry_47 : decode cX7_entry 47 = .ok (.lastore, 1) := by decide +kernel
theorem dX7_entry_48 : decode cX7_entry 48 = .ok (.return_, 1) := by decide +kernel
set_option maxHeartbeats 4000000 in
set_option maxRecDepth 100000 in
theorem ct_X7_entry (l : Launch) (D : va_G) (ce : Nat → ClassId) (h : Nat → Nat) (F : Nat → Int) (I : Nat → Nat → Int32) (J : Nat → Nat → Int64) (r cn : Int) (x0 x1 x2 : Int64) (hr : 0 ≤ r ∧ r < 8) (hc : 0 ≤ cn ∧ cn < 8) : Ct l yX7_entry cX7_entry 9 none { frames := 0, cells := 0, slots := 0, locals := 0 } 0 0 D (TY ce) [.ref (h 0), .int (zI r), .int (zI cn), .long x0, .long x1, .long x2] (rW ce h F I J) (QV D (TY ce) (fun w1 => ∃ J2 : Nat → Nat → Int64, w1 = rW ce h F I J2 ∧ (∀ k, k ≠ 4 → J2 k = J k) ∧ (∀ q : Int, 0 ≤ q → J2 4 q.toNat = if q = 3 * (8 * r + cn) + 2 then x2 else if q = 3 * (8 * r + cn) + 1 then x1 else if q = 3 * (8 * r + cn) then x0 else J 4 q.toNat))) := by
  refine Ct.ofV (by decide) (Nat.le_of_ble_eq_true rfl) ?_
  intro p e s m args below meth c A Q hX hnm hR
  refine Z.pick (lv' := [(0, .ref (h 0)), (1, .int (zI r)), (2, .int (zI cn)), (3, .long x0), (5, .long x1), (7, .long x2)]) [0, 1, 2, 3, 4, 5] rfl ?_
  refine Z.aload_n hX dX7_entry_0 rfl rfl ?_
  refine Z.getf hX 7 0 11 dX7_entry_1 rfl rfl inX7 (by decide) fl_X7_36 rfl rfl ?_
  refine Z.iconst hX dX7_entry_4 ?_
  refine Z.bipush hX dX7_entry_5 (by decide) ?_
  refine Z.iload_n hX dX7_entry_7 rfl rfl ?_
  refine Z.imul hX dX7_entry_8 ?_
  refine Z.iload_n hX dX7_entry_9 rfl rfl ?_
  refine Z.iadd hX dX7_entry_10 ?_
  refine Z.imul hX dX7_entry_11 ?_
  refine Z.lload_n hX dX7_entry_12 rfl rfl ?_
  refine Z.lastore hX 9 1 dX7_entry_13 rfl rfl (by omega) (by omega) (by decide) ?_
  obtain ⟨J1, eJ1⟩ : ∃ J' : Nat → Nat → Int64, J' = va_up J 4 (vp_updL (J 4) (3 * ((8 * r) + cn) : Int).toNat (x0)) := ⟨_, rfl⟩
  refine Z.toW (w' := rW ce h F I J1) (by rw [eJ1]; rfl) ?_
  have gJ1 : J1 4 = vp_updL (J 4) (3 * ((8 * r) + cn) : Int).toNat (x0) := by rw [eJ1]; exact up_eq
  have fJ1 : ∀ k, k ≠ 4 → J1 k = J k := fun k hk => by rw [eJ1]; exact up_ne hk
  refine Z.aload_n hX dX7_entry_14 rfl rfl ?_
  refine Z.getf hX 7 0 11 dX7_entry_15 rfl rfl inX7 (by decide) fl_X7_36 rfl rfl ?_
  refine Z.iconst hX dX7_entry_18 ?_
  refine Z.bipush hX dX7_entry_19 (by decide) ?_
  refine Z.iload_n hX dX7_entry_21 rfl rfl ?_
  refine Z.imul hX dX7_entry_22 ?_
  refine Z.iload_n hX dX7_entry_23 rfl rfl ?_
  refine Z.iadd hX dX7_entry_24 ?_
  refine Z.imul hX dX7_entry_25 ?_
  refine Z.iconst hX dX7_entry_26 ?_
  refine Z.iadd hX dX7_entry_27 ?_
  refine Z.lload hX dX7_entry_28 rfl ?_
  refine Z.lastore hX 9 1 dX7_entry_30 rfl rfl (by omega) (by omega) (by decide) ?_
  obtain ⟨J2, eJ2⟩ : ∃ J' : Nat → Nat → Int64, J' = va_up J1 4 (vp_updL (J1 4) ((3 * ((8 * r) + cn)) + 1 : Int).toNat (x1)) := ⟨_, rfl⟩
  refine Z.toW (w' := rW ce h F I J2) (by rw [eJ2]; rfl) ?_
  have gJ2 : J2 4 = vp_updL (J1 4) ((3 * ((8 * r) + cn)) + 1 : Int).toNat (x1) := by rw [eJ2]; exact up_eq
  have fJ2 : ∀ k, k ≠ 4 → J2 k = J1 k := fun k hk => by rw [eJ2]; exact up_ne hk
  refine Z.aload_n hX dX7_entry_31 rfl rfl ?_
  refine Z.getf hX 7 0 11 dX7_entry_32 rfl rfl inX7 (by decide) fl_X7_36 rfl rfl ?_
  refine Z.iconst hX dX7_entry_35 ?_
  refine Z.bipush hX dX7_entry_36 (by decide) ?_
  refine Z.iload_n hX dX7_entry_38 rfl rfl ?_
  refine Z.imul hX dX7_entry_39 ?_
  refine Z.iload_n hX dX7_entry_40 rfl rfl ?_
  refine Z.iadd hX dX7_entry_41 ?_
  refine Z.imul hX dX7_entry_42 ?_
  refine Z.iconst hX dX7_entry_43 ?_
  refine Z.iadd hX dX7_entry_44 ?_
  refine Z.lload hX dX7_entry_45 rfl ?_
  refine Z.lastore hX 9 1 dX7_entry_47 rfl rfl (by omega) (by omega) (by decide) ?_
  obtain ⟨J3, eJ3⟩ : ∃ J' : Nat → Nat → Int64, J' = va_up J2 4 (vp_updL (J2 4) ((3 * ((8 * r) + cn)) + 2 : Int).toNat (x2)) := ⟨_, rfl⟩
  refine Z.toW (w' := rW ce h F I J3) (by rw [eJ3]; rfl) ?_
  have gJ3 : J3 4 = vp_updL (J2 4) ((3 * ((8 * r) + cn)) + 2 : Int).toNat (x2) := by rw [eJ3]; exact up_eq
  have fJ3 : ∀ k, k ≠ 4 → J3 k = J2 k := fun k hk => by rw [eJ3]; exact up_ne hk
  exact hR _ _ _ dX7_entry_48 ⟨J3, rfl, (fun k h4 => ((fJ3 k h4).trans ((fJ2 k h4).trans ((fJ1 k h4).trans rfl)))), (fun q hq => by rw [gJ3, up_at (by omega) hq, gJ2, up_at (by omega) hq, gJ1, up_at (by omega) hq])⟩

theorem dX7_minorsOf_0 : decode cX7_minorsOf 0 = .ok (.iconst 0, 1) := by decide +kernel
theorem dX7_minorsOf_1 : decode cX7_minorsOf 1 = .ok (.istore_n 2, 1) := by decide +kernel
theorem dX7_minorsOf_2 : decode cX7_minorsOf 2 = .ok (.iload_n 2, 1) := by decide +kernel
theorem dX7_minorsOf_3 : decode cX7_minorsOf 3 = .ok (.sipush 12544, 3) := by decide +kernel
theorem dX7_minorsOf_6 : decode cX7_minorsOf 6 = .ok (.if_icmp .ge 16, 3) := by decide +kernel
theorem dX7_minorsOf_9 : decode cX7_minorsOf 9 = .ok (.aload_n 0, 1) := by decide +kernel
theorem dX7_minorsOf_10 : decode cX7_minorsOf 10 = .ok (.getfield 39, 3) := by decide +kernel
theorem dX7_minorsOf_13 : decode cX7_minorsOf 13 = .ok (.iload_n 2, 1) := by decide +kernel
theorem dX7_minorsOf_14 : decode cX7_minorsOf 14 = .ok (.lconst 0, 1) := by decide +kernel
theorem dX7_minorsOf_15 : decode cX7_minorsOf 15 = .ok (.lastore, 1) := by decide +kernel
theorem dX7_minorsOf_16 : decode cX7_minorsOf 16 = .ok (.iinc 2 1, 3) := by decide +kernel
theorem dX7_minorsOf_19 : decode cX7_minorsOf 19 = .ok (.goto (-17), 3) := by decide +kernel
theorem dX7_minorsOf_22 : decode cX7_minorsOf 22 = .ok (.aload_n 0, 1) := by decide +kernel
theorem dX7_minorsOf_23 : decode cX7_minorsOf 23 = .ok (.getfield 39, 3) := by decide +kernel
theorem dX7_minorsOf_26 : decode cX7_minorsOf 26 = .ok (.iconst 0, 1) := by decide +kernel
theorem dX7_minorsOf_27 : decode cX7_minorsOf 27 = .ok (.lconst 1, 1) := by decide +kernel
theorem dX7_minorsOf_28 : decode cX7_minorsOf 28 = .ok (.lastore, 1) := by decide +kernel
theorem dX7_minorsOf_29 : decode cX7_minorsOf 29 = .ok (.iconst 1, 1) := by decide +kernel
theorem dX7_minorsOf_30 : decode cX7_minorsOf 30 = .ok (.istore_n 2, 1) := by decide +kernel
theorem dX7_minorsOf_31 : decode cX7_minorsOf 31 = .ok (.iload_n 2, 1) := by decide +kernel
theorem dX7_minorsOf_32 : decode cX7_minorsOf 32 = .ok (.iconst 1, 1) := by decide +kernel
theorem dX7_minorsOf_33 : decode cX7_minorsOf 33 = .ok (.iload_n 1, 1) := by decide +kernel
theorem dX7_minorsOf_34 : decode cX7_minorsOf 34 = .ok (.ishl, 1) := by decide +kernel
theorem dX7_minorsOf_35 : decode cX7_minorsOf 35 = .ok (.if_icmp .ge 270, 3) := by decide +kernel
theorem dX7_minorsOf_38 : decode cX7_minorsOf 38 = .ok (.iload_n 2, 1) := by decide +kernel
theorem dX7_minorsOf_39 : decode cX7_minorsOf 39 = .ok (.invokestatic 86, 3) := by decide +kernel
theorem dX7_minorsOf_42 : decode cX7_minorsOf 42 = .ok (.iconst 1, 1) := by decide +kernel
theorem dX7_minorsOf_43 : decode cX7_minorsOf 43 = .ok (.isub, 1) := by decide +kernel
theorem dX7_minorsOf_44 : decode cX7_minorsOf 44 = .ok (.istore_n 3, 1) := by decide +kernel
theorem dX7_minorsOf_45 : decode cX7_minorsOf 45 = .ok (.iconst 1, 1) := by decide +kernel
theorem dX7_minorsOf_46 : decode cX7_minorsOf 46 = .ok (.istore 4, 2) := by decide +kernel
theorem dX7_minorsOf_48 : decode cX7_minorsOf 48 = .ok (.iload_n 1, 1) := by decide +kernel
theorem dX7_minorsOf_49 : decode cX7_minorsOf 49 = .ok (.iconst 1, 1) := by decide +kernel
theorem dX7_minorsOf_50 : decode cX7_minorsOf 50 = .ok (.isub, 1) := by decide +kernel
theorem dX7_minorsOf_51 : decode cX7_minorsOf 51 = .ok (.istore 5, 2) := by decide +kernel
theorem dX7_minorsOf_53 : decode cX7_minorsOf 53 = .ok (.iload 5, 2) := by decide +kernel
theorem dX7_minorsOf_55 : decode cX7_minorsOf 55 = .ok (.ifCond .lt 244, 3) := by decide +kernel
theorem dX7_minorsOf_58 : decode cX7_minorsOf 58 = .ok (.iload_n 2, 1) := by decide +kernel
theorem dX7_minorsOf_59 : decode cX7_minorsOf 59 = .ok (.iload 5, 2) := by decide +kernel
theorem dX7_minorsOf_61 : decode cX7_minorsOf 61 = .ok (.ishr, 1) := by decide +kernel
theorem dX7_minorsOf_62 : decode cX7_minorsOf 62 = .ok (.iconst 1, 1) := by decide +kernel
theorem dX7_minorsOf_63 : decode cX7_minorsOf 63 = .ok (.iand, 1) := by decide +kernel
theorem dX7_minorsOf_64 : decode cX7_minorsOf 64 = .ok (.iconst 1, 1) := by decide +kernel
theorem dX7_minorsOf_65 : decode cX7_minorsOf 65 = .ok (.if_icmp .ne 228, 3) := by decide +kernel
theorem dX7_minorsOf_68 : decode cX7_minorsOf 68 = .ok (.bipush 49, 2) := by decide +kernel
theorem dX7_minorsOf_70 : decode cX7_minorsOf 70 = .ok (.iload_n 2, 1) := by decide +kernel
theorem dX7_minorsOf_71 : decode cX7_minorsOf 71 = .ok (.iconst 1, 1) := by decide +kernel
theorem dX7_minorsOf_72 : decode cX7_minorsOf 72 = .ok (.iload 5, 2) := by decide +kernel
theorem dX7_minorsOf_74 : decode cX7_minorsOf 74 = .ok (.ishl, 1) := by decide +kernel
theorem dX7_minorsOf_75 : decode cX7_minorsOf 75 = .ok (.ixor, 1) := by decide +kernel
theorem dX7_minorsOf_76 : decode cX7_minorsOf 76 = .ok (.imul, 1) := by decide +kernel
theorem dX7_minorsOf_77 : decode cX7_minorsOf 77 = .ok (.istore 6, 2) := by decide +kernel
theorem dX7_minorsOf_79 : decode cX7_minorsOf 79 = .ok (.iconst 3, 1) := by decide +kernel
theorem dX7_minorsOf_80 : decode cX7_minorsOf 80 = .ok (.bipush 8, 2) := by decide +kernel
theorem dX7_minorsOf_82 : decode cX7_minorsOf 82 = .ok (.iload_n 3, 1) := by decide +kernel
theorem dX7_minorsOf_83 : decode cX7_minorsOf 83 = .ok (.imul, 1) := by decide +kernel
theorem dX7_minorsOf_84 : decode cX7_minorsOf 84 = .ok (.iload 5, 2) := by decide +kernel
theorem dX7_minorsOf_86 : decode cX7_minorsOf 86 = .ok (.iadd, 1) := by decide +kernel
theorem dX7_minorsOf_87 : decode cX7_minorsOf 87 = .ok (.imul, 1) := by decide +kernel
theorem dX7_minorsOf_88 : decode cX7_minorsOf 88 = .ok (.istore 7, 2) := by decide +kernel
theorem dX7_minorsOf_90 : decode cX7_minorsOf 90 = .ok (.iconst 0, 1) := by decide +kernel
theorem dX7_minorsOf_91 : decode cX7_minorsOf 91 = .ok (.istore 8, 2) := by decide +kernel
theorem dX7_minorsOf_93 : decode cX7_minorsOf 93 = .ok (.iload 8, 2) := by decide +kernel
theorem dX7_minorsOf_95 : decode cX7_minorsOf 95 = .ok (.bipush 7, 2) := by decide +kernel
theorem dX7_minorsOf_97 : decode cX7_minorsOf 97 = .ok (.if_icmp .ge 191, 3) := by decide +kernel
theorem dX7_minorsOf_100 : decode cX7_minorsOf 100 = .ok (.iconst 0, 1) := by decide +kernel
theorem dX7_minorsOf_101 : decode cX7_minorsOf 101 = .ok (.istore 9, 2) := by decide +kernel
theorem dX7_minorsOf_103 : decode cX7_minorsOf 103 = .ok (.iload 9, 2) := by decide +kernel
theorem dX7_minorsOf_105 : decode cX7_minorsOf 105 = .ok (.bipush 7, 2) := by decide +kernel
theorem dX7_minorsOf_107 : decode cX7_minorsOf 107 = .ok (.if_icmp .ge 175, 3) := by decide +kernel
theorem dX7_minorsOf_110 : decode cX7_minorsOf 110 = .ok (.aload_n 0, 1) := by decide +kernel
theorem dX7_minorsOf_111 : decode cX7_minorsOf 111 = .ok (.getfield 39, 3) := by decide +kernel
theorem dX7_minorsOf_114 : decode cX7_minorsOf 114 = .ok (.iload 6, 2) := by decide +kernel
theorem dX7_minorsOf_116 : decode cX7_minorsOf 116 = .ok (.bipush 7, 2) := by decide +kernel
theorem dX7_minorsOf_118 : decode cX7_minorsOf 118 = .ok (.iload 8, 2) := by decide +kernel
theorem dX7_minorsOf_120 : decode cX7_minorsOf 120 = .ok (.imul, 1) := by decide +kernel
theorem dX7_minorsOf_121 : decode cX7_minorsOf 121 = .ok (.iadd, 1) := by decide +kernel
theorem dX7_minorsOf_122 : decode cX7_minorsOf 122 = .ok (.iload 9, 2) := by decide +kernel
theorem dX7_minorsOf_124 : decode cX7_minorsOf 124 = .ok (.iadd, 1) := by decide +kernel
theorem dX7_minorsOf_125 : decode cX7_minorsOf 125 = .ok (.laload, 1) := by decide +kernel
theorem dX7_minorsOf_126 : decode cX7_minorsOf 126 = .ok (.lstore 10, 2) := by decide +kernel
theorem dX7_minorsOf_128 : decode cX7_minorsOf 128 = .ok (.lload 10, 2) := by decide +kernel
theorem dX7_minorsOf_130 : decode cX7_minorsOf 130 = .ok (.lconst 0, 1) := by decide +kernel
theorem dX7_minorsOf_131 : decode cX7_minorsOf 131 = .ok (.lcmp, 1) := by decide +kernel
theorem dX7_minorsOf_132 : decode cX7_minorsOf 132 = .ok (.ifCond .eq 144, 3) := by decide +kernel
theorem dX7_minorsOf_135 : decode cX7_minorsOf 135 = .ok (.aload_n 0, 1) := by decide +kernel
theorem dX7_minorsOf_136 : decode cX7_minorsOf 136 = .ok (.getfield 39, 3) := by decide +kernel
theorem dX7_minorsOf_139 : decode cX7_minorsOf 139 = .ok (.bipush 49, 2) := by decide +kernel
theorem dX7_minorsOf_141 : decode cX7_minorsOf 141 = .ok (.iload_n 2, 1) := by decide +kernel
theorem dX7_minorsOf_142 : decode cX7_minorsOf 142 = .ok (.imul, 1) := by decide +kernel
theorem dX7_minorsOf_143 : decode cX7_minorsOf 143 = .ok (.bipush 7, 2) := by decide +kernel
theorem dX7_minorsOf_145 : decode cX7_minorsOf 145 = .ok (.iload 8, 2) := by decide +kernel
theorem dX7_minorsOf_147 : decode cX7_minorsOf 147 = .ok (.imul, 1) := by decide +kernel
theorem dX7_minorsOf_148 : decode cX7_minorsOf 148 = .ok (.iadd, 1) := by decide +kernel
theorem dX7_minorsOf_149 : decode cX7_minorsOf 149 = .ok (.iload 9, 2) := by decide +kernel
theorem dX7_minorsOf_151 : decode cX7_minorsOf 151 = .ok (.iadd, 1) := by decide +kernel
theorem dX7_minorsOf_152 : decode cX7_minorsOf 152 = .ok (.dup2, 1) := by decide +kernel
theorem dX7_minorsOf_153 : decode cX7_minorsOf 153 = .ok (.laload, 1) := by decide +kernel
theorem dX7_minorsOf_154 : decode cX7_minorsOf 154 = .ok (.iload 4, 2) := by decide +kernel
theorem dX7_minorsOf_156 : decode cX7_minorsOf 156 = .ok (.i2l, 1) := by decide +kernel
theorem dX7_minorsOf_157 : decode cX7_minorsOf 157 = .ok (.lload 10, 2) := by decide +kernel
theorem dX7_minorsOf_159 : decode cX7_minorsOf 159 = .ok (.lmul, 1) := by decide +kernel
theorem dX7_minorsOf_160 : decode cX7_minorsOf 160 = .ok (.aload_n 0, 1) := by decide +kernel
theorem dX7_minorsOf_161 : decode cX7_minorsOf 161 = .ok (.getfield 36, 3) := by decide +kernel
theorem dX7_minorsOf_164 : decode cX7_minorsOf 164 = .ok (.iload 7, 2) := by decide +kernel
theorem dX7_minorsOf_166 : decode cX7_minorsOf 166 = .ok (.laload, 1) := by decide +kernel
theorem dX7_minorsOf_167 : decode cX7_minorsOf 167 = .ok (.lmul, 1) := by decide +kernel
theorem dX7_minorsOf_168 : decode cX7_minorsOf 168 = .ok (.ladd, 1) := by decide +kernel
theorem dX7_minorsOf_169 : decode cX7_minorsOf 169 = .ok (.lastore, 1) := by decide +kernel
theorem dX7_minorsOf_170 : decode cX7_minorsOf 170 = .ok (.aload_n 0, 1) := by decide +kernel
theorem dX7_minorsOf_171 : decode cX7_minorsOf 171 = .ok (.getfield 36, 3) := by decide +kernel
theorem dX7_minorsOf_174 : decode cX7_minorsOf 174 = .ok (.iload 7, 2) := by decide +kernel
theorem dX7_minorsOf_176 : decode cX7_minorsOf 176 = .ok (.iconst 1, 1) := by decide +kernel
theorem dX7_minorsOf_177 : decode cX7_minorsOf 177 = .ok (.iadd, 1) := by decide +kernel
theorem dX7_minorsOf_178 : decode cX7_minorsOf 178 = .ok (.laload, 1) := by decide +kernel
theorem dX7_minorsOf_179 : decode cX7_minorsOf 179 = .ok (.lconst 0, 1) := by decide +kernel
theorem dX7_minorsOf_180 : decode cX7_minorsOf 180 = .ok (.lcmp, 1) := by decide +kernel
theorem dX7_minorsOf_181 : decode cX7_minorsOf 181 = .ok (.ifCond .eq 42, 3) := by decide +kernel
theorem dX7_minorsOf_184 : decode cX7_minorsOf 184 = .ok (.aload_n 0, 1) := by decide +kernel
theorem dX7_minorsOf_185 : decode cX7_minorsOf 185 = .ok (.getfield 39, 3) := by decide +kernel
theorem dX7_minorsOf_188 : decode cX7_minorsOf 188 = .ok (.bipush 49, 2) := by decide +kernel
theorem dX7_minorsOf_190 : decode cX7_minorsOf 190 = .ok (.iload_n 2, 1) := by decide +kernel
theorem dX7_minorsOf_191 : decode cX7_minorsOf 191 = .ok (.imul, 1) := by decide +kernel
theorem dX7_minorsOf_192 : decode cX7_minorsOf 192 = .ok (.bipush 7, 2) := by decide +kernel
theorem dX7_minorsOf_194 : decode cX7_minorsOf 194 = .ok (.iload 8, 2) := by decide +kernel
theorem dX7_minorsOf_196 : decode cX7_minorsOf 196 = .ok (.iconst 1, 1) := by decide +kernel
theorem dX7_minorsOf_197 : decode cX7_minorsOf 197 = .ok (.iadd, 1) := by decide +kernel
theorem dX7_minorsOf_198 : decode cX7_minorsOf 198 = .ok (.imul, 1) := by decide +kernel
theorem dX7_minorsOf_199 : decode cX7_minorsOf 199 = .ok (.iadd, 1) := by decide +kernel
theorem dX7_minorsOf_200 : decode cX7_minorsOf 200 = .ok (.iload 9, 2) := by decide +kernel
theorem dX7_minorsOf_202 : decode cX7_minorsOf 202 = .ok (.iadd, 1) := by decide +kernel
theorem dX7_minorsOf_203 : decode cX7_minorsOf 203 = .ok (.dup2, 1) := by decide +kernel
theorem dX7_minorsOf_204 : decode cX7_minorsOf 204 = .ok (.laload, 1) := by decide +kernel
theorem dX7_minorsOf_205 : decode cX7_minorsOf 205 = .ok (.iload 4, 2) := by decide +kernel
theorem dX7_minorsOf_207 : decode cX7_minorsOf 207 = .ok (.i2l, 1) := by decide +kernel
theorem dX7_minorsOf_208 : decode cX7_minorsOf 208 = .ok (.lload 10, 2) := by decide +kernel
theorem dX7_minorsOf_210 : decode cX7_minorsOf 210 = .ok (.lmul, 1) := by decide +kernel
theorem dX7_minorsOf_211 : decode cX7_minorsOf 211 = .ok (.aload_n 0, 1) := by decide +kernel
theorem dX7_minorsOf_212 : decode cX7_minorsOf 212 = .ok (.getfield 36, 3) := by decide +kernel
theorem dX7_minorsOf_215 : decode cX7_minorsOf 215 = .ok (.iload 7, 2) := by decide +kernel
theorem dX7_minorsOf_217 : decode cX7_minorsOf 217 = .ok (.iconst 1, 1) := by decide +kernel
theorem dX7_minorsOf_218 : decode cX7_minorsOf 218 = .ok (.iadd, 1) := by decide +kernel
theorem dX7_minorsOf_219 : decode cX7_minorsOf 219 = .ok (.laload, 1) := by decide +kernel
theorem dX7_minorsOf_220 : decode cX7_minorsOf 220 = .ok (.lmul, 1) := by decide +kernel
theorem dX7_minorsOf_221 : decode cX7_minorsOf 221 = .ok (.ladd, 1) := by decide +kernel
theorem dX7_minorsOf_222 : decode cX7_minorsOf 222 = .ok (.lastore, 1) := by decide +kernel
theorem dX7_minorsOf_223 : decode cX7_minorsOf 223 = .ok (.aload_n 0, 1) := by decide +kernel
theorem dX7_minorsOf_224 : decode cX7_minorsOf 224 = .ok (.getfield 36, 3) := by decide +kernel
theorem dX7_minorsOf_227 : decode cX7_minorsOf 227 = .ok (.iload 7, 2) := by decide +kernel
theorem dX7_minorsOf_229 : decode cX7_minorsOf 229 = .ok (.iconst 2, 1) := by decide +kernel
theorem dX7_minorsOf_230 : decode cX7_minorsOf 230 = .ok (.iadd, 1) := by decide +kernel
theorem dX7_minorsOf_231 : decode cX7_minorsOf 231 = .ok (.laload, 1) := by decide +kernel
theorem dX7_minorsOf_232 : decode cX7_minorsOf 232 = .ok (.lconst 0, 1) := by decide +kernel
theorem dX7_minorsOf_233 : decode cX7_minorsOf 233 = .ok (.lcmp, 1) := by decide +kernel
theorem dX7_minorsOf_234 : decode cX7_minorsOf 234 = .ok (.ifCond .eq 42, 3) := by decide +kernel
theorem dX7_minorsOf_237 : decode cX7_minorsOf 237 = .ok (.aload_n 0, 1) := by decide +kernel
theorem dX7_minorsOf_238 : decode cX7_minorsOf 238 = .ok (.getfield 39, 3) := by decide +kernel
theorem dX7_minorsOf_241 : decode cX7_minorsOf 241 = .ok (.bipush 49, 2) := by decide +kernel
theorem dX7_minorsOf_243 : decode cX7_minorsOf 243 = .ok (.iload_n 2, 1) := by decide +kernel
theorem dX7_minorsOf_244 : decode cX7_minorsOf 244 = .ok (.imul, 1) := by decide +kernel
theorem dX7_minorsOf_245 : decode cX7_minorsOf 245 = .ok (.bipush 7, 2) := by decide +kernel
theorem dX7_minorsOf_247 : decode cX7_minorsOf 247 = .ok (.iload 8, 2) := by decide +kernel
theorem dX7_minorsOf_249 : decode cX7_minorsOf 249 = .ok (.imul, 1) := by decide +kernel
theorem dX7_minorsOf_250 : decode cX7_minorsOf 250 = .ok (.iadd, 1) := by decide +kernel
theorem dX7_minorsOf_251 : decode cX7_minorsOf 251 = .ok (.iload 9, 2) := by decide +kernel
theorem dX7_minorsOf_253 : decode cX7_minorsOf 253 = .ok (.iadd, 1) := by decide +kernel
theorem dX7_minorsOf_254 : decode cX7_minorsOf 254 = .ok (.iconst 1, 1) := by decide +kernel
theorem dX7_minorsOf_255 : decode cX7_minorsOf 255 = .ok (.iadd, 1) := by decide +kernel
theorem dX7_minorsOf_256 : decode cX7_minorsOf 256 = .ok (.dup2, 1) := by decide +kernel
theorem dX7_minorsOf_257 : decode cX7_minorsOf 257 = .ok (.laload, 1) := by decide +kernel
theorem dX7_minorsOf_258 : decode cX7_minorsOf 258 = .ok (.iload 4, 2) := by decide +kernel
theorem dX7_minorsOf_260 : decode cX7_minorsOf 260 = .ok (.i2l, 1) := by decide +kernel
theorem dX7_minorsOf_261 : decode cX7_minorsOf 261 = .ok (.lload 10, 2) := by decide +kernel
theorem dX7_minorsOf_263 : decode cX7_minorsOf 263 = .ok (.lmul, 1) := by decide +kernel
theorem dX7_minorsOf_264 : decode cX7_minorsOf 264 = .ok (.aload_n 0, 1) := by decide +kernel
theorem dX7_minorsOf_265 : decode cX7_minorsOf 265 = .ok (.getfield 36, 3) := by decide +kernel
theorem dX7_minorsOf_268 : decode cX7_minorsOf 268 = .ok (.iload 7, 2) := by decide +kernel
theorem dX7_minorsOf_270 : decode cX7_minorsOf 270 = .ok (.iconst 2, 1) := by decide +kernel
theorem dX7_minorsOf_271 : decode cX7_minorsOf 271 = .ok (.iadd, 1) := by decide +kernel
theorem dX7_minorsOf_272 : decode cX7_minorsOf 272 = .ok (.laload, 1) := by decide +kernel
theorem dX7_minorsOf_273 : decode cX7_minorsOf 273 = .ok (.lmul, 1) := by decide +kernel
theorem dX7_minorsOf_274 : decode cX7_minorsOf 274 = .ok (.ladd, 1) := by decide +kernel
theorem dX7_minorsOf_275 : decode cX7_minorsOf 275 = .ok (.lastore, 1) := by decide +kernel
theorem dX7_minorsOf_276 : decode cX7_minorsOf 276 = .ok (.iinc 9 1, 3) := by decide +kernel
theorem dX7_minorsOf_279 : decode cX7_minorsOf 279 = .ok (.goto (-176), 3) := by decide +kernel
theorem dX7_minorsOf_282 : decode cX7_minorsOf 282 = .ok (.iinc 8 1, 3) := by decide +kernel
theorem dX7_minorsOf_285 : decode cX7_minorsOf 285 = .ok (.goto (-192), 3) := by decide +kernel
theorem dX7_minorsOf_288 : decode cX7_minorsOf 288 = .ok (.iload 4, 2) := by decide +kernel
theorem dX7_minorsOf_290 : decode cX7_minorsOf 290 = .ok (.ineg, 1) := by decide +kernel
theorem dX7_minorsOf_291 : decode cX7_minorsOf 291 = .ok (.istore 4, 2) := by decide +kernel
theorem dX7_minorsOf_293 : decode cX7_minorsOf 293 = .ok (.iinc 5 (-1), 3) := by decide +kernel
theorem dX7_minorsOf_296 : decode cX7_minorsOf 296 = .ok (.goto (-243), 3) := by decide +kernel
theorem dX7_minorsOf_299 : decode cX7_minorsOf 299 = .ok (.iinc 2 1, 3) := by decide +kernel
theorem dX7_minorsOf_302 : decode cX7_minorsOf 302 = .ok (.goto (-271), 3) := by decide +kernel
theorem dX7_minorsOf_305 : decode cX7_minorsOf 305 = .ok (.return_, 1) := by decide +kernel
set_option maxHeartbeats 4000000 in
set_option maxRecDepth 100000 in
theorem ct_X7_minorsOf (l : Launch) (D : va_G) (ce : Nat → ClassId) (h : Nat → Nat) (F : Nat → Int) (I : Nat → Nat → Int32) (J : Nat → Nat → Int64) (n X Y : Int) (hn : 2 ≤ n ∧ n ≤ 8) (hXY : 0 ≤ X ∧ 0 ≤ Y ∧ (X ≤ 5 ∨ n ≤ 6) ∧ n - Y ≤ 6) (hE : EZ (J 4) X Y) : Ct l yX7_minorsOf cX7_minorsOf 12 none { frames := 1, cells := 0, slots := 0, locals := 22 } 0 0 D (TY ce) [.ref (h 0), .int (zI n)] (rW ce h F I J) (QV D (TY ce) (fun w1 => ∃ J2 : Nat → Nat → Int64, w1 = rW ce h F I J2 ∧ (∀ k, k ≠ 5 → J2 k = J k))) := by
  refine Ct.ofV (by decide) (Nat.le_of_ble_eq_true rfl) ?_
  intro p e s m args below meth c A Q hX hnm hR
  refine Z.pick (lv' := [(0, .ref (h 0)), (1, .int (zI n))]) [0, 1] rfl ?_
  obtain ⟨T, hT, hT1, hT2, hT3⟩ := sh1 (n := n) (by omega) hn.2
  refine Z.iconst hX dX7_minorsOf_0 ?_
  refine Z.istore_n (lv' := [(2, .int (zI 0)), (0, .ref (h 0)), (1, .int (zI n))]) hX dX7_minorsOf_1 rfl (by decide) rfl ?_
  have key_2 : ∀ (N : Nat), ∀ (k : Int) (M : Nat → Nat → Int64), (12544 - k).toNat < N → (hk : 0 ≤ k ∧ k ≤ 12544) → (hM : ∀ k, k ≠ 5 → M k = J k) → (hz : ∀ q : Int, 0 ≤ q → q < k → M 5 q.toNat = 0) → Z p l e { frames := 1, cells := 0, slots := 0, locals := 22 } s m args below meth c D A 12 0 0 Q 2 [(2, .int (zI k)), (1, .int (zI n)), (0, .ref (h 0))] [] (rW ce h F I M) := by
    intro N
    induction N with
    | zero => intro k M hm; exact absurd hm (Nat.not_lt_zero _)
    | succ N ih_2 =>
      intro k M hm hk hM hz
      refine Z.iload_n hX dX7_minorsOf_2 rfl rfl ?_
      refine Z.sipush hX dX7_minorsOf_3 (by decide) ?_
      refine Z.icmp_ge hX 22 dX7_minorsOf_6 (by decide) ⟨by omega, by omega⟩ ⟨by omega, by omega⟩ ?_ ?_
      · intro c1
        refine Z.aload_n hX dX7_minorsOf_22 rfl rfl ?_
        refine Z.getf hX 7 0 12 dX7_minorsOf_23 rfl rfl inX7 (by decide) fl_X7_39 rfl rfl ?_
        refine Z.iconst hX dX7_minorsOf_26 ?_
        refine Z.lconst (v := 1) hX dX7_minorsOf_27 rfl ?_
        refine Z.lastore hX 10 1 dX7_minorsOf_28 rfl rfl (by omega) (by omega) (by decide) ?_
        obtain ⟨J2, eJ2⟩ : ∃ J' : Nat → Nat → Int64, J' = va_up M 5 (vp_updL (M 5) (0 : Int).toNat (1)) := ⟨_, rfl⟩
        refine Z.toW (w' := rW ce h F I J2) (by rw [eJ2]; rfl) ?_
        have gJ2 : J2 5 = vp_updL (M 5) (0 : Int).toNat (1) := by rw [eJ2]; exact up_eq
        have fJ2 : ∀ k, k ≠ 5 → J2 k = M k := fun k hk => by rw [eJ2]; exact up_ne hk
        refine Z.iconst hX dX7_minorsOf_29 ?_
        refine Z.istore_n (lv' := [(2, .int (zI 1)), (1, .int (zI n)), (0, .ref (h 0))]) hX dX7_minorsOf_30 rfl (by decide) rfl ?_
        have key_31 : ∀ (N : Nat), ∀ (set : Int) (M : Nat → Nat → Int64), (256 - set).toNat < N → (hset : 1 ≤ set ∧ set ≤ 256) → (hM : ∀ k, k ≠ 5 → M k = J k) → (hmz : MZ (M 5) X Y) → Z p l e { frames := 1, cells := 0, slots := 0, locals := 22 } s m args below meth c D A 12 0 0 Q 31 [(2, .int (zI set)), (1, .int (zI n)), (0, .ref (h 0))] [] (rW ce h F I M) := by
          intro N
          induction N with
          | zero => intro set M hm; exact absurd hm (Nat.not_lt_zero _)
          | succ N ih_31 =>
            intro set M hm hset hM hmz
            refine Z.iload_n hX dX7_minorsOf_31 rfl rfl ?_
            refine Z.iconst hX dX7_minorsOf_32 ?_
            refine Z.iload_n hX dX7_minorsOf_33 rfl rfl ?_
            refine Z.ishl hX dX7_minorsOf_34 ?_
            refine Z.vali (y := zI T) hT ?_
            refine Z.icmp_ge hX 305 dX7_minorsOf_35 (by decide) ⟨by omega, by omega⟩ ⟨by omega, by omega⟩ ?_ ?_
            · intro c3
              exact hR _ _ _ dX7_minorsOf_305 ⟨M, rfl, (fun k h5 => (hM k h5))⟩
            · intro c3
              refine Z.iload_n hX dX7_minorsOf_38 rfl rfl ?_
              refine Z.callS0i (As := [.int (zI set)]) (rest := []) hX (ct_X7_countOf l D ce set (by omega)) mc_X7_countOf ml_X7_86 st_X7_countOf ini_X7 nd_X7_countOf ⟨Nat.le_of_ble_eq_true rfl, Nat.le_of_ble_eq_true rfl⟩ ⟨rfl, rfl⟩ ⟨Nat.le_refl _, Nat.le_refl _⟩ rfl (Nat.le_of_ble_eq_true rfl) dX7_minorsOf_39 ?_
              rintro r_4 w1 ⟨pcs, hr_, hw_, epcs⟩
              subst hr_
              refine ⟨hw_, ?_⟩
              refine Z.iconst hX dX7_minorsOf_42 ?_
              refine Z.isub hX dX7_minorsOf_43 ?_
              refine Z.istore_n (lv' := [(3, .int (zI (pcs - 1))), (2, .int (zI set)), (1, .int (zI n)), (0, .ref (h 0))]) hX dX7_minorsOf_44 rfl (by decide) rfl ?_
              refine Z.iconst hX dX7_minorsOf_45 ?_
              refine Z.istore (lv' := [(4, .int (zI 1)), (3, .int (zI (pcs - 1))), (2, .int (zI set)), (1, .int (zI n)), (0, .ref (h 0))]) hX dX7_minorsOf_46 (by decide) rfl ?_
              refine Z.iload_n hX dX7_minorsOf_48 rfl rfl ?_
              refine Z.iconst hX dX7_minorsOf_49 ?_
              refine Z.isub hX dX7_minorsOf_50 ?_
              refine Z.istore (lv' := [(5, .int (zI (n - 1))), (4, .int (zI 1)), (3, .int (zI (pcs - 1))), (2, .int (zI set)), (1, .int (zI n)), (0, .ref (h 0))]) hX dX7_minorsOf_51 (by decide) rfl ?_
              have key_53 : ∀ (N : Nat), ∀ (cn sg : Int) (M : Nat → Nat → Int64), (cn + 1).toNat < N → (hc : -1 ≤ cn ∧ cn ≤ n - 1) → (hsg : -1 ≤ sg ∧ sg ≤ 1) → (hM : ∀ k, k ≠ 5 → M k = J k) → (hmz : MZ (M 5) X Y) → Z p l e { frames := 1, cells := 0, slots := 0, locals := 22 } s m args below meth c D A 12 0 0 Q 53 [(5, .int (zI cn)), (4, .int (zI sg)), (3, .int (zI (pcs - 1))), (2, .int (zI set)), (1, .int (zI n)), (0, .ref (h 0))] [] (rW ce h F I M) := by
                intro N
                induction N with
                | zero => intro cn sg M hm; exact absurd hm (Nat.not_lt_zero _)
                | succ N ih_53 =>
                  intro cn sg M hm hc hsg hM hmz
                  have hpn := hT3 set (by omega) (by omega)
                  refine Z.iload hX dX7_minorsOf_53 rfl ?_
                  refine Z.if_lt hX 299 dX7_minorsOf_55 (by decide) ⟨by omega, by omega⟩ ?_ ?_
                  · intro c5
                    refine Z.iinc (lv' := [(2, .int (zI (set + 1))), (5, .int (zI cn)), (4, .int (zI sg)), (3, .int (zI (pcs - 1))), (1, .int (zI n)), (0, .ref (h 0))]) hX dX7_minorsOf_299 rfl (by decide) rfl ?_
                    refine Z.goto hX 31 dX7_minorsOf_302 (by decide) ?_
                    refine Z.pick [0, 4, 5] rfl ?_
                    exact ih_31 _ _ (by omega) (by omega) (fun k h5 => (hM k h5)) hmz
                  · intro c5
                    obtain ⟨b, t, eb, eb1, eb3, eb4, eb2⟩ := bitc (s := set) (c := cn) (by omega) (by omega) (by omega) (by omega)
                    have key_293 : ∀ (sg : Int) (M : Nat → Nat → Int64), (hsg : -1 ≤ sg ∧ sg ≤ 1) → (hM : ∀ k, k ≠ 5 → M k = J k) → (hmz : MZ (M 5) X Y) → Z p l e { frames := 1, cells := 0, slots := 0, locals := 22 } s m args below meth c D A 12 0 0 Q 293 [(5, .int (zI cn)), (4, .int (zI sg)), (3, .int (zI (pcs - 1))), (2, .int (zI set)), (1, .int (zI n)), (0, .ref (h 0))] [] (rW ce h F I M) := by
                      intro sg M hsg hM hmz
                      refine Z.iinc (lv' := [(5, .int (zI (cn + -1))), (4, .int (zI sg)), (3, .int (zI (pcs - 1))), (2, .int (zI set)), (1, .int (zI n)), (0, .ref (h 0))]) hX dX7_minorsOf_293 rfl (by decide) rfl ?_
                      refine Z.goto hX 53 dX7_minorsOf_296 (by decide) ?_
                      refine Z.pick [0, 1, 2, 3, 4, 5] rfl ?_
                      exact ih_53 _ _ _ (by omega) (by omega) (by omega) (fun k h5 => (hM k h5)) hmz
                    refine Z.iload_n hX dX7_minorsOf_58 rfl rfl ?_
                    refine Z.iload hX dX7_minorsOf_59 rfl ?_
                    refine Z.ishr hX dX7_minorsOf_61 ?_
                    refine Z.iconst hX dX7_minorsOf_62 ?_
                    refine Z.iand hX dX7_minorsOf_63 ?_
                    refine Z.vali (y := zI b) eb ?_
                    refine Z.iconst hX dX7_minorsOf_64 ?_
                    refine Z.icmp_ne hX 293 dX7_minorsOf_65 (by decide) ⟨by omega, by omega⟩ ⟨by omega, by omega⟩ ?_ ?_
                    · intro c6
                      refine Z.pick [0, 1, 2, 3, 4, 5] rfl ?_
                      exact key_293 _ _ (by omega) (fun k h5 => (hM k h5)) hmz
                    · intro c6
                      have pt1 := (eb2 (by omega)).2
                      refine Z.bipush hX dX7_minorsOf_68 (by decide) ?_
                      refine Z.iload_n hX dX7_minorsOf_70 rfl rfl ?_
                      refine Z.iconst hX dX7_minorsOf_71 ?_
                      refine Z.iload hX dX7_minorsOf_72 rfl ?_
                      refine Z.ishl hX dX7_minorsOf_74 ?_
                      refine Z.ixor hX dX7_minorsOf_75 ?_
                      refine Z.vali (y := zI t) (eb2 (by omega)).1 ?_
                      refine Z.imul hX dX7_minorsOf_76 ?_
                      refine Z.istore (lv' := [(6, .int (zI (49 * t))), (5, .int (zI cn)), (4, .int (zI sg)), (3, .int (zI (pcs - 1))), (2, .int (zI set)), (1, .int (zI n)), (0, .ref (h 0))]) hX dX7_minorsOf_77 (by decide) rfl ?_
                      refine Z.iconst hX dX7_minorsOf_79 ?_
                      refine Z.bipush hX dX7_minorsOf_80 (by decide) ?_
                      refine Z.iload_n hX dX7_minorsOf_82 rfl rfl ?_
                      refine Z.imul hX dX7_minorsOf_83 ?_
                      refine Z.iload hX dX7_minorsOf_84 rfl ?_
                      refine Z.iadd hX dX7_minorsOf_86 ?_
                      refine Z.imul hX dX7_minorsOf_87 ?_
                      refine Z.istore (lv' := [(7, .int (zI (3 * ((8 * (pcs - 1)) + cn)))), (6, .int (zI (49 * t))), (5, .int (zI cn)), (4, .int (zI sg)), (3, .int (zI (pcs - 1))), (2, .int (zI set)), (1, .int (zI n)), (0, .ref (h 0))]) hX dX7_minorsOf_88 (by decide) rfl ?_
                      refine Z.iconst hX dX7_minorsOf_90 ?_
                      refine Z.istore (lv' := [(8, .int (zI 0)), (7, .int (zI (3 * ((8 * (pcs - 1)) + cn)))), (6, .int (zI (49 * t))), (5, .int (zI cn)), (4, .int (zI sg)), (3, .int (zI (pcs - 1))), (2, .int (zI set)), (1, .int (zI n)), (0, .ref (h 0))]) hX dX7_minorsOf_91 (by decide) rfl ?_
                      have key_93 : ∀ (N : Nat), ∀ (i : Int) (M : Nat → Nat → Int64), (7 - i).toNat < N → (hi : 0 ≤ i ∧ i ≤ 7) → (hM : ∀ k, k ≠ 5 → M k = J k) → (hmz : MZ (M 5) X Y) → Z p l e { frames := 1, cells := 0, slots := 0, locals := 22 } s m args below meth c D A 12 0 0 Q 93 [(8, .int (zI i)), (7, .int (zI (3 * (8 * (pcs - 1) + cn)))), (6, .int (zI (49 * t))), (5, .int (zI cn)), (4, .int (zI sg)), (3, .int (zI (pcs - 1))), (2, .int (zI set)), (1, .int (zI n)), (0, .ref (h 0))] [] (rW ce h F I M) := by
                        intro N
                        induction N with
                        | zero => intro i M hm; exact absurd hm (Nat.not_lt_zero _)
                        | succ N ih_93 =>
                          intro i M hm hi hM hmz
                          refine Z.iload hX dX7_minorsOf_93 rfl ?_
                          refine Z.bipush hX dX7_minorsOf_95 (by decide) ?_
                          refine Z.icmp_ge hX 288 dX7_minorsOf_97 (by decide) ⟨by omega, by omega⟩ ⟨by omega, by omega⟩ ?_ ?_
                          · intro c7
                            refine Z.iload hX dX7_minorsOf_288 rfl ?_
                            refine Z.ineg hX dX7_minorsOf_290 ?_
                            refine Z.istore (lv' := [(4, .int (zI (-sg))), (8, .int (zI i)), (7, .int (zI (3 * (8 * (pcs - 1) + cn)))), (6, .int (zI (49 * t))), (5, .int (zI cn)), (3, .int (zI (pcs - 1))), (2, .int (zI set)), (1, .int (zI n)), (0, .ref (h 0))]) hX dX7_minorsOf_291 (by decide) rfl ?_
                            refine Z.pick [4, 0, 5, 6, 7, 8] rfl ?_
                            exact key_293 _ _ (by omega) (fun k h5 => (hM k h5)) hmz
                          · intro c7
                            refine Z.iconst hX dX7_minorsOf_100 ?_
                            refine Z.istore (lv' := [(9, .int (zI 0)), (8, .int (zI i)), (7, .int (zI (3 * (8 * (pcs - 1) + cn)))), (6, .int (zI (49 * t))), (5, .int (zI cn)), (4, .int (zI sg)), (3, .int (zI (pcs - 1))), (2, .int (zI set)), (1, .int (zI n)), (0, .ref (h 0))]) hX dX7_minorsOf_101 (by decide) rfl ?_
                            have key_103 : ∀ (N : Nat), ∀ (j : Int) (M : Nat → Nat → Int64), (7 - j).toNat < N → (hj : 0 ≤ j ∧ j ≤ 7) → (hM : ∀ k, k ≠ 5 → M k = J k) → (hmz : MZ (M 5) X Y) → Z p l e { frames := 1, cells := 0, slots := 0, locals := 22 } s m args below meth c D A 12 0 0 Q 103 [(9, .int (zI j)), (8, .int (zI i)), (7, .int (zI (3 * (8 * (pcs - 1) + cn)))), (6, .int (zI (49 * t))), (5, .int (zI cn)), (4, .int (zI sg)), (3, .int (zI (pcs - 1))), (2, .int (zI set)), (1, .int (zI n)), (0, .ref (h 0))] [] (rW ce h F I M) := by
                              intro N
                              induction N with
                              | zero => intro j M hm; exact absurd hm (Nat.not_lt_zero _)
                              | succ N ih_103 =>
                                intro j M hm hj hM hmz
                                refine Z.iload hX dX7_minorsOf_103 rfl ?_
                                refine Z.bipush hX dX7_minorsOf_105 (by decide) ?_
                                refine Z.icmp_ge hX 282 dX7_minorsOf_107 (by decide) ⟨by omega, by omega⟩ ⟨by omega, by omega⟩ ?_ ?_
                                · intro c8
                                  refine Z.iinc (lv' := [(8, .int (zI (i + 1))), (9, .int (zI j)), (7, .int (zI (3 * (8 * (pcs - 1) + cn)))), (6, .int (zI (49 * t))), (5, .int (zI cn)), (4, .int (zI sg)), (3, .int (zI (pcs - 1))), (2, .int (zI set)), (1, .int (zI n)), (0, .ref (h 0))]) hX dX7_minorsOf_282 rfl (by decide) rfl ?_
                                  refine Z.goto hX 93 dX7_minorsOf_285 (by decide) ?_
                                  refine Z.pick [0, 2, 3, 4, 5, 6, 7, 8, 9] rfl ?_
                                  exact ih_93 _ _ (by omega) (by omega) (fun k h5 => (hM k h5)) hmz
                                · intro c8
                                  have key_276 : ∀ (M : Nat → Nat → Int64), (hM : ∀ k, k ≠ 5 → M k = J k) → (hmz : MZ (M 5) X Y) → Z p l e { frames := 1, cells := 0, slots := 0, locals := 22 } s m args below meth c D A 12 0 0 Q 276 [(9, .int (zI j)), (8, .int (zI i)), (7, .int (zI (3 * (8 * (pcs - 1) + cn)))), (6, .int (zI (49 * t))), (5, .int (zI cn)), (4, .int (zI sg)), (3, .int (zI (pcs - 1))), (2, .int (zI set)), (1, .int (zI n)), (0, .ref (h 0))] [] (rW ce h F I M) := by
                                    intro M hM hmz
                                    refine Z.iinc (lv' := [(9, .int (zI (j + 1))), (8, .int (zI i)), (7, .int (zI (3 * (8 * (pcs - 1) + cn)))), (6, .int (zI (49 * t))), (5, .int (zI cn)), (4, .int (zI sg)), (3, .int (zI (pcs - 1))), (2, .int (zI set)), (1, .int (zI n)), (0, .ref (h 0))]) hX dX7_minorsOf_276 rfl (by decide) rfl ?_
                                    refine Z.goto hX 103 dX7_minorsOf_279 (by decide) ?_
                                    refine Z.pick [0, 1, 2, 3, 4, 5, 6, 7, 8, 9] rfl ?_
                                    exact ih_103 _ _ (by omega) (by omega) (fun k h5 => (hM k h5)) hmz
                                  refine Z.aload_n hX dX7_minorsOf_110 rfl rfl ?_
                                  refine Z.getf hX 7 0 12 dX7_minorsOf_111 rfl rfl inX7 (by decide) fl_X7_39 rfl rfl ?_
                                  refine Z.iload hX dX7_minorsOf_114 rfl ?_
                                  refine Z.bipush hX dX7_minorsOf_116 (by decide) ?_
                                  refine Z.iload hX dX7_minorsOf_118 rfl ?_
                                  refine Z.imul hX dX7_minorsOf_120 ?_
                                  refine Z.iadd hX dX7_minorsOf_121 ?_
                                  refine Z.iload hX dX7_minorsOf_122 rfl ?_
                                  refine Z.iadd hX dX7_minorsOf_124 ?_
                                  refine Z.laload hX 10 1 dX7_minorsOf_125 rfl rfl (by omega) (by omega) (by decide) ?_
                                  refine Z.lstore (lv' := [(10, .long (M 5 (((49 * t) + (7 * i)) + j : Int).toNat)), (9, .int (zI j)), (8, .int (zI i)), (7, .int (zI (3 * (8 * (pcs - 1) + cn)))), (6, .int (zI (49 * t))), (5, .int (zI cn)), (4, .int (zI sg)), (3, .int (zI (pcs - 1))), (2, .int (zI set)), (1, .int (zI n)), (0, .ref (h 0))]) hX dX7_minorsOf_126 (by decide) rfl ?_
                                  obtain ⟨mm, emm⟩ : ∃ x : Int64, x = M 5 (((49 * t) + (7 * i)) + j : Int).toNat := ⟨_, rfl⟩
                                  rw [← emm]
                                  refine Z.lload hX dX7_minorsOf_128 rfl ?_
                                  refine Z.lconst (v := 0) hX dX7_minorsOf_130 rfl ?_
                                  refine Z.lcmp_eq hX 276 dX7_minorsOf_131 dX7_minorsOf_132 (by decide) ?_ ?_
                                  · intro c9
                                    refine Z.pick [1, 2, 3, 4, 5, 6, 7, 8, 9, 10] rfl ?_
                                    exact key_276 _ (by omega) (by omega)
                                  · intro c9
                                    obtain ⟨hb1, hb2⟩ := hmz t i j (by omega) (by omega) (by omega) (by omega) (by omega) (by omega) (by rw [← emm]; assumption)
                                    have key_223 : ∀ (M : Nat → Nat → Int64), (hM : ∀ k, k ≠ 5 → M k = J k) → (hmz : MZ (M 5) X Y) → Z p l e { frames := 1, cells := 0, slots := 0, locals := 22 } s m args below meth c D A 12 0 0 Q 223 [(9, .int (zI j)), (8, .int (zI i)), (7, .int (zI (3 * (8 * (pcs - 1) + cn)))), (6, .int (zI (49 * t))), (5, .int (zI cn)), (4, .int (zI sg)), (3, .int (zI (pcs - 1))), (2, .int (zI set)), (1, .int (zI n)), (0, .ref (h 0)), (10, .long mm)] [] (rW ce h F I M) := by
                                      intro M hM hmz
                                      refine Z.aload_n hX dX7_minorsOf_223 rfl rfl ?_
                                      refine Z.getf hX 7 0 11 dX7_minorsOf_224 rfl rfl inX7 (by decide) fl_X7_36 rfl rfl ?_
                                      refine Z.iload hX dX7_minorsOf_227 rfl ?_
                                      refine Z.iconst hX dX7_minorsOf_229 ?_
                                      refine Z.iadd hX dX7_minorsOf_230 ?_
                                      refine Z.laload hX 9 1 dX7_minorsOf_231 rfl rfl (by omega) (by omega) (by decide) ?_
                                      refine Z.lconst (v := 0) hX dX7_minorsOf_232 rfl ?_
                                      refine Z.lcmp_eq hX 276 dX7_minorsOf_233 dX7_minorsOf_234 (by decide) ?_ ?_
                                      · intro c10
                                        refine Z.pick [0, 1, 2, 3, 4, 5, 6, 7, 8, 9] rfl ?_
                                        exact key_276 _ (by omega) (by omega)
                                      · intro c10
                                        have hyr : Y ≤ (pc8 t.toNat : Int) := by have := EZ_y (r := pcs - 1) (c := cn) hE (by rw [← hM 4 (by decide)]; assumption) (by omega) (by omega); omega
                                        have hbj := (bY_s hyr hb2).2
                                        refine Z.aload_n hX dX7_minorsOf_237 rfl rfl ?_
                                        refine Z.getf hX 7 0 12 dX7_minorsOf_238 rfl rfl inX7 (by decide) fl_X7_39 rfl rfl ?_
                                        refine Z.bipush hX dX7_minorsOf_241 (by decide) ?_
                                        refine Z.iload_n hX dX7_minorsOf_243 rfl rfl ?_
                                        refine Z.imul hX dX7_minorsOf_244 ?_
                                        refine Z.bipush hX dX7_minorsOf_245 (by decide) ?_
                                        refine Z.iload hX dX7_minorsOf_247 rfl ?_
                                        refine Z.imul hX dX7_minorsOf_249 ?_
                                        refine Z.iadd hX dX7_minorsOf_250 ?_
                                        refine Z.iload hX dX7_minorsOf_251 rfl ?_
                                        refine Z.iadd hX dX7_minorsOf_253 ?_
                                        refine Z.iconst hX dX7_minorsOf_254 ?_
                                        refine Z.iadd hX dX7_minorsOf_255 ?_
                                        refine Z.dup2 hX dX7_minorsOf_256 rfl rfl ?_
                                        refine Z.laload hX 10 1 dX7_minorsOf_257 rfl rfl (by omega) (by omega) (by decide) ?_
                                        refine Z.iload hX dX7_minorsOf_258 rfl ?_
                                        refine Z.i2l hX dX7_minorsOf_260 ⟨by omega, by omega⟩ ?_
                                        refine Z.lload hX dX7_minorsOf_261 rfl ?_
                                        refine Z.lmul hX dX7_minorsOf_263 ?_
                                        refine Z.aload_n hX dX7_minorsOf_264 rfl rfl ?_
                                        refine Z.getf hX 7 0 11 dX7_minorsOf_265 rfl rfl inX7 (by decide) fl_X7_36 rfl rfl ?_
                                        refine Z.iload hX dX7_minorsOf_268 rfl ?_
                                        refine Z.iconst hX dX7_minorsOf_270 ?_
                                        refine Z.iadd hX dX7_minorsOf_271 ?_
                                        refine Z.laload hX 9 1 dX7_minorsOf_272 rfl rfl (by omega) (by omega) (by decide) ?_
                                        refine Z.lmul hX dX7_minorsOf_273 ?_
                                        refine Z.ladd hX dX7_minorsOf_274 ?_
                                        refine Z.lastore hX 10 1 dX7_minorsOf_275 rfl rfl (by omega) (by omega) (by decide) ?_
                                        obtain ⟨J11, eJ11⟩ : ∃ J' : Nat → Nat → Int64, J' = va_up M 5 (vp_updL (M 5) ((((49 * set) + (7 * i)) + j) + 1 : Int).toNat ((M 5 ((((49 * set) + (7 * i)) + j) + 1 : Int).toNat) + (((zL sg) * mm) * (M 4 ((3 * (8 * (pcs - 1) + cn)) + 2 : Int).toNat)))) := ⟨_, rfl⟩
                                        refine Z.toW (w' := rW ce h F I J11) (by rw [eJ11]; rfl) ?_
                                        have gJ11 : J11 5 = vp_updL (M 5) ((((49 * set) + (7 * i)) + j) + 1 : Int).toNat ((M 5 ((((49 * set) + (7 * i)) + j) + 1 : Int).toNat) + (((zL sg) * mm) * (M 4 ((3 * (8 * (pcs - 1) + cn)) + 2 : Int).toNat))) := by rw [eJ11]; exact up_eq
                                        have fJ11 : ∀ k, k ≠ 5 → J11 k = M k := fun k hk => by rw [eJ11]; exact up_ne hk
                                        refine Z.pick [0, 1, 2, 3, 4, 5, 6, 7, 8, 9] rfl ?_
                                        exact key_276 _ (fun k h5 => ((fJ11 k h5).trans (hM k h5))) (MZ_s (s0 := set) (i0 := i) (j0 := j + 1) (by omega) (by omega) (by omega) (by have := bX_m hb1; rw [pt1] at this; exact this) (by have := (bY_s hyr hb2).1; rw [pt1] at this; exact this) hmz (by omega) gJ11)
                                    refine Z.aload_n hX dX7_minorsOf_135 rfl rfl ?_
                                    refine Z.getf hX 7 0 12 dX7_minorsOf_136 rfl rfl inX7 (by decide) fl_X7_39 rfl rfl ?_
                                    refine Z.bipush hX dX7_minorsOf_139 (by decide) ?_
                                    refine Z.iload_n hX dX7_minorsOf_141 rfl rfl ?_
                                    refine Z.imul hX dX7_minorsOf_142 ?_
                                    refine Z.bipush hX dX7_minorsOf_143 (by decide) ?_
                                    refine Z.iload hX dX7_minorsOf_145 rfl ?_
                                    refine Z.imul hX dX7_minorsOf_147 ?_
                                    refine Z.iadd hX dX7_minorsOf_148 ?_
                                    refine Z.iload hX dX7_minorsOf_149 rfl ?_
                                    refine Z.iadd hX dX7_minorsOf_151 ?_
                                    refine Z.dup2 hX dX7_minorsOf_152 rfl rfl ?_
                                    refine Z.laload hX 10 1 dX7_minorsOf_153 rfl rfl (by omega) (by omega) (by decide) ?_
                                    refine Z.iload hX dX7_minorsOf_154 rfl ?_
                                    refine Z.i2l hX dX7_minorsOf_156 ⟨by omega, by omega⟩ ?_
                                    refine Z.lload hX dX7_minorsOf_157 rfl ?_
                                    refine Z.lmul hX dX7_minorsOf_159 ?_
                                    refine Z.aload_n hX dX7_minorsOf_160 rfl rfl ?_
                                    refine Z.getf hX 7 0 11 dX7_minorsOf_161 rfl rfl inX7 (by decide) fl_X7_36 rfl rfl ?_
                                    refine Z.iload hX dX7_minorsOf_164 rfl ?_
                                    refine Z.laload hX 9 1 dX7_minorsOf_166 rfl rfl (by omega) (by omega) (by decide) ?_
                                    refine Z.lmul hX dX7_minorsOf_167 ?_
                                    refine Z.ladd hX dX7_minorsOf_168 ?_
                                    refine Z.lastore hX 10 1 dX7_minorsOf_169 rfl rfl (by omega) (by omega) (by decide) ?_
                                    obtain ⟨J12, eJ12⟩ : ∃ J' : Nat → Nat → Int64, J' = va_up M 5 (vp_updL (M 5) (((49 * set) + (7 * i)) + j : Int).toNat ((M 5 (((49 * set) + (7 * i)) + j : Int).toNat) + (((zL sg) * mm) * (M 4 (3 * (8 * (pcs - 1) + cn) : Int).toNat)))) := ⟨_, rfl⟩
                                    refine Z.toW (w' := rW ce h F I J12) (by rw [eJ12]; rfl) ?_
                                    have gJ12 : J12 5 = vp_updL (M 5) (((49 * set) + (7 * i)) + j : Int).toNat ((M 5 (((49 * set) + (7 * i)) + j : Int).toNat) + (((zL sg) * mm) * (M 4 (3 * (8 * (pcs - 1) + cn) : Int).toNat))) := by rw [eJ12]; exact up_eq
                                    have fJ12 : ∀ k, k ≠ 5 → J12 k = M k := fun k hk => by rw [eJ12]; exact up_ne hk
                                    have hMA : ∀ k, k ≠ 5 → J12 k = J k := (fun k h5 => ((fJ12 k h5).trans (hM k h5)))
                                    have hmzA : MZ (J12 5) X Y := (MZ_s (s0 := set) (i0 := i) (j0 := j) (by omega) (by omega) (by omega) (by have := bX_m hb1; rw [pt1] at this; exact this) (by have := bY_m hb2; rw [pt1] at this; exact this) hmz (by omega) gJ12)
                                    refine Z.aload_n hX dX7_minorsOf_170 rfl rfl ?_
                                    refine Z.getf hX 7 0 11 dX7_minorsOf_171 rfl rfl inX7 (by decide) fl_X7_36 rfl rfl ?_
                                    refine Z.iload hX dX7_minorsOf_174 rfl ?_
                                    refine Z.iconst hX dX7_minorsOf_176 ?_
                                    refine Z.iadd hX dX7_minorsOf_177 ?_
                                    refine Z.laload hX 9 1 dX7_minorsOf_178 rfl rfl (by omega) (by omega) (by decide) ?_
                                    refine Z.lconst (v := 0) hX dX7_minorsOf_179 rfl ?_
                                    refine Z.lcmp_eq hX 223 dX7_minorsOf_180 dX7_minorsOf_181 (by decide) ?_ ?_
                                    · intro c13
                                      refine Z.pick [1, 2, 3, 4, 5, 6, 7, 8, 9, 10, 0] rfl ?_
                                      exact key_223 _ (by omega) (by omega)
                                    · intro c13
                                      have hxr : (pc8 t.toNat : Int) < X := by have := EZ_x (r := pcs - 1) (c := cn) hE (by rw [← hMA 4 (by decide)]; assumption) (by omega) (by omega); omega
                                      have hbi := (bX_s hxr hb1).2
                                      refine Z.aload_n hX dX7_minorsOf_184 rfl rfl ?_
                                      refine Z.getf hX 7 0 12 dX7_minorsOf_185 rfl rfl inX7 (by decide) fl_X7_39 rfl rfl ?_
                                      refine Z.bipush hX dX7_minorsOf_188 (by decide) ?_
                                      refine Z.iload_n hX dX7_minorsOf_190 rfl rfl ?_
                                      refine Z.imul hX dX7_minorsOf_191 ?_
                                      refine Z.bipush hX dX7_minorsOf_192 (by decide) ?_
                                      refine Z.iload hX dX7_minorsOf_194 rfl ?_
                                      refine Z.iconst hX dX7_minorsOf_196 ?_
                                      refine Z.iadd hX dX7_minorsOf_197 ?_
                                      refine Z.imul hX dX7_minorsOf_198 ?_
                                      refine Z.iadd hX dX7_minorsOf_199 ?_
                                      refine Z.iload hX dX7_minorsOf_200 rfl ?_
                                      refine Z.iadd hX dX7_minorsOf_202 ?_
                                      refine Z.dup2 hX dX7_minorsOf_203 rfl rfl ?_
                                      refine Z.laload hX 10 1 dX7_minorsOf_204 rfl rfl (by omega) (by omega) (by decide) ?_
                                      refine Z.iload hX dX7_minorsOf_205 rfl ?_
                                      refine Z.i2l hX dX7_minorsOf_207 ⟨by omega, by omega⟩ ?_
                                      refine Z.lload hX dX7_minorsOf_208 rfl ?_
                                      refine Z.lmul hX dX7_minorsOf_210 ?_
                                      refine Z.aload_n hX dX7_minorsOf_211 rfl rfl ?_
                                      refine Z.getf hX 7 0 11 dX7_minorsOf_212 rfl rfl inX7 (by decide) fl_X7_36 rfl rfl ?_
                                      refine Z.iload hX dX7_minorsOf_215 rfl ?_
                                      refine Z.iconst hX dX7_minorsOf_217 ?_
                                      refine Z.iadd hX dX7_minorsOf_218 ?_
                                      refine Z.laload hX 9 1 dX7_minorsOf_219 rfl rfl (by omega) (by omega) (by decide) ?_
                                      refine Z.lmul hX dX7_minorsOf_220 ?_
                                      refine Z.ladd hX dX7_minorsOf_221 ?_
                                      refine Z.lastore hX 10 1 dX7_minorsOf_222 rfl rfl (by omega) (by omega) (by decide) ?_
                                      obtain ⟨J14, eJ14⟩ : ∃ J' : Nat → Nat → Int64, J' = va_up J12 5 (vp_updL (J12 5) (((49 * set) + (7 * (i + 1))) + j : Int).toNat ((J12 5 (((49 * set) + (7 * (i + 1))) + j : Int).toNat) + (((zL sg) * mm) * (J12 4 ((3 * (8 * (pcs - 1) + cn)) + 1 : Int).toNat)))) := ⟨_, rfl⟩
                                      refine Z.toW (w' := rW ce h F I J14) (by rw [eJ14]; rfl) ?_
                                      have gJ14 : J14 5 = vp_updL (J12 5) (((49 * set) + (7 * (i + 1))) + j : Int).toNat ((J12 5 (((49 * set) + (7 * (i + 1))) + j : Int).toNat) + (((zL sg) * mm) * (J12 4 ((3 * (8 * (pcs - 1) + cn)) + 1 : Int).toNat))) := by rw [eJ14]; exact up_eq
                                      have fJ14 : ∀ k, k ≠ 5 → J14 k = J12 k := fun k hk => by rw [eJ14]; exact up_ne hk
                                      refine Z.pick [1, 2, 3, 4, 5, 6, 7, 8, 9, 10, 0] rfl ?_
                                      exact key_223 _ (fun k h5 => ((fJ14 k h5).trans ((fJ12 k h5).trans (hM k h5)))) (MZ_s (s0 := set) (i0 := i + 1) (j0 := j) (by omega) (by omega) (by omega) (by have := (bX_s hxr hb1).1; rw [pt1] at this; exact this) (by have := bY_m hb2; rw [pt1] at this; exact this) hmzA (by omega) gJ14)
                            refine Z.pick [0, 1, 2, 3, 4, 5, 6, 7, 8, 9] rfl ?_
                            exact key_103 _ _ _ (Nat.lt_succ_self _) (by omega) (fun k h5 => (hM k h5)) hmz
                      refine Z.pick [0, 1, 2, 3, 4, 5, 6, 7, 8] rfl ?_
                      exact key_93 _ _ _ (Nat.lt_succ_self _) (by omega) (fun k h5 => (hM k h5)) hmz
              refine Z.pick [0, 1, 2, 3, 4, 5] rfl ?_
              exact key_53 _ _ _ _ (Nat.lt_succ_self _) (by omega) (by omega) (fun k h5 => (hM k h5)) hmz
        refine Z.pick [0, 1, 2] rfl ?_
        exact key_31 _ _ _ (Nat.lt_succ_self _) (by omega) (fun k h5 => ((fJ2 k h5).trans (hM k h5))) (MZ_0 hXY.1 (fun q h1 h2 => hz q h1 (by omega)) gJ2)
      · intro c1
        refine Z.aload_n hX dX7_minorsOf_9 rfl rfl ?_
        refine Z.getf hX 7 0 12 dX7_minorsOf_10 rfl rfl inX7 (by decide) fl_X7_39 rfl rfl ?_
        refine Z.iload_n hX dX7_minorsOf_13 rfl rfl ?_
        refine Z.lconst (v := 0) hX dX7_minorsOf_14 rfl ?_
        refine Z.lastore hX 10 1 dX7_minorsOf_15 rfl rfl (by omega) (by omega) (by decide) ?_
        obtain ⟨J15, eJ15⟩ : ∃ J' : Nat → Nat → Int64, J' = va_up M 5 (vp_updL (M 5) (k : Int).toNat (0)) := ⟨_, rfl⟩
        refine Z.toW (w' := rW ce h F I J15) (by rw [eJ15]; rfl) ?_
        have gJ15 : J15 5 = vp_updL (M 5) (k : Int).toNat (0) := by rw [eJ15]; exact up_eq
        have fJ15 : ∀ k, k ≠ 5 → J15 k = M k := fun k hk => by rw [eJ15]; exact up_ne hk
        refine Z.iinc (lv' := [(2, .int (zI (k + 1))), (1, .int (zI n)), (0, .ref (h 0))]) hX dX7_minorsOf_16 rfl (by decide) rfl ?_
        refine Z.goto hX 2 dX7_minorsOf_19 (by decide) ?_
        refine Z.pick [0, 1, 2] rfl ?_
        exact ih_2 _ _ (by omega) (by omega) (fun k h5 => ((fJ15 k h5).trans (hM k h5))) (z_fill hk.1 gJ15 hz)
  refine Z.pick [0, 2, 1] rfl ?_
  exact key_2 _ _ _ (Nat.lt_succ_self _) (by omega) (fun k h5 => rfl) (fun q h1 h2 => by omega)

