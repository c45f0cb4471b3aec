section ZR8
variable {p : Program} {l : Launch} {e : Env} {R : Room} {s : State} {m : MethodId} {args : Array Value} {below : List Frame} {meth : Method} {c : Code} {D : va_G} {A : Nat → Prop} {nL cells slots : Nat} {Q : State → Prop}
variable {cc : ByteArray} {own : String} {ce : Nat → ClassId} {pc : Nat} {lv : List (Nat × Value)} {st : List Value} {w : va_W}
theorem Z.mkPl (hX : Zf p m c cc nL s args own D (TY ce) A) {index idx2 : Nat} (hd1 : decode cc pc = .ok (.new index, 3)) (hd2 : decode cc (pc + 3) = .ok (.dup, 1)) (hd3 : decode cc (pc + 4) = .ok (.invokespecial idx2, 3)) (hcl : Cond.classLink own index "EliminateLoci$Plane" ∈ lw_g) (hlk : (own, idx2, yX3_init, "EliminateLoci") ∈ nst) (hR : 2 ≤ R.frames ∧ 32 ≤ R.locals) (hcells : cells + 2 ≤ R.cells) (hslots : slots + 30 ≤ R.slots) (hcat : ((st.map fun v => v.category).sum) + 1 ≤ 8) (k : ∀ q r : Nat, Z p l e R s m args below meth c D A nL (cells + 2) (slots + 30) Q (pc + 7) lv (.ref q :: st) (w ++ plW ce q r)) : Z p l e R s m args below meth c D A nL cells slots Q pc lv st w := by
  refine Z.newO (fs := [.null, .int (zI 0)]) hX 3 tyX3 hd1 rfl inX3 tyX3_ok hcl ins_X3 ini_X3 df_X3 (by omega) (by omega) ?_
  intro q
  refine Z.dup hX hd2 rfl ?_
  refine Z.initN (wr := w) hX (ct_X3_init l D ce q) mc_X3_init hlk rfl im_X3_init ini_X3 nd_X3_init ⟨hR.1, hR.2⟩ ⟨rfl, rfl⟩ ⟨by omega, by omega⟩ (by rw [List.map_cons, List.sum_cons]; show 1 + _ ≤ 8; omega) hd3 ?_
  rintro w1 ⟨r, hw_⟩
  subst hw_
  exact k q r
end ZR8
theorem dX2_init_0 : decode cX2_init 0 = .ok (.aload_n 0, 1) := by decide +kernel
theorem dX2_init_1 : decode cX2_init 1 = .ok (.invokespecial 3, 3) := by decide +kernel
theorem dX2_init_4 : decode cX2_init 4 = .ok (.aload_n 0, 1) := by decide +kernel
theorem dX2_init_5 : decode cX2_init 5 = .ok (.iconst 5, 1) := by decide +kernel
theorem dX2_init_6 : decode cX2_init 6 = .ok (.anewarray 9, 3) := by decide +kernel
theorem dX2_init_9 : decode cX2_init 9 = .ok (.putfield 11, 3) := by decide +kernel
theorem dX2_init_12 : decode cX2_init 12 = .ok (.aload_n 0, 1) := by decide +kernel
theorem dX2_init_13 : decode cX2_init 13 = .ok (.iconst 5, 1) := by decide +kernel
theorem dX2_init_14 : decode cX2_init 14 = .ok (.anewarray 9, 3) := by decide +kernel
theorem dX2_init_17 : decode cX2_init 17 = .ok (.putfield 17, 3) := by decide +kernel
theorem dX2_init_20 : decode cX2_init 20 = .ok (.aload_n 0, 1) := by decide +kernel
theorem dX2_init_21 : decode cX2_init 21 = .ok (.bipush 16, 2) := by decide +kernel
theorem dX2_init_23 : decode cX2_init 23 = .ok (.anewarray 9, 3) := by decide +kernel
theorem dX2_init_26 : decode cX2_init 26 = .ok (.putfield 20, 3) := by decide +kernel
theorem dX2_init_29 : decode cX2_init 29 = .ok (.aload_n 0, 1) := by decide +kernel
theorem dX2_init_30 : decode cX2_init 30 = .ok (.bipush 16, 2) := by decide +kernel
theorem dX2_init_32 : decode cX2_init 32 = .ok (.anewarray 9, 3) := by decide +kernel
theorem dX2_init_35 : decode cX2_init 35 = .ok (.putfield 23, 3) := by decide +kernel
theorem dX2_init_38 : decode cX2_init 38 = .ok (.iconst 0, 1) := by decide +kernel
theorem dX2_init_39 : decode cX2_init 39 = .ok (.istore_n 1, 1) := by decide +kernel
theorem dX2_init_40 : decode cX2_init 40 = .ok (.iload_n 1, 1) := by decide +kernel
theorem dX2_init_41 : decode cX2_init 41 = .ok (.iconst 5, 1) := by decide +kernel
theorem dX2_init_42 : decode cX2_init 42 = .ok (.if_icmp .ge 35, 3) := by decide +kernel
theorem dX2_init_45 : decode cX2_init 45 = .ok (.aload_n 0, 1) := by decide +kernel
theorem dX2_init_46 : decode cX2_init 46 = .ok (.getfield 11, 3) := by decide +kernel
theorem dX2_init_49 : decode cX2_init 49 = .ok (.iload_n 1, 1) := by decide +kernel
theorem dX2_init_50 : decode cX2_init 50 = .ok (.new 9, 3) := by decide +kernel
theorem dX2_init_53 : decode cX2_init 53 = .ok (.dup, 1) := by decide +kernel
theorem dX2_init_54 : decode cX2_init 54 = .ok (.invokespecial 26, 3) := by decide +kernel
theorem dX2_init_57 : decode cX2_init 57 = .ok (.aastore, 1) := by decide +kernel
theorem dX2_init_58 : decode cX2_init 58 = .ok (.aload_n 0, 1) := by decide +kernel
theorem dX2_init_59 : decode cX2_init 59 = .ok (.getfield 17, 3) := by decide +kernel
theorem dX2_init_62 : decode cX2_init 62 = .ok (.iload_n 1, 1) := by decide +kernel
theorem dX2_init_63 : decode cX2_init 63 = .ok (.new 9, 3) := by decide +kernel
theorem dX2_init_66 : decode cX2_init 66 = .ok (.dup, 1) := by decide +kernel
theorem dX2_init_67 : decode cX2_init 67 = .ok (.invokespecial 26, 3) := by decide +kernel
theorem dX2_init_70 : decode cX2_init 70 = .ok (.aastore, 1) := by decide +kernel
theorem dX2_init_71 : decode cX2_init 71 = .ok (.iinc 1 1, 3) := by decide +kernel
theorem dX2_init_74 : decode cX2_init 74 = .ok (.goto (-34), 3) := by decide +kernel
theorem dX2_init_77 : decode cX2_init 77 = .ok (.iconst 0, 1) := by decide +kernel
theorem dX2_init_78 : decode cX2_init 78 = .ok (.istore_n 1, 1) := by decide +kernel
theorem dX2_init_79 : decode cX2_init 79 = .ok (.iload_n 1, 1) := by decide +kernel
theorem dX2_init_80 : decode cX2_init 80 = .ok (.iconst 4, 1) := by decide +kernel
theorem dX2_init_81 : decode cX2_init 81 = .ok (.if_icmp .ge 52, 3) := by decide +kernel
theorem dX2_init_84 : decode cX2_init 84 = .ok (.iload_n 1, 1) := by decide +kernel
theorem dX2_init_85 : decode cX2_init 85 = .ok (.istore_n 2, 1) := by decide +kernel
theorem dX2_init_86 : decode cX2_init 86 = .ok (.iload_n 2, 1) := by decide +kernel
theorem dX2_init_87 : decode cX2_init 87 = .ok (.iconst 4, 1) := by decide +kernel
theorem dX2_init_88 : decode cX2_init 88 = .ok (.if_icmp .ge 39, 3) := by decide +kernel
theorem dX2_init_91 : decode cX2_init 91 = .ok (.new 9, 3) := by decide +kernel
theorem dX2_init_94 : decode cX2_init 94 = .ok (.dup, 1) := by decide +kernel
theorem dX2_init_95 : decode cX2_init 95 = .ok (.invokespecial 26, 3) := by decide +kernel
theorem dX2_init_98 : decode cX2_init 98 = .ok (.astore_n 3, 1) := by decide +kernel
theorem dX2_init_99 : decode cX2_init 99 = .ok (.aload_n 0, 1) := by decide +kernel
theorem dX2_init_100 : decode cX2_init 100 = .ok (.getfield 20, 3) := by decide +kernel
theorem dX2_init_103 : decode cX2_init 103 = .ok (.iload_n 1, 1) := by decide +kernel
theorem dX2_init_104 : decode cX2_init 104 = .ok (.iconst 4, 1) := by decide +kernel
theorem dX2_init_105 : decode cX2_init 105 = .ok (.imul, 1) := by decide +kernel
theorem dX2_init_106 : decode cX2_init 106 = .ok (.iload_n 2, 1) := by decide +kernel
theorem dX2_init_107 : decode cX2_init 107 = .ok (.iadd, 1) := by decide +kernel
theorem dX2_init_108 : decode cX2_init 108 = .ok (.aload_n 3, 1) := by decide +kernel
theorem dX2_init_109 : decode cX2_init 109 = .ok (.aastore, 1) := by decide +kernel
theorem dX2_init_110 : decode cX2_init 110 = .ok (.aload_n 0, 1) := by decide +kernel
theorem dX2_init_111 : decode cX2_init 111 = .ok (.getfield 20, 3) := by decide +kernel
theorem dX2_init_114 : decode cX2_init 114 = .ok (.iload_n 2, 1) := by decide +kernel
theorem dX2_init_115 : decode cX2_init 115 = .ok (.iconst 4, 1) := by decide +kernel
theorem dX2_init_116 : decode cX2_init 116 = .ok (.imul, 1) := by decide +kernel
theorem dX2_init_117 : decode cX2_init 117 = .ok (.iload_n 1, 1) := by decide +kernel
theorem dX2_init_118 : decode cX2_init 118 = .ok (.iadd, 1) := by decide +kernel
theorem dX2_init_119 : decode cX2_init 119 = .ok (.aload_n 3, 1) := by decide +kernel
theorem dX2_init_120 : decode cX2_init 120 = .ok (.aastore, 1) := by decide +kernel
theorem dX2_init_121 : decode cX2_init 121 = .ok (.iinc 2 1, 3) := by decide +kernel
theorem dX2_init_124 : decode cX2_init 124 = .ok (.goto (-38), 3) := by decide +kernel
theorem dX2_init_127 : decode cX2_init 127 = .ok (.iinc 1 1, 3) := by decide +kernel
theorem dX2_init_130 : decode cX2_init 130 = .ok (.goto (-51), 3) := by decide +kernel
theorem dX2_init_133 : decode cX2_init 133 = .ok (.iconst 0, 1) := by decide +kernel
theorem dX2_init_134 : decode cX2_init 134 = .ok (.istore_n 1, 1) := by decide +kernel
theorem dX2_init_135 : decode cX2_init 135 = .ok (.iload_n 1, 1) := by decide +kernel
theorem dX2_init_136 : decode cX2_init 136 = .ok (.aload_n 0, 1) := by decide +kernel
theorem dX2_init_137 : decode cX2_init 137 = .ok (.getfield 23, 3) := by decide +kernel
theorem dX2_init_140 : decode cX2_init 140 = .ok (.arraylength, 1) := by decide +kernel
theorem dX2_init_141 : decode cX2_init 141 = .ok (.if_icmp .ge 22, 3) := by decide +kernel
theorem dX2_init_144 : decode cX2_init 144 = .ok (.aload_n 0, 1) := by decide +kernel
theorem dX2_init_145 : decode cX2_init 145 = .ok (.getfield 23, 3) := by decide +kernel
theorem dX2_init_148 : decode cX2_init 148 = .ok (.iload_n 1, 1) := by decide +kernel
theorem dX2_init_149 : decode cX2_init 149 = .ok (.new 9, 3) := by decide +kernel
theorem dX2_init_152 : decode cX2_init 152 = .ok (.dup, 1) := by decide +kernel
theorem dX2_init_153 : decode cX2_init 153 = .ok (.invokespecial 26, 3) := by decide +kernel
theorem dX2_init_156 : decode cX2_init 156 = .ok (.aastore, 1) := by decide +kernel
theorem dX2_init_157 : decode cX2_init 157 = .ok (.iinc 1 1, 3) := by decide +kernel
theorem dX2_init_160 : decode cX2_init 160 = .ok (.goto (-25), 3) := by decide +kernel
theorem dX2_init_163 : decode cX2_init 163 = .ok (.return_, 1) := by decide +kernel
set_option maxHeartbeats 4000000 in
set_option maxRecDepth 100000 in
theorem ct_X2_init (l : Launch) (D : va_G) (ce : Nat → ClassId) (h0 : Nat) : Ct l yX2_init cX2_init 4 none { frames := 2, cells := 76, slots := 1122, locals := 32 } 76 1122 D (TY ce) [.ref h0] [(h0, .inr (2, [.null, .null, .null, .null]))] (QV D (TY ce) (fun w1 => ∃ g : Nat → Nat, ∃ f1 : Nat → Option Nat, ∃ f2 : Nat → Option Nat, ∃ f3 : Nat → Option Nat, ∃ f4 : Nat → Option Nat, ∃ pl : Nat → Nat, ∃ ar : Nat → Nat, w1 = (elE ce h0 g f1 f2 f3 f4 ++ ppF ce pl ar) ∧ (∀ i, i < 5 → f1 i = some (pl (2 * i))) ∧ (∀ i, i < 5 → f2 i = some (pl (2 * i + 1))) ∧ (∀ i, i < 16 → f3 i = some (pl (10 + tri i))) ∧ (∀ i, i < 16 → f4 i = some (pl (20 + i))))) := by
  refine Ct.ofV (by decide) (Nat.le_of_ble_eq_true rfl) ?_
  intro p e s m args below meth c A Q hX hnm hR
  refine Z.pick (lv' := [(0, .ref h0)]) [0] rfl ?_
  refine Z.aload_n hX dX2_init_0 rfl rfl ?_
  refine Z.objI hX dX2_init_1 ml_X2_3 im_obj mc_obj (by decide) (by decide) ?_
  refine Z.aload_n hX dX2_init_4 rfl rfl ?_
  refine Z.iconst hX dX2_init_5 ?_
  refine Z.anew (N := 5) hX 4 dX2_init_6 rfl cl_X2_9 rfl (by decide) (Nat.le_of_ble_eq_true rfl) (Nat.le_of_ble_eq_true rfl) ?_
  intro q1
  refine Z.toW (w' := (h0, .inr (2, [.null, .null, .null, .null])) :: (([]) ++ [(q1, .inl (ce 4, 5, .inr (.inr (.inr (.inr (fun _ => none))))))])) rfl ?_
  refine Z.putF (ty := tyX2 0) hX 2 0 0 tyX2 hnm dX2_init_9 rfl rfl inX2 tyX2_ok nmX2 (by decide) fl_X2_11 rfl rfl rfl (by decide +kernel) rfl rfl (Nat.le_of_ble_eq_true rfl) ?_
  refine Z.toW (w' := (h0, .inr (2, [.ref q1, .null, .null, .null])) :: (([]) ++ [(q1, .inl (ce 4, 5, .inr (.inr (.inr (.inr (fun _ => none))))))])) rfl ?_
  refine Z.aload_n hX dX2_init_12 rfl rfl ?_
  refine Z.iconst hX dX2_init_13 ?_
  refine Z.anew (N := 5) hX 4 dX2_init_14 rfl cl_X2_9 rfl (by decide) (Nat.le_of_ble_eq_true rfl) (Nat.le_of_ble_eq_true rfl) ?_
  intro q2
  refine Z.toW (w' := (h0, .inr (2, [.ref q1, .null, .null, .null])) :: ((([]) ++ [(q1, .inl (ce 4, 5, .inr (.inr (.inr (.inr (fun _ => none))))))]) ++ [(q2, .inl (ce 4, 5, .inr (.inr (.inr (.inr (fun _ => none))))))])) rfl ?_
  refine Z.putF (ty := tyX2 1) hX 2 0 1 tyX2 hnm dX2_init_17 rfl rfl inX2 tyX2_ok nmX2 (by decide) fl_X2_17 rfl rfl rfl (by decide +kernel) rfl rfl (Nat.le_of_ble_eq_true rfl) ?_
  refine Z.toW (w' := (h0, .inr (2, [.ref q1, .ref q2, .null, .null])) :: ((([]) ++ [(q1, .inl (ce 4, 5, .inr (.inr (.inr (.inr (fun _ => none))))))]) ++ [(q2, .inl (ce 4, 5, .inr (.inr (.inr (.inr (fun _ => none))))))])) rfl ?_
  refine Z.aload_n hX dX2_init_20 rfl rfl ?_
  refine Z.bipush hX dX2_init_21 (by decide) ?_
  refine Z.anew (N := 16) hX 4 dX2_init_23 rfl cl_X2_9 rfl (by decide) (Nat.le_of_ble_eq_true rfl) (Nat.le_of_ble_eq_true rfl) ?_
  intro q3
  refine Z.toW (w' := (h0, .inr (2, [.ref q1, .ref q2, .null, .null])) :: (((([]) ++ [(q1, .inl (ce 4, 5, .inr (.inr (.inr (.inr (fun _ => none))))))]) ++ [(q2, .inl (ce 4, 5, .inr (.inr (.inr (.inr (fun _ => none))))))]) ++ [(q3, .inl (ce 4, 16, .inr (.inr (.inr (.inr (fun _ => none))))))])) rfl ?_
  refine Z.putF (ty := tyX2 2) hX 2 0 2 tyX2 hnm dX2_init_26 rfl rfl inX2 tyX2_ok nmX2 (by decide) fl_X2_20 rfl rfl rfl (by decide +kernel) rfl rfl (Nat.le_of_ble_eq_true rfl) ?_
  refine Z.toW (w' := (h0, .inr (2, [.ref q1, .ref q2, .ref q3, .null])) :: (((([]) ++ [(q1, .inl (ce 4, 5, .inr (.inr (.inr (.inr (fun _ => none))))))]) ++ [(q2, .inl (ce 4, 5, .inr (.inr (.inr (.inr (fun _ => none))))))]) ++ [(q3, .inl (ce 4, 16, .inr (.inr (.inr (.inr (fun _ => none))))))])) rfl ?_
  refine Z.aload_n hX dX2_init_29 rfl rfl ?_
  refine Z.bipush hX dX2_init_30 (by decide) ?_
  refine Z.anew (N := 16) hX 4 dX2_init_32 rfl cl_X2_9 rfl (by decide) (Nat.le_of_ble_eq_true rfl) (Nat.le_of_ble_eq_true rfl) ?_
  intro q4
  refine Z.toW (w' := (h0, .inr (2, [.ref q1, .ref q2, .ref q3, .null])) :: ((((([]) ++ [(q1, .inl (ce 4, 5, .inr (.inr (.inr (.inr (fun _ => none))))))]) ++ [(q2, .inl (ce 4, 5, .inr (.inr (.inr (.inr (fun _ => none))))))]) ++ [(q3, .inl (ce 4, 16, .inr (.inr (.inr (.inr (fun _ => none))))))]) ++ [(q4, .inl (ce 4, 16, .inr (.inr (.inr (.inr (fun _ => none))))))])) rfl ?_
  refine Z.putF (ty := tyX2 3) hX 2 0 3 tyX2 hnm dX2_init_35 rfl rfl inX2 tyX2_ok nmX2 (by decide) fl_X2_23 rfl rfl rfl (by decide +kernel) rfl rfl (Nat.le_of_ble_eq_true rfl) ?_
  refine Z.toW (w' := (h0, .inr (2, [.ref q1, .ref q2, .ref q3, .ref q4])) :: ((((([]) ++ [(q1, .inl (ce 4, 5, .inr (.inr (.inr (.inr (fun _ => none))))))]) ++ [(q2, .inl (ce 4, 5, .inr (.inr (.inr (.inr (fun _ => none))))))]) ++ [(q3, .inl (ce 4, 16, .inr (.inr (.inr (.inr (fun _ => none))))))]) ++ [(q4, .inl (ce 4, 16, .inr (.inr (.inr (.inr (fun _ => none))))))])) rfl ?_
  obtain ⟨g, hg⟩ : ∃ g : Nat → Nat, g = fun k => ([q1, q2, q3, q4] : List Nat).getD k 0 := ⟨_, rfl⟩
  refine Z.toW (w' := elE ce h0 g (fun _ => none) (fun _ => none) (fun _ => none) (fun _ => none) ++ pp ce ([])) (by rw [hg]; rfl) ?_
  have key3 : ∀ (N : Nat) (i : Int) (P : List (Nat × Nat)) (f1 f2 f3 f4 : Nat → Option Nat), (16 - i).toNat < N → (0 ≤ i ∧ i ≤ 16) → (P.length : Int) = 20 + i → (∀ n, n < 5 → f1 n = pn P (2 * n)) → (∀ n, n < 5 → f2 n = pn P (2 * n + 1)) → (∀ n, n < 16 → f3 n = pn P (10 + tri n)) → (∀ n : Nat, (n : Int) < i → f4 n = pn P (20 + n)) → Z p l e { frames := 2, cells := 76, slots := 1122, locals := 32 } s m args below meth c D A 4 (4 + 2 * P.length) (42 + 30 * P.length) Q 135 [(1, .int (zI i)), (0, .ref h0)] [] (elE ce h0 g f1 f2 f3 f4 ++ pp ce P) := by
    intro N
    induction N with
    | zero => intro i P f1 f2 f3 f4 hm; exact absurd hm (Nat.not_lt_zero _)
    | succ N ih =>
      intro i P f1 f2 f3 f4 hm hi hl e1 e2 e3 e4
      refine Z.iload_n hX dX2_init_135 rfl rfl ?_
      refine Z.aload_n hX dX2_init_136 rfl rfl ?_
      refine Z.getf hX 2 0 3 dX2_init_137 rfl rfl inX2 (by decide) fl_X2_23 rfl rfl ?_
      refine Z.alen hX 4 4 dX2_init_140 rfl rfl ?_
      refine Z.icmp_ge hX 163 dX2_init_141 (by decide) ⟨by omega, by omega⟩ ⟨by show (-2147483648 : Int) ≤ 16; decide, by show (16 : Int) < 2147483648; decide⟩ ?_ ?_
      · intro hc
        have hc : (16 : Int) ≤ i := hc
        have hl36 : P.length = 36 := by omega
        refine Z.widen (k := 76) (n := 1122) (by omega) (by omega) ?_
        refine Z.toW (w' := elE ce h0 g f1 f2 f3 f4 ++ ppF ce (fun k => (P.getD k (0, 0)).1) (fun k => (P.getD k (0, 0)).2)) (by rw [pp_all hl36]) ?_
        exact hR _ _ _ dX2_init_163 (el_done hl36 e1 e2 e3 (fun n hn => e4 n (by omega)))
      · intro hc
        have hc : ¬ (16 : Int) ≤ i := by first | exact hc | (have hc : i < (16 : Int) := hc; omega)
        refine Z.aload_n hX dX2_init_144 rfl rfl ?_
        refine Z.getf hX 2 0 3 dX2_init_145 rfl rfl inX2 (by decide) fl_X2_23 rfl rfl ?_
        refine Z.iload_n hX dX2_init_148 rfl rfl ?_
        refine Z.mkPl hX dX2_init_149 dX2_init_152 dX2_init_153 cl_X2_9 ns_X2_26 ⟨Nat.le_of_ble_eq_true rfl, Nat.le_of_ble_eq_true rfl⟩ (by show _ ≤ 76; omega) (by show _ ≤ 1122; omega) (Nat.le_of_ble_eq_true rfl) ?_
        intro q r
        refine Z.toW (w' := elE ce h0 g f1 f2 f3 f4 ++ pp ce ((P ++ [(q, r)]))) el_snoc ?_
        have lq : (P ++ [(q, r)]).length = P.length + 1 := by simp
        refine Z.widen (k := 4 + 2 * (P ++ [(q, r)]).length) (n := 42 + 30 * (P ++ [(q, r)]).length) (by omega) (by omega) ?_
        refine Z.aast hX 4 4 (5 + 2 * P.length) dX2_init_156 rfl rfl pp_last (by omega) (by omega) (by decide) ?_
        refine Z.toW (w' := elE ce h0 g f1 f2 f3 (va_up f4 (i : Int).toNat (some q)) ++ pp ce ((P ++ [(q, r)]))) rfl ?_
        refine Z.iinc (lv' := [(1, .int (zI (i + 1))), (0, .ref h0)]) hX dX2_init_157 rfl (by decide) rfl ?_
        refine Z.goto hX 135 dX2_init_160 (by decide) ?_
        refine ih (i + 1) (P ++ [(q, r)]) f1 f2 f3 _ (by omega) (by omega) (by omega) (fun n hn => ?_) (fun n hn => ?_) (fun n hn => ?_) (fun n hn => ?_)
        · rw [pn_old (by omega)]; exact e1 n hn
        · rw [pn_old (by omega)]; exact e2 n hn
        · have := tri_lt n; rw [pn_old (by omega)]; exact e3 n hn
        · by_cases h1 : n = (i : Int).toNat
          · rw [h1, up_eq, pn_new (by omega)]
          · rw [up_ne h1, pn_old (by omega)]; exact e4 n (by omega)
  have key2 : ∀ (N : Nat) (i : Int) (P : List (Nat × Nat)) (f1 f2 f3 f4 : Nat → Option Nat), (4 - i).toNat < N → (0 ≤ i ∧ i ≤ 4) → P.length = 10 + bse i.toNat → (∀ n, n < 5 → f1 n = pn P (2 * n)) → (∀ n, n < 5 → f2 n = pn P (2 * n + 1)) → (∀ n, n < 16 → dne i.toNat i.toNat n = true → f3 n = pn P (10 + tri n)) → Z p l e { frames := 2, cells := 76, slots := 1122, locals := 32 } s m args below meth c D A 4 (4 + 2 * P.length) (42 + 30 * P.length) Q 79 [(1, .int (zI i)), (0, .ref h0)] [] (elE ce h0 g f1 f2 f3 f4 ++ pp ce P) := by
    intro N
    induction N with
    | zero => intro i P f1 f2 f3 f4 hm; exact absurd hm (Nat.not_lt_zero _)
    | succ N ih =>
      intro i P f1 f2 f3 f4 hm hi hl e1 e2 e3
      refine Z.iload_n hX dX2_init_79 rfl rfl ?_
      refine Z.iconst hX dX2_init_80 ?_
      refine Z.icmp_ge hX 133 dX2_init_81 (by decide) ⟨by omega, by omega⟩ ⟨by decide, by decide⟩ ?_ ?_
      · intro hc
        have hc : (4 : Int) ≤ i := hc
        refine Z.iconst hX dX2_init_133 ?_
        refine Z.istore_n (lv' := [(1, .int (zI 0)), (0, .ref h0)]) hX dX2_init_134 rfl (by decide) rfl ?_
        have hi4 : i = 4 := by omega
        subst hi4
        exact key3 _ 0 P f1 f2 f3 f4 (Nat.lt_succ_self _) (by omega) (by have : bse (4 : Int).toNat = 10 := rfl; omega) e1 e2 (fun n hn => e3 n hn (dne_a ⟨n, hn⟩)) (fun n hn => by omega)
      · intro hc
        have hc : ¬ (4 : Int) ≤ i := by first | exact hc | (have hc : i < (4 : Int) := hc; omega)
        refine Z.iload_n hX dX2_init_84 rfl rfl ?_
        refine Z.istore_n (lv' := [(2, .int (zI i)), (1, .int (zI i)), (0, .ref h0)]) hX dX2_init_85 rfl (by decide) rfl ?_
        have keyj : ∀ (M : Nat) (j : Int) (P : List (Nat × Nat)) (f1 f2 f3 f4 : Nat → Option Nat), (4 - j).toNat < M → (i ≤ j ∧ j ≤ 4) → P.length = 10 + bse i.toNat + (j.toNat - i.toNat) → (∀ n, n < 5 → f1 n = pn P (2 * n)) → (∀ n, n < 5 → f2 n = pn P (2 * n + 1)) → (∀ n, n < 16 → dne i.toNat j.toNat n = true → f3 n = pn P (10 + tri n)) → Z p l e { frames := 2, cells := 76, slots := 1122, locals := 32 } s m args below meth c D A 4 (4 + 2 * P.length) (42 + 30 * P.length) Q 86 [(2, .int (zI j)), (1, .int (zI i)), (0, .ref h0)] [] (elE ce h0 g f1 f2 f3 f4 ++ pp ce P) := by
          intro M
          induction M with
          | zero => intro j P f1 f2 f3 f4 hm; exact absurd hm (Nat.not_lt_zero _)
          | succ M ihj =>
            intro j P f1 f2 f3 f4 hm hj hl e1 e2 e3
            refine Z.iload_n hX dX2_init_86 rfl rfl ?_
            refine Z.iconst hX dX2_init_87 ?_
            refine Z.icmp_ge hX 127 dX2_init_88 (by decide) ⟨by omega, by omega⟩ ⟨by decide, by decide⟩ ?_ ?_
            · intro hc
              have hc : (4 : Int) ≤ j := hc
              refine Z.iinc (lv' := [(1, .int (zI (i + 1))), (2, .int (zI j)), (0, .ref h0)]) hX dX2_init_127 rfl (by decide) rfl ?_
              refine Z.goto hX 79 dX2_init_130 (by decide) ?_
              refine Z.pick (lv' := [(1, .int (zI (i + 1))), (0, .ref h0)]) [0, 2] rfl ?_
              have hj4 : j = 4 := by omega
              subst hj4
              have hb := bse_e ⟨i.toNat, by omega⟩
              have hs : (i + 1).toNat = i.toNat + 1 := by omega
              refine ih (i + 1) P f1 f2 f3 f4 (by omega) (by omega) (by rw [hs]; have h4 : (4 : Int).toNat = 4 := rfl; rw [h4] at hl; have hb : bse i.toNat + (4 - i.toNat) = bse (i.toNat + 1) := hb; omega) e1 e2 (fun n hn hd => e3 n hn ?_)
              rw [hs] at hd
              exact dne_e ⟨i.toNat, by omega⟩ ⟨n, hn⟩ hd
            · intro hc
              have hc : ¬ (4 : Int) ≤ j := by first | exact hc | (have hc : j < (4 : Int) := hc; omega)
              obtain ⟨t1, t2, t3, t4, t5⟩ := dne_t ⟨i.toNat, by omega⟩ ⟨j.toNat, by omega⟩ (by show i.toNat ≤ j.toNat; omega)
              have t1 : tri (4 * i.toNat + j.toNat) = bse i.toNat + (j.toNat - i.toNat) := t1
              have t2 : tri (4 * j.toNat + i.toNat) = bse i.toNat + (j.toNat - i.toNat) := t2
              have t4 : 4 * j.toNat + i.toNat < 16 := t4
              have t5 : 4 * i.toNat + j.toNat < 16 := t5
              have tl := tri_lt (4 * i.toNat + j.toNat)
              refine Z.mkPl hX dX2_init_91 dX2_init_94 dX2_init_95 cl_X2_9 ns_X2_26 ⟨Nat.le_of_ble_eq_true rfl, Nat.le_of_ble_eq_true rfl⟩ (by show _ ≤ 76; omega) (by show _ ≤ 1122; omega) (Nat.le_of_ble_eq_true rfl) ?_
              intro q r
              refine Z.toW (w' := elE ce h0 g f1 f2 f3 f4 ++ pp ce ((P ++ [(q, r)]))) el_snoc ?_
              have lq : (P ++ [(q, r)]).length = P.length + 1 := by simp
              refine Z.widen (k := 4 + 2 * (P ++ [(q, r)]).length) (n := 42 + 30 * (P ++ [(q, r)]).length) (by omega) (by omega) ?_
              refine Z.astore_n (lv' := [(3, .ref q), (2, .int (zI j)), (1, .int (zI i)), (0, .ref h0)]) hX dX2_init_98 rfl (by decide) rfl ?_
              refine Z.aload_n hX dX2_init_99 rfl rfl ?_
              refine Z.getf hX 2 0 2 dX2_init_100 rfl rfl inX2 (by decide) fl_X2_20 rfl rfl ?_
              refine Z.iload_n hX dX2_init_103 rfl rfl ?_
              refine Z.iconst hX dX2_init_104 ?_
              refine Z.imul hX dX2_init_105 ?_
              refine Z.iload_n hX dX2_init_106 rfl rfl ?_
              refine Z.iadd hX dX2_init_107 ?_
              refine Z.aload_n hX dX2_init_108 rfl rfl ?_
              refine Z.aast hX 3 4 (5 + 2 * P.length) dX2_init_109 rfl rfl pp_last (by omega) (by omega) (by decide) ?_
              refine Z.toW (w' := elE ce h0 g f1 f2 (va_up f3 (i * 4 + j : Int).toNat (some q)) f4 ++ pp ce ((P ++ [(q, r)]))) rfl ?_
              refine Z.aload_n hX dX2_init_110 rfl rfl ?_
              refine Z.getf hX 2 0 2 dX2_init_111 rfl rfl inX2 (by decide) fl_X2_20 rfl rfl ?_
              refine Z.iload_n hX dX2_init_114 rfl rfl ?_
              refine Z.iconst hX dX2_init_115 ?_
              refine Z.imul hX dX2_init_116 ?_
              refine Z.iload_n hX dX2_init_117 rfl rfl ?_
              refine Z.iadd hX dX2_init_118 ?_
              refine Z.aload_n hX dX2_init_119 rfl rfl ?_
              refine Z.aast hX 3 4 (5 + 2 * P.length) dX2_init_120 rfl rfl pp_last (by omega) (by omega) (by decide) ?_
              refine Z.toW (w' := elE ce h0 g f1 f2 (va_up (va_up f3 (i * 4 + j : Int).toNat (some q)) (j * 4 + i : Int).toNat (some q)) f4 ++ pp ce ((P ++ [(q, r)]))) rfl ?_
              refine Z.iinc (lv' := [(2, .int (zI (j + 1))), (3, .ref q), (1, .int (zI i)), (0, .ref h0)]) hX dX2_init_121 rfl (by decide) rfl ?_
              refine Z.goto hX 86 dX2_init_124 (by decide) ?_
              refine Z.pick (lv' := [(2, .int (zI (j + 1))), (1, .int (zI i)), (0, .ref h0)]) [0, 2, 3] rfl ?_
              refine ihj (j + 1) (P ++ [(q, r)]) f1 f2 _ f4 (by omega) (by omega) (by omega) (fun n hn => ?_) (fun n hn => ?_) (fun n hn hd => ?_)
              · rw [pn_old (by omega)]; exact e1 n hn
              · rw [pn_old (by omega)]; exact e2 n hn
              · by_cases h1 : n = (j * 4 + i : Int).toNat
                · rw [h1, up_eq, pn_new (by rw [show (j * 4 + i : Int).toNat = 4 * j.toNat + i.toNat by omega, t2]; omega)]
                · rw [up_ne h1]
                  by_cases h2 : n = (i * 4 + j : Int).toNat
                  · rw [h2, up_eq, pn_new (by rw [show (i * 4 + j : Int).toNat = 4 * i.toNat + j.toNat by omega, t1]; omega)]
                  · rw [up_ne h2]
                    have hs : (j + 1).toNat = j.toNat + 1 := by omega
                    rw [hs] at hd
                    rcases dne_s ⟨i.toNat, by omega⟩ ⟨j.toNat, by omega⟩ ⟨n, hn⟩ (by show i.toNat ≤ j.toNat; omega) hd with h3 | h3 | h3
                    · exact absurd (show n = (i * 4 + j : Int).toNat by have h3 : n = 4 * i.toNat + j.toNat := h3; omega) h2
                    · exact absurd (show n = (j * 4 + i : Int).toNat by have h3 : n = 4 * j.toNat + i.toNat := h3; omega) h1
                    · have h4 := dne_l ⟨i.toNat, by omega⟩ ⟨j.toNat, by omega⟩ ⟨n, hn⟩ (by show i.toNat ≤ j.toNat; omega) h3
                      have h4 : tri n < bse i.toNat + (j.toNat - i.toNat) := h4
                      rw [pn_old (by omega)]
                      exact e3 n hn h3
        exact keyj _ i P f1 f2 f3 f4 (Nat.lt_succ_self _) (by omega) (by omega) e1 e2 e3
  have key1 : ∀ (N : Nat) (i : Int) (P : List (Nat × Nat)) (f1 f2 f3 f4 : Nat → Option Nat), (5 - i).toNat < N → (0 ≤ i ∧ i ≤ 5) → (P.length : Int) = 2 * i → (∀ n : Nat, (n : Int) < i → f1 n = pn P (2 * n)) → (∀ n : Nat, (n : Int) < i → f2 n = pn P (2 * n + 1)) → Z p l e { frames := 2, cells := 76, slots := 1122, locals := 32 } s m args below meth c D A 4 (4 + 2 * P.length) (42 + 30 * P.length) Q 40 [(1, .int (zI i)), (0, .ref h0)] [] (elE ce h0 g f1 f2 f3 f4 ++ pp ce P) := by
    intro N
    induction N with
    | zero => intro i P f1 f2 f3 f4 hm; exact absurd hm (Nat.not_lt_zero _)
    | succ N ih =>
      intro i P f1 f2 f3 f4 hm hi hl e1 e2
      refine Z.iload_n hX dX2_init_40 rfl rfl ?_
      refine Z.iconst hX dX2_init_41 ?_
      refine Z.icmp_ge hX 77 dX2_init_42 (by decide) ⟨by omega, by omega⟩ ⟨by decide, by decide⟩ ?_ ?_
      · intro hc
        have hc : (5 : Int) ≤ i := hc
        refine Z.iconst hX dX2_init_77 ?_
        refine Z.istore_n (lv' := [(1, .int (zI 0)), (0, .ref h0)]) hX dX2_init_78 rfl (by decide) rfl ?_
        exact key2 _ 0 P f1 f2 f3 f4 (Nat.lt_succ_self _) (by omega) (by have : bse (0 : Int).toNat = 0 := rfl; omega) (fun n hn => e1 n (by omega)) (fun n hn => e2 n (by omega)) (fun n hn hd => by have := dne_0 ⟨n, hn⟩; rw [show (0 : Int).toNat = 0 from rfl] at hd; rw [show dne 0 0 n = false from this] at hd; cases hd)
      · intro hc
        have hc : ¬ (5 : Int) ≤ i := by first | exact hc | (have hc : i < (5 : Int) := hc; omega)
        refine Z.aload_n hX dX2_init_45 rfl rfl ?_
        refine Z.getf hX 2 0 0 dX2_init_46 rfl rfl inX2 (by decide) fl_X2_11 rfl rfl ?_
        refine Z.iload_n hX dX2_init_49 rfl rfl ?_
        refine Z.mkPl hX dX2_init_50 dX2_init_53 dX2_init_54 cl_X2_9 ns_X2_26 ⟨Nat.le_of_ble_eq_true rfl, Nat.le_of_ble_eq_true rfl⟩ (by show _ ≤ 76; omega) (by show _ ≤ 1122; omega) (Nat.le_of_ble_eq_true rfl) ?_
        intro q r
        refine Z.toW (w' := elE ce h0 g f1 f2 f3 f4 ++ pp ce ((P ++ [(q, r)]))) el_snoc ?_
        have lq : (P ++ [(q, r)]).length = P.length + 1 := by simp
        refine Z.widen (k := 4 + 2 * (P ++ [(q, r)]).length) (n := 42 + 30 * (P ++ [(q, r)]).length) (by omega) (by omega) ?_
        refine Z.aast hX 1 4 (5 + 2 * P.length) dX2_init_57 rfl rfl pp_last (by omega) (by omega) (by decide) ?_
        refine Z.toW (w' := elE ce h0 g (va_up f1 (i : Int).toNat (some q)) f2 f3 f4 ++ pp ce ((P ++ [(q, r)]))) rfl ?_
        refine Z.aload_n hX dX2_init_58 rfl rfl ?_
        refine Z.getf hX 2 0 1 dX2_init_59 rfl rfl inX2 (by decide) fl_X2_17 rfl rfl ?_
        refine Z.iload_n hX dX2_init_62 rfl rfl ?_
        refine Z.mkPl hX dX2_init_63 dX2_init_66 dX2_init_67 cl_X2_9 ns_X2_26 ⟨Nat.le_of_ble_eq_true rfl, Nat.le_of_ble_eq_true rfl⟩ (by show _ ≤ 76; omega) (by show _ ≤ 1122; omega) (Nat.le_of_ble_eq_true rfl) ?_
        intro q2 r2
        refine Z.toW (w' := elE ce h0 g (va_up f1 (i : Int).toNat (some q)) f2 f3 f4 ++ pp ce (((P ++ [(q, r)]) ++ [(q2, r2)]))) el_snoc ?_
        have lq2 : ((P ++ [(q, r)]) ++ [(q2, r2)]).length = (P ++ [(q, r)]).length + 1 := by simp
        refine Z.widen (k := 4 + 2 * ((P ++ [(q, r)]) ++ [(q2, r2)]).length) (n := 42 + 30 * ((P ++ [(q, r)]) ++ [(q2, r2)]).length) (by omega) (by omega) ?_
        refine Z.aast hX 2 4 (5 + 2 * (P ++ [(q, r)]).length) dX2_init_70 rfl rfl pp_last (by omega) (by omega) (by decide) ?_
        refine Z.toW (w' := elE ce h0 g (va_up f1 (i : Int).toNat (some q)) (va_up f2 (i : Int).toNat (some q2)) f3 f4 ++ pp ce (((P ++ [(q, r)]) ++ [(q2, r2)]))) rfl ?_
        refine Z.iinc (lv' := [(1, .int (zI (i + 1))), (0, .ref h0)]) hX dX2_init_71 rfl (by decide) rfl ?_
        refine Z.goto hX 40 dX2_init_74 (by decide) ?_
        refine ih (i + 1) ((P ++ [(q, r)]) ++ [(q2, r2)]) _ _ f3 f4 (by omega) (by omega) (by omega) (fun n hn => ?_) (fun n hn => ?_)
        · by_cases h1 : n = (i : Int).toNat
          · rw [h1, up_eq, pn_old (by omega), pn_new (by omega)]
          · rw [up_ne h1, pn_old (by omega), pn_old (by omega)]; exact e1 n (by omega)
        · by_cases h1 : n = (i : Int).toNat
          · rw [h1, up_eq, pn_new (by omega)]
          · rw [up_ne h1, pn_old (by omega), pn_old (by omega)]; exact e2 n (by omega)
  refine Z.iconst hX dX2_init_38 ?_
  refine Z.istore_n (lv' := [(1, .int (zI 0)), (0, .ref h0)]) hX dX2_init_39 rfl (by decide) rfl ?_
  exact key1 _ 0 [] _ _ _ _ (Nat.lt_succ_self _) (by omega) rfl (fun n hn => by omega) (fun n hn => by omega)
