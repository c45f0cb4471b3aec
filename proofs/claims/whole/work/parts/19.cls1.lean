section
section ZR5
variable {p : Program} {l : Launch} {e : Env} {R : Room} {s : State} {m : MethodId} {args : Array Value} {below : List Frame} {meth : Method} {c : Code} {D : va_G} {A : Nat → Prop} {nL cells slots : Nat} {Q : State → Prop}
variable {cc : ByteArray} {own : String} {tys : List (ClassId × FieldType)} {pc : Nat} {lv : List (Nat × Value)} {st : List Value} {w : va_W}
theorem Z.newl (hX : Zf p m c cc nL s args own D tys A) (t0 : Nat) {cA : ClassId} {z : Int} {N : Nat} (hd : decode cc pc = .ok (.newarray .long, 2)) (ht : tys[t0]? = some (cA, .long)) (hc : Cond.arrayClass .long ∈ lw_g) (hz : z = N) (hN : N ≤ 60000000) (hcells : cells + 1 ≤ R.cells) (hslots : slots + N ≤ R.slots) (k : ∀ q : Nat, Z p l e R s m args below meth c D A nL (cells + 1) (slots + N) Q (pc + 2) lv (.ref q :: st) (w ++ [(q, .inl (cA, N, .inr (.inl (fun _ => 0))))])) : Z p l e R s m args below meth c D A nL cells slots Q pc lv (.int (zI z) :: st) w := by
  intro H locs ls hP hD hS hv
  obtain ⟨hx, hb, hml, hown, hts, hK, hA, hN⟩ := id hX
  subst hz
  refine va_newa (atype := .long) (ty := .long) (N' := N) (a0 := (N, .inr (.inl (fun _ => 0)))) hx hb (hts _ hc) rfl hK hP hD hS hA (fun _ => rfl) ?_ ?_ ?_ hcells hslots hd (fun q cA' H1 hK1 hP1 hD1 hS1 => ?_)
  · intro q0
    have := (zI_lt (a := (N : Int)) (b := 0) ⟨by omega, by omega⟩ zR_0).mp q0
    omega
  · rw [zI_cl (by omega) (by omega)]; rfl
  · show N * _ ≤ _
    simp only [componentBytes]
    omega
  · have h1 : s.vm.findClass ("[" ++ (.long : FieldType).toString) = some cA' := (hK1.2 tys.length (cA', .long) (by simp)).2
    have h2 : s.vm.findClass ("[" ++ (.long : FieldType).toString) = some cA := (hK.2 t0 _ ht).2
    have h3 : cA' = cA := Option.some.inj (h1.symm.trans h2)
    subst h3
    exact k q H1 locs ls hP1 hD1 hS1 hv
theorem Z.newi (hX : Zf p m c cc nL s args own D tys A) (t0 : Nat) {cA : ClassId} {z : Int} {N : Nat} (hd : decode cc pc = .ok (.newarray .int, 2)) (ht : tys[t0]? = some (cA, .int)) (hc : Cond.arrayClass .int ∈ lw_g) (hz : z = N) (hN : N ≤ 60000000) (hcells : cells + 1 ≤ R.cells) (hslots : slots + N ≤ R.slots) (k : ∀ q : Nat, Z p l e R s m args below meth c D A nL (cells + 1) (slots + N) Q (pc + 2) lv (.ref q :: st) (w ++ [(q, .inl (cA, N, .inl (fun _ => 0)))])) : Z p l e R s m args below meth c D A nL cells slots Q pc lv (.int (zI z) :: st) w := by
  intro H locs ls hP hD hS hv
  obtain ⟨hx, hb, hml, hown, hts, hK, hA, hN⟩ := id hX
  subst hz
  refine va_newa (atype := .int) (ty := .int) (N' := N) (a0 := (N, .inl (fun _ => 0))) hx hb (hts _ hc) rfl hK hP hD hS hA (fun _ => rfl) ?_ ?_ ?_ hcells hslots hd (fun q cA' H1 hK1 hP1 hD1 hS1 => ?_)
  · intro q0
    have := (zI_lt (a := (N : Int)) (b := 0) ⟨by omega, by omega⟩ zR_0).mp q0
    omega
  · rw [zI_cl (by omega) (by omega)]; rfl
  · show N * _ ≤ _
    simp only [componentBytes]
    omega
  · have h1 : s.vm.findClass ("[" ++ (.int : FieldType).toString) = some cA' := (hK1.2 tys.length (cA', .int) (by simp)).2
    have h2 : s.vm.findClass ("[" ++ (.int : FieldType).toString) = some cA := (hK.2 t0 _ ht).2
    have h3 : cA' = cA := Option.some.inj (h1.symm.trans h2)
    subst h3
    exact k q H1 locs ls hP1 hD1 hS1 hv
theorem Z.newz (hX : Zf p m c cc nL s args own D tys A) (t0 : Nat) {cA : ClassId} {z : Int} {N : Nat} (hd : decode cc pc = .ok (.newarray .boolean, 2)) (ht : tys[t0]? = some (cA, .boolean)) (hc : Cond.arrayClass .boolean ∈ lw_g) (hz : z = N) (hN : N ≤ 60000000) (hcells : cells + 1 ≤ R.cells) (hslots : slots + N ≤ R.slots) (k : ∀ q : Nat, Z p l e R s m args below meth c D A nL (cells + 1) (slots + N) Q (pc + 2) lv (.ref q :: st) (w ++ [(q, .inl (cA, N, .inl (fun _ => 0)))])) : Z p l e R s m args below meth c D A nL cells slots Q pc lv (.int (zI z) :: st) w := by
  intro H locs ls hP hD hS hv
  obtain ⟨hx, hb, hml, hown, hts, hK, hA, hN⟩ := id hX
  subst hz
  refine va_newa (atype := .boolean) (ty := .boolean) (N' := N) (a0 := (N, .inl (fun _ => 0))) hx hb (hts _ hc) rfl hK hP hD hS hA (fun _ => rfl) ?_ ?_ ?_ hcells hslots hd (fun q cA' H1 hK1 hP1 hD1 hS1 => ?_)
  · intro q0
    have := (zI_lt (a := (N : Int)) (b := 0) ⟨by omega, by omega⟩ zR_0).mp q0
    omega
  · rw [zI_cl (by omega) (by omega)]; rfl
  · show N * _ ≤ _
    simp only [componentBytes]
    omega
  · have h1 : s.vm.findClass ("[" ++ (.boolean : FieldType).toString) = some cA' := (hK1.2 tys.length (cA', .boolean) (by simp)).2
    have h2 : s.vm.findClass ("[" ++ (.boolean : FieldType).toString) = some cA := (hK.2 t0 _ ht).2
    have h3 : cA' = cA := Option.some.inj (h1.symm.trans h2)
    subst h3
    exact k q H1 locs ls hP1 hD1 hS1 hv
theorem Z.putF (hX : Zf p m c cc nL s args own D tys A) {ref C : String} {T : u_T} {N index a : Nat} (ci q0 fk : Nat) {fs : List Value} {v : Value} {ty : FieldType} (ty0 : Nat → FieldType) (hin2 : meth.name = "<init>") (hd : decode cc pc = .ok (.putfield index, 3)) (he : w[q0]? = some (a, .inr (ci, fs))) (hc : vwCl[ci]? = some (C, T, N)) (hin : ∀ x ∈ u_ws C T N, x ∈ lw_g) (hty : ∀ k, k < N → parseFieldDescriptor (T k).2.2.1 = some (ty0 k)) (hnm : ∀ a, a < N → ∀ b, b < N → a ≠ b → (T a).2.1 ≠ (T b).2.1) (hk : fk < N) (hl : Cond.fieldLink own index ref (T fk).2.1 (T fk).2.2.1 ∈ lw_g) (hs : ref = (T fk).1) (hfin : (T fk).2.2.2 = true) (hdecl : (T fk).1 = own) (hdd : parseFieldDescriptor (T fk).2.2.1 = some ty) (hn : narrow ty v = v) (hfit : fits ty v = true) (hll : fk < fs.length) (k : Z p l e R s m args below meth c D A nL cells slots Q (pc + 3) lv st (w.set q0 (a, .inr (ci, fs.set fk v)))) : Z p l e R s m args below meth c D A nL cells slots Q pc lv (v :: .ref a :: st) w := fun H locs ls hP hD hS hv => va_putF hX.1 hX.2.1 hX.2.2.2.2.1 hin ty0 hty hnm hX.2.2.2.1 hX.2.2.2.2.2.1 hP hD hS q0 he hc fk hk (hX.2.2.2.2.1 _ hl) (fun x h => by rw [hs]; exact h) hfin hin2 hdecl hdd hn hfit hll hd (fun H1 locs1 hP1 hD1 hS1 => k H1 locs1 ls hP1 hD1 hS1 hv)
theorem Z.objI (hX : Zf p m c cc nL s args own D tys A) {idx a : Nat} (hd : decode cc pc = .ok (.invokespecial idx, 3)) (hl : Cond.methodLink own idx objectInit ∈ lw_g) (hi : Cond.instanceMethod objectInit ∈ lw_g) (hc : Cond.code objectInit ⟨#[0xb1]⟩ 1 none ∈ lw_g) (hfr : 1 ≤ R.frames) (hlo : (st.map fun v => v.category).sum + 12 ≤ R.locals) (k : Z p l e R s m args below meth c D A nL cells slots Q (pc + 3) lv st w) : Z p l e R s m args below meth c D A nL cells slots Q pc lv (.ref a :: st) w := by
  intro H locs ls hP hD hS hv
  obtain ⟨hx, hb, hml, hown, hts, hK, hA, hN⟩ := id hX
  refine W.objInit hx hb hown (hts _ hl) (hts _ hi) (hts _ hc) rfl (by rw [hml]; exact hv.1) rfl hd hfr (by show 2 * (F0 m pc ls _).monitorRoom + _ + 12 ≤ _; have : (F0 m pc ls (.ref a :: st)).monitorRoom = 0 := rfl; rw [this]; omega) ?_
  exact k H locs ls hP hD hS hv
end ZR5
end
section
theorem cnt_s {r : Nat → Int32} {k n z x : Int} (hk : 0 ≤ k) (hn : n = cntK r k.toNat) (ez : r k.toNat = zI z) (hz : zR z) (hx : (z = 0 ∧ x = n + 0) ∨ (¬ z = 0 ∧ x = n + 1)) : x = cntK r (k + 1).toNat := by
  obtain ⟨m, rfl⟩ := Int.eq_ofNat_of_zero_le hk
  have e1 : ((m : Int) + 1).toNat = m + 1 := by omega
  have e2 : ((m : Int)).toNat = m := rfl
  rw [e2] at hn ez
  rw [e1]
  show x = cntK r m + (if r m = 0 then 0 else 1)
  rw [ez, ← hn]
  rcases hx with ⟨h1, h2⟩ | ⟨h1, h2⟩
  · rw [h1, if_pos (show zI 0 = 0 from rfl), h2]
  · rw [if_neg (show ¬ zI z = 0 from fun q => h1 ((zI_eq hz zR_0).mp q)), h2]
theorem clr_s {f f' r : Nat → Int32} {k : Int} (hk : 0 ≤ k) (e : f' = upd f k.toNat (zI 0)) (h : ∀ q : Int, 0 ≤ q → f q.toNat = if q < k then 0 else r q.toNat) : ∀ q : Int, 0 ≤ q → f' q.toNat = if q < k + 1 then 0 else r q.toNat := by
  intro q h1
  rw [e, upI_at hk h1]
  by_cases g : q = k
  · rw [if_pos g, if_pos (by omega)]; rfl
  · rw [if_neg g, h q h1]
    by_cases g2 : q < k
    · rw [if_pos g2, if_pos (by omega)]
    · rw [if_neg g2, if_neg (by omega)]
end
section
theorem dX7_term_0 : decode cX7_term 0 = .ok (.iload_n 1, 1) := by decide +kernel
theorem dX7_term_1 : decode cX7_term 1 = .ok (.ifCond .lt 29, 3) := by decide +kernel
theorem dX7_term_4 : decode cX7_term 4 = .ok (.iload_n 1, 1) := by decide +kernel
theorem dX7_term_5 : decode cX7_term 5 = .ok (.iconst 2, 1) := by decide +kernel
theorem dX7_term_6 : decode cX7_term 6 = .ok (.if_icmp .gt 24, 3) := by decide +kernel
theorem dX7_term_9 : decode cX7_term 9 = .ok (.iload_n 2, 1) := by decide +kernel
theorem dX7_term_10 : decode cX7_term 10 = .ok (.ifCond .lt 20, 3) := by decide +kernel
theorem dX7_term_13 : decode cX7_term 13 = .ok (.iload_n 2, 1) := by decide +kernel
theorem dX7_term_14 : decode cX7_term 14 = .ok (.iconst 4, 1) := by decide +kernel
theorem dX7_term_15 : decode cX7_term 15 = .ok (.if_icmp .gt 15, 3) := by decide +kernel
theorem dX7_term_18 : decode cX7_term 18 = .ok (.iload_n 3, 1) := by decide +kernel
theorem dX7_term_19 : decode cX7_term 19 = .ok (.bipush (-7), 2) := by decide +kernel
theorem dX7_term_21 : decode cX7_term 21 = .ok (.if_icmp .lt 9, 3) := by decide +kernel
theorem dX7_term_24 : decode cX7_term 24 = .ok (.iload_n 3, 1) := by decide +kernel
theorem dX7_term_25 : decode cX7_term 25 = .ok (.bipush 7, 2) := by decide +kernel
theorem dX7_term_27 : decode cX7_term 27 = .ok (.if_icmp .le 6, 3) := by decide +kernel
theorem dX7_term_30 : decode cX7_term 30 = .ok (.bipush (-100), 2) := by decide +kernel
theorem dX7_term_32 : decode cX7_term 32 = .ok (.ireturn, 1) := by decide +kernel
theorem dX7_term_33 : decode cX7_term 33 = .ok (.aload_n 0, 1) := by decide +kernel
theorem dX7_term_34 : decode cX7_term 34 = .ok (.getfield 7, 3) := by decide +kernel
theorem dX7_term_37 : decode cX7_term 37 = .ok (.iconst 5, 1) := by decide +kernel
theorem dX7_term_38 : decode cX7_term 38 = .ok (.iload_n 1, 1) := by decide +kernel
theorem dX7_term_39 : decode cX7_term 39 = .ok (.imul, 1) := by decide +kernel
theorem dX7_term_40 : decode cX7_term 40 = .ok (.iload_n 2, 1) := by decide +kernel
theorem dX7_term_41 : decode cX7_term 41 = .ok (.iadd, 1) := by decide +kernel
theorem dX7_term_42 : decode cX7_term 42 = .ok (.iaload, 1) := by decide +kernel
theorem dX7_term_43 : decode cX7_term 43 = .ok (.istore 4, 2) := by decide +kernel
theorem dX7_term_45 : decode cX7_term 45 = .ok (.aload_n 0, 1) := by decide +kernel
theorem dX7_term_46 : decode cX7_term 46 = .ok (.getfield 7, 3) := by decide +kernel
theorem dX7_term_49 : decode cX7_term 49 = .ok (.iconst 5, 1) := by decide +kernel
theorem dX7_term_50 : decode cX7_term 50 = .ok (.iload_n 1, 1) := by decide +kernel
theorem dX7_term_51 : decode cX7_term 51 = .ok (.imul, 1) := by decide +kernel
theorem dX7_term_52 : decode cX7_term 52 = .ok (.iload_n 2, 1) := by decide +kernel
theorem dX7_term_53 : decode cX7_term 53 = .ok (.iadd, 1) := by decide +kernel
theorem dX7_term_54 : decode cX7_term 54 = .ok (.iload_n 3, 1) := by decide +kernel
theorem dX7_term_55 : decode cX7_term 55 = .ok (.iastore, 1) := by decide +kernel
theorem dX7_term_56 : decode cX7_term 56 = .ok (.aload_n 0, 1) := by decide +kernel
theorem dX7_term_57 : decode cX7_term 57 = .ok (.iconst 0, 1) := by decide +kernel
theorem dX7_term_58 : decode cX7_term 58 = .ok (.putfield 54, 3) := by decide +kernel
theorem dX7_term_61 : decode cX7_term 61 = .ok (.iload 4, 2) := by decide +kernel
theorem dX7_term_63 : decode cX7_term 63 = .ok (.ireturn, 1) := by decide +kernel
set_option maxHeartbeats 4000000 in
set_option maxRecDepth 100000 in
theorem ct_X7_term (l : Launch) (D : va_G) (ce : Nat → ClassId) (h : Nat → Nat) (F : Nat → Int) (I : Nat → Nat → Int32) (J : Nat → Nat → Int64) (wh i v : Int) (hok : rOK F I) (hw : -2147483648 ≤ wh ∧ wh < 2147483648) (hi : -2147483648 ≤ i ∧ i < 2147483648) (hv : -2147483648 ≤ v ∧ v < 2147483648) : Ct l yX7_term cX7_term 5 (some .int) { frames := 0, cells := 0, slots := 0, locals := 0 } 0 0 D (TY ce) [.ref (h 0), .int (zI wh), .int (zI i), .int (zI v)] (rW ce h F I J) (QI D (TY ce) (fun r w1 => ∃ z : Int, ∃ F2 : Nat → Int, ∃ I2 : Nat → Nat → Int32, ∃ J2 : Nat → Nat → Int64, r = zI z ∧ w1 = rW ce h F2 I2 J2 ∧ (rOK F2 I2) ∧ (¬ (0 ≤ wh ∧ wh ≤ 2 ∧ 0 ≤ i ∧ i ≤ 4 ∧ -7 ≤ v ∧ v ≤ 7) → z = -100 ∧ I2 0 = I 0) ∧ ((0 ≤ wh ∧ wh ≤ 2 ∧ 0 ≤ i ∧ i ≤ 4 ∧ -7 ≤ v ∧ v ≤ 7) → I 0 (5 * wh + i).toNat = zI z ∧ I2 0 = upd (I 0) (5 * wh + i).toNat (zI v)))) := by
  refine Ct.ofI (by decide) (Nat.le_of_ble_eq_true rfl) ?_
  intro p e s m args below meth c A Q hX hnm hR
  refine Z.pick (lv' := [(0, .ref (h 0)), (1, .int (zI wh)), (2, .int (zI i)), (3, .int (zI v))]) [0, 1, 2, 3] rfl ?_
  obtain ⟨hF, hF2, hkn, hdg⟩ := id hok
  refine Z.iload_n hX dX7_term_0 rfl rfl ?_
  refine Z.if_lt hX 30 dX7_term_1 (by decide) ⟨by omega, by omega⟩ ?_ ?_
  · intro c1
    refine Z.bipush hX dX7_term_30 (by decide) ?_
    exact hR _ _ _ _ dX7_term_32 ⟨(-100), F, I, J, rfl, rfl, hok, (fun _ => ⟨rfl, rfl⟩), (fun q => by omega)⟩
  · intro c1
    refine Z.iload_n hX dX7_term_4 rfl rfl ?_
    refine Z.iconst hX dX7_term_5 ?_
    refine Z.icmp_gt hX 30 dX7_term_6 (by decide) ⟨by omega, by omega⟩ ⟨by omega, by omega⟩ ?_ ?_
    · intro c2
      refine Z.bipush hX dX7_term_30 (by decide) ?_
      exact hR _ _ _ _ dX7_term_32 ⟨(-100), F, I, J, rfl, rfl, hok, (fun _ => ⟨rfl, rfl⟩), (fun q => by omega)⟩
    · intro c2
      refine Z.iload_n hX dX7_term_9 rfl rfl ?_
      refine Z.if_lt hX 30 dX7_term_10 (by decide) ⟨by omega, by omega⟩ ?_ ?_
      · intro c3
        refine Z.bipush hX dX7_term_30 (by decide) ?_
        exact hR _ _ _ _ dX7_term_32 ⟨(-100), F, I, J, rfl, rfl, hok, (fun _ => ⟨rfl, rfl⟩), (fun q => by omega)⟩
      · intro c3
        refine Z.iload_n hX dX7_term_13 rfl rfl ?_
        refine Z.iconst hX dX7_term_14 ?_
        refine Z.icmp_gt hX 30 dX7_term_15 (by decide) ⟨by omega, by omega⟩ ⟨by omega, by omega⟩ ?_ ?_
        · intro c4
          refine Z.bipush hX dX7_term_30 (by decide) ?_
          exact hR _ _ _ _ dX7_term_32 ⟨(-100), F, I, J, rfl, rfl, hok, (fun _ => ⟨rfl, rfl⟩), (fun q => by omega)⟩
        · intro c4
          refine Z.iload_n hX dX7_term_18 rfl rfl ?_
          refine Z.bipush hX dX7_term_19 (by decide) ?_
          refine Z.icmp_lt hX 30 dX7_term_21 (by decide) ⟨by omega, by omega⟩ ⟨by omega, by omega⟩ ?_ ?_
          · intro c5
            refine Z.bipush hX dX7_term_30 (by decide) ?_
            exact hR _ _ _ _ dX7_term_32 ⟨(-100), F, I, J, rfl, rfl, hok, (fun _ => ⟨rfl, rfl⟩), (fun q => by omega)⟩
          · intro c5
            refine Z.iload_n hX dX7_term_24 rfl rfl ?_
            refine Z.bipush hX dX7_term_25 (by decide) ?_
            refine Z.icmp_le hX 33 dX7_term_27 (by decide) ⟨by omega, by omega⟩ ⟨by omega, by omega⟩ ?_ ?_
            · intro c6
              refine Z.aload_n hX dX7_term_33 rfl rfl ?_
              refine Z.getf hX 7 0 0 dX7_term_34 rfl rfl inX7 (by decide) fl_X7_7 rfl rfl ?_
              refine Z.iconst hX dX7_term_37 ?_
              refine Z.iload_n hX dX7_term_38 rfl rfl ?_
              refine Z.imul hX dX7_term_39 ?_
              refine Z.iload_n hX dX7_term_40 rfl rfl ?_
              refine Z.iadd hX dX7_term_41 ?_
              refine Z.iaload hX 1 0 dX7_term_42 rfl rfl (by omega) (by omega) (by decide) ?_
              refine Z.topi (fun z7 hz7 kz7 ez7 => ?_)
              refine Z.istore (lv' := [(4, .int (zI z7)), (0, .ref (h 0)), (1, .int (zI wh)), (2, .int (zI i)), (3, .int (zI v))]) hX dX7_term_43 (by decide) rfl ?_
              refine Z.aload_n hX dX7_term_45 rfl rfl ?_
              refine Z.getf hX 7 0 0 dX7_term_46 rfl rfl inX7 (by decide) fl_X7_7 rfl rfl ?_
              refine Z.iconst hX dX7_term_49 ?_
              refine Z.iload_n hX dX7_term_50 rfl rfl ?_
              refine Z.imul hX dX7_term_51 ?_
              refine Z.iload_n hX dX7_term_52 rfl rfl ?_
              refine Z.iadd hX dX7_term_53 ?_
              refine Z.iload_n hX dX7_term_54 rfl rfl ?_
              refine Z.iastore hX 1 0 dX7_term_55 rfl rfl (by omega) (by omega) (by decide) ?_
              obtain ⟨I8, eI8⟩ : ∃ J' : Nat → Nat → Int32, J' = va_up I 0 (upd (I 0) ((5 * wh) + i : Int).toNat (zI (v))) := ⟨_, rfl⟩
              refine Z.toW (w' := rW ce h F I8 J) (by rw [eI8]; rfl) ?_
              have gI8 : I8 0 = upd (I 0) ((5 * wh) + i : Int).toNat (zI (v)) := by rw [eI8]; exact up_eq
              have fI8 : ∀ k, k ≠ 0 → I8 k = I k := fun k hk => by rw [eI8]; exact up_ne hk
              refine Z.aload_n hX dX7_term_56 rfl rfl ?_
              refine Z.iconst hX dX7_term_57 ?_
              refine Z.putf (ty := .boolean) hX 7 0 4 tyX7 dX7_term_58 rfl rfl inX7 tyX7_ok nmX7 (by decide) fl_X7_54 rfl rfl (by decide +kernel) rfl rfl (Nat.le_of_ble_eq_true rfl) ?_
              obtain ⟨F9, eF9⟩ : ∃ F' : Nat → Int, F' = va_up F 2 (0) := ⟨_, rfl⟩
              refine Z.toW (w' := rW ce h F9 I8 J) (by rw [eF9]; rfl) ?_
              have eF9_0 : F9 0 = F 0 := by rw [eF9]; rfl
              have eF9_1 : F9 1 = F 1 := by rw [eF9]; rfl
              have eF9_2 : F9 2 = 0 := by rw [eF9]; rfl
              refine Z.iload hX dX7_term_61 rfl ?_
              exact hR _ _ _ _ dX7_term_63 ⟨z7, F9, I8, J, rfl, rfl, (rOK_u (by omega) (by omega) (by rw [fI8 2 (by decide)]; exact hdg)), (fun q => absurd (by omega) q), (fun _ => ⟨by assumption, gI8⟩)⟩
            · intro c6
              refine Z.bipush hX dX7_term_30 (by decide) ?_
              exact hR _ _ _ _ dX7_term_32 ⟨(-100), F, I, J, rfl, rfl, hok, (fun _ => ⟨rfl, rfl⟩), (fun q => by omega)⟩

theorem dX7_clear_0 : decode cX7_clear 0 = .ok (.iconst 0, 1) := by decide +kernel
theorem dX7_clear_1 : decode cX7_clear 1 = .ok (.istore_n 1, 1) := by decide +kernel
theorem dX7_clear_2 : decode cX7_clear 2 = .ok (.iconst 0, 1) := by decide +kernel
theorem dX7_clear_3 : decode cX7_clear 3 = .ok (.istore_n 2, 1) := by decide +kernel
theorem dX7_clear_4 : decode cX7_clear 4 = .ok (.iload_n 2, 1) := by decide +kernel
theorem dX7_clear_5 : decode cX7_clear 5 = .ok (.bipush 15, 2) := by decide +kernel
theorem dX7_clear_7 : decode cX7_clear 7 = .ok (.if_icmp .ge 33, 3) := by decide +kernel
theorem dX7_clear_10 : decode cX7_clear 10 = .ok (.iload_n 1, 1) := by decide +kernel
theorem dX7_clear_11 : decode cX7_clear 11 = .ok (.aload_n 0, 1) := by decide +kernel
theorem dX7_clear_12 : decode cX7_clear 12 = .ok (.getfield 7, 3) := by decide +kernel
theorem dX7_clear_15 : decode cX7_clear 15 = .ok (.iload_n 2, 1) := by decide +kernel
theorem dX7_clear_16 : decode cX7_clear 16 = .ok (.iaload, 1) := by decide +kernel
theorem dX7_clear_17 : decode cX7_clear 17 = .ok (.ifCond .eq 7, 3) := by decide +kernel
theorem dX7_clear_20 : decode cX7_clear 20 = .ok (.iconst 1, 1) := by decide +kernel
theorem dX7_clear_21 : decode cX7_clear 21 = .ok (.goto 4, 3) := by decide +kernel
theorem dX7_clear_24 : decode cX7_clear 24 = .ok (.iconst 0, 1) := by decide +kernel
theorem dX7_clear_25 : decode cX7_clear 25 = .ok (.iadd, 1) := by decide +kernel
theorem dX7_clear_26 : decode cX7_clear 26 = .ok (.istore_n 1, 1) := by decide +kernel
theorem dX7_clear_27 : decode cX7_clear 27 = .ok (.aload_n 0, 1) := by decide +kernel
theorem dX7_clear_28 : decode cX7_clear 28 = .ok (.getfield 7, 3) := by decide +kernel
theorem dX7_clear_31 : decode cX7_clear 31 = .ok (.iload_n 2, 1) := by decide +kernel
theorem dX7_clear_32 : decode cX7_clear 32 = .ok (.iconst 0, 1) := by decide +kernel
theorem dX7_clear_33 : decode cX7_clear 33 = .ok (.iastore, 1) := by decide +kernel
theorem dX7_clear_34 : decode cX7_clear 34 = .ok (.iinc 2 1, 3) := by decide +kernel
theorem dX7_clear_37 : decode cX7_clear 37 = .ok (.goto (-33), 3) := by decide +kernel
theorem dX7_clear_40 : decode cX7_clear 40 = .ok (.aload_n 0, 1) := by decide +kernel
theorem dX7_clear_41 : decode cX7_clear 41 = .ok (.iconst 0, 1) := by decide +kernel
theorem dX7_clear_42 : decode cX7_clear 42 = .ok (.putfield 54, 3) := by decide +kernel
theorem dX7_clear_45 : decode cX7_clear 45 = .ok (.iload_n 1, 1) := by decide +kernel
theorem dX7_clear_46 : decode cX7_clear 46 = .ok (.ireturn, 1) := by decide +kernel
set_option maxHeartbeats 4000000 in
set_option maxRecDepth 100000 in
theorem ct_X7_clear (l : Launch) (D : va_G) (ce : Nat → ClassId) (h : Nat → Nat) (F : Nat → Int) (I : Nat → Nat → Int32) (J : Nat → Nat → Int64) (hok : rOK F I) : Ct l yX7_clear cX7_clear 3 (some .int) { frames := 0, cells := 0, slots := 0, locals := 0 } 0 0 D (TY ce) [.ref (h 0)] (rW ce h F I J) (QI D (TY ce) (fun r w1 => ∃ z : Int, ∃ F2 : Nat → Int, ∃ I2 : Nat → Nat → Int32, ∃ J2 : Nat → Nat → Int64, r = zI z ∧ w1 = rW ce h F2 I2 J2 ∧ (rOK F2 I2) ∧ (z = cntK (I 0) 15) ∧ (∀ q : Int, 0 ≤ q → q < 15 → I2 0 q.toNat = 0))) := by
  refine Ct.ofI (by decide) (Nat.le_of_ble_eq_true rfl) ?_
  intro p e s m args below meth c A Q hX hnm hR
  refine Z.pick (lv' := [(0, .ref (h 0))]) [0] rfl ?_
  obtain ⟨hF, hF2, hkn, hdg⟩ := id hok
  refine Z.iconst hX dX7_clear_0 ?_
  refine Z.istore_n (lv' := [(1, .int (zI 0)), (0, .ref (h 0))]) hX dX7_clear_1 rfl (by decide) rfl ?_
  refine Z.iconst hX dX7_clear_2 ?_
  refine Z.istore_n (lv' := [(2, .int (zI 0)), (1, .int (zI 0)), (0, .ref (h 0))]) hX dX7_clear_3 rfl (by decide) rfl ?_
  have key_4 : ∀ (N : Nat), ∀ (k n : Int) (K : Nat → Nat → Int32), (15 - k).toNat < N → (hk : 0 ≤ k ∧ k ≤ 15) → (hn : n = cntK (I 0) k.toNat) → (hn2 : 0 ≤ n ∧ n ≤ k) → (hK : ∀ q : Int, 0 ≤ q → K 0 q.toNat = if q < k then 0 else I 0 q.toNat) → (hfr : ∀ k, k ≠ 0 → K k = I k) → Z p l e { frames := 0, cells := 0, slots := 0, locals := 0 } s m args below meth c D A 3 0 0 Q 4 [(2, .int (zI k)), (1, .int (zI n)), (0, .ref (h 0))] [] (rW ce h F K J) := by
    intro N
    induction N with
    | zero => intro k n K hm; exact absurd hm (Nat.not_lt_zero _)
    | succ N ih_4 =>
      intro k n K hm hk hn hn2 hK hfr
      refine Z.iload_n hX dX7_clear_4 rfl rfl ?_
      refine Z.bipush hX dX7_clear_5 (by decide) ?_
      refine Z.icmp_ge hX 40 dX7_clear_7 (by decide) ⟨by omega, by omega⟩ ⟨by omega, by omega⟩ ?_ ?_
      · intro c1
        refine Z.aload_n hX dX7_clear_40 rfl rfl ?_
        refine Z.iconst hX dX7_clear_41 ?_
        refine Z.putf (ty := .boolean) hX 7 0 4 tyX7 dX7_clear_42 rfl rfl inX7 tyX7_ok nmX7 (by decide) fl_X7_54 rfl rfl (by decide +kernel) rfl rfl (Nat.le_of_ble_eq_true rfl) ?_
        obtain ⟨F2, eF2⟩ : ∃ F' : Nat → Int, F' = va_up F 2 (0) := ⟨_, rfl⟩
        refine Z.toW (w' := rW ce h F2 K J) (by rw [eF2]; rfl) ?_
        have eF2_0 : F2 0 = F 0 := by rw [eF2]; rfl
        have eF2_1 : F2 1 = F 1 := by rw [eF2]; rfl
        have eF2_2 : F2 2 = 0 := by rw [eF2]; rfl
        refine Z.iload_n hX dX7_clear_45 rfl rfl ?_
        exact hR _ _ _ _ dX7_clear_46 ⟨n, F2, K, J, rfl, rfl, (rOK_u (by omega) (by omega) (by rw [hfr 2 (by decide)]; exact hdg)), (by rw [hn, show k = 15 by omega]; rfl), (fun q h1 h2 => by rw [hK q h1, if_pos (by omega)])⟩
      · intro c1
        refine Z.iload_n hX dX7_clear_10 rfl rfl ?_
        refine Z.aload_n hX dX7_clear_11 rfl rfl ?_
        refine Z.getf hX 7 0 0 dX7_clear_12 rfl rfl inX7 (by decide) fl_X7_7 rfl rfl ?_
        refine Z.iload_n hX dX7_clear_15 rfl rfl ?_
        refine Z.iaload hX 1 0 dX7_clear_16 rfl rfl (by omega) (by omega) (by decide) ?_
        refine Z.topi (fun z3 hz3 kz3 ez3 => ?_)
        refine Z.if_eq hX 24 dX7_clear_17 (by decide) ⟨by omega, by omega⟩ ?_ ?_
        · intro c4
          refine Z.iconst hX dX7_clear_24 ?_
          refine Z.iadd hX dX7_clear_25 ?_
          refine Z.istore_n (lv' := [(1, .int (zI (n + 0))), (2, .int (zI k)), (0, .ref (h 0))]) hX dX7_clear_26 rfl (by decide) rfl ?_
          refine Z.aload_n hX dX7_clear_27 rfl rfl ?_
          refine Z.getf hX 7 0 0 dX7_clear_28 rfl rfl inX7 (by decide) fl_X7_7 rfl rfl ?_
          refine Z.iload_n hX dX7_clear_31 rfl rfl ?_
          refine Z.iconst hX dX7_clear_32 ?_
          refine Z.iastore hX 1 0 dX7_clear_33 rfl rfl (by omega) (by omega) (by decide) ?_
          obtain ⟨I5, eI5⟩ : ∃ J' : Nat → Nat → Int32, J' = va_up K 0 (upd (K 0) (k : Int).toNat (zI (0))) := ⟨_, rfl⟩
          refine Z.toW (w' := rW ce h F I5 J) (by rw [eI5]; rfl) ?_
          have gI5 : I5 0 = upd (K 0) (k : Int).toNat (zI (0)) := by rw [eI5]; exact up_eq
          have fI5 : ∀ k, k ≠ 0 → I5 k = K k := fun k hk => by rw [eI5]; exact up_ne hk
          refine Z.iinc (lv' := [(2, .int (zI (k + 1))), (1, .int (zI (n + 0))), (0, .ref (h 0))]) hX dX7_clear_34 rfl (by decide) rfl ?_
          refine Z.goto hX 4 dX7_clear_37 (by decide) ?_
          refine Z.pick [0, 1, 2] rfl ?_
          exact ih_4 _ _ _ (by omega) (by omega) (cnt_s hk.1 hn (by rw [hK k hk.1, if_neg (by omega)] at *; assumption) ⟨by assumption, by assumption⟩ (by first | exact Or.inl ⟨by assumption, rfl⟩ | exact Or.inr ⟨by assumption, rfl⟩)) (by omega) (clr_s hk.1 gI5 hK) (fun k h0 => ((fI5 k h0).trans (hfr k h0)))
        · intro c4
          refine Z.iconst hX dX7_clear_20 ?_
          refine Z.goto hX 25 dX7_clear_21 (by decide) ?_
          refine Z.iadd hX dX7_clear_25 ?_
          refine Z.istore_n (lv' := [(1, .int (zI (n + 1))), (2, .int (zI k)), (0, .ref (h 0))]) hX dX7_clear_26 rfl (by decide) rfl ?_
          refine Z.aload_n hX dX7_clear_27 rfl rfl ?_
          refine Z.getf hX 7 0 0 dX7_clear_28 rfl rfl inX7 (by decide) fl_X7_7 rfl rfl ?_
          refine Z.iload_n hX dX7_clear_31 rfl rfl ?_
          refine Z.iconst hX dX7_clear_32 ?_
          refine Z.iastore hX 1 0 dX7_clear_33 rfl rfl (by omega) (by omega) (by decide) ?_
          obtain ⟨I6, eI6⟩ : ∃ J' : Nat → Nat → Int32, J' = va_up K 0 (upd (K 0) (k : Int).toNat (zI (0))) := ⟨_, rfl⟩
          refine Z.toW (w' := rW ce h F I6 J) (by rw [eI6]; rfl) ?_
          have gI6 : I6 0 = upd (K 0) (k : Int).toNat (zI (0)) := by rw [eI6]; exact up_eq
          have fI6 : ∀ k, k ≠ 0 → I6 k = K k := fun k hk => by rw [eI6]; exact up_ne hk
          refine Z.iinc (lv' := [(2, .int (zI (k + 1))), (1, .int (zI (n + 1))), (0, .ref (h 0))]) hX dX7_clear_34 rfl (by decide) rfl ?_
          refine Z.goto hX 4 dX7_clear_37 (by decide) ?_
          refine Z.pick [0, 1, 2] rfl ?_
          exact ih_4 _ _ _ (by omega) (by omega) (cnt_s hk.1 hn (by rw [hK k hk.1, if_neg (by omega)] at *; assumption) ⟨by assumption, by assumption⟩ (by first | exact Or.inl ⟨by assumption, rfl⟩ | exact Or.inr ⟨by assumption, rfl⟩)) (by omega) (clr_s hk.1 gI6 hK) (fun k h0 => ((fI6 k h0).trans (hfr k h0)))
  refine Z.pick [0, 1, 2] rfl ?_
  exact key_4 _ _ _ _ (Nat.lt_succ_self _) (by omega) rfl (by omega) (fun q h1 => (if_neg (by omega)).symm) (fun k h0 => rfl)

set_option maxRecDepth 100000 in
theorem im_obj : Cond.instanceMethod objectInit ∈ lw_g := z_mem (k := 49) rfl rfl
set_option maxRecDepth 100000 in
theorem mc_obj : Cond.code objectInit ⟨#[0xb1]⟩ 1 none ∈ lw_g := z_mem (k := 50) rfl rfl
theorem ac_0 : Cond.arrayClass .int ∈ lw_g := z_memD (by decide +kernel) rfl
theorem ac_1 : Cond.arrayClass .long ∈ lw_g := z_memD (by decide +kernel) rfl
theorem ac_2 : Cond.arrayClass .boolean ∈ lw_g := z_memD (by decide +kernel) rfl
set_option maxRecDepth 100000 in
theorem ml_X7_1 : Cond.methodLink RX7 1 objectInit ∈ lw_g := z_mem (k := 460) rfl rfl
theorem dX7_init_0 : decode cX7_init 0 = .ok (.aload_n 0, 1) := by decide +kernel
theorem dX7_init_1 : decode cX7_init 1 = .ok (.invokespecial 1, 3) := by decide +kernel
theorem dX7_init_4 : decode cX7_init 4 = .ok (.aload_n 0, 1) := by decide +kernel
theorem dX7_init_5 : decode cX7_init 5 = .ok (.bipush 15, 2) := by decide +kernel
theorem dX7_init_7 : decode cX7_init 7 = .ok (.newarray .int, 2) := by decide +kernel
theorem dX7_init_9 : decode cX7_init 9 = .ok (.putfield 7, 3) := by decide +kernel
theorem dX7_init_12 : decode cX7_init 12 = .ok (.aload_n 0, 1) := by decide +kernel
theorem dX7_init_13 : decode cX7_init 13 = .ok (.bipush 15, 2) := by decide +kernel
theorem dX7_init_15 : decode cX7_init 15 = .ok (.newarray .long, 2) := by decide +kernel
theorem dX7_init_17 : decode cX7_init 17 = .ok (.putfield 13, 3) := by decide +kernel
theorem dX7_init_20 : decode cX7_init 20 = .ok (.aload_n 0, 1) := by decide +kernel
theorem dX7_init_21 : decode cX7_init 21 = .ok (.iconst 2, 1) := by decide +kernel
theorem dX7_init_22 : decode cX7_init 22 = .ok (.newarray .boolean, 2) := by decide +kernel
theorem dX7_init_24 : decode cX7_init 24 = .ok (.putfield 17, 3) := by decide +kernel
theorem dX7_init_27 : decode cX7_init 27 = .ok (.aload_n 0, 1) := by decide +kernel
theorem dX7_init_28 : decode cX7_init 28 = .ok (.bipush 98, 2) := by decide +kernel
theorem dX7_init_30 : decode cX7_init 30 = .ok (.newarray .long, 2) := by decide +kernel
theorem dX7_init_32 : decode cX7_init 32 = .ok (.putfield 21, 3) := by decide +kernel
theorem dX7_init_35 : decode cX7_init 35 = .ok (.aload_n 0, 1) := by decide +kernel
theorem dX7_init_36 : decode cX7_init 36 = .ok (.iconst 2, 1) := by decide +kernel
theorem dX7_init_37 : decode cX7_init 37 = .ok (.newarray .int, 2) := by decide +kernel
theorem dX7_init_39 : decode cX7_init 39 = .ok (.putfield 24, 3) := by decide +kernel
theorem dX7_init_42 : decode cX7_init 42 = .ok (.aload_n 0, 1) := by decide +kernel
theorem dX7_init_43 : decode cX7_init 43 = .ok (.iconst 2, 1) := by decide +kernel
theorem dX7_init_44 : decode cX7_init 44 = .ok (.newarray .int, 2) := by decide +kernel
theorem dX7_init_46 : decode cX7_init 46 = .ok (.putfield 27, 3) := by decide +kernel
theorem dX7_init_49 : decode cX7_init 49 = .ok (.aload_n 0, 1) := by decide +kernel
theorem dX7_init_50 : decode cX7_init 50 = .ok (.iconst 5, 1) := by decide +kernel
theorem dX7_init_51 : decode cX7_init 51 = .ok (.newarray .long, 2) := by decide +kernel
theorem dX7_init_53 : decode cX7_init 53 = .ok (.putfield 30, 3) := by decide +kernel
theorem dX7_init_56 : decode cX7_init 56 = .ok (.aload_n 0, 1) := by decide +kernel
theorem dX7_init_57 : decode cX7_init 57 = .ok (.iconst 5, 1) := by decide +kernel
theorem dX7_init_58 : decode cX7_init 58 = .ok (.newarray .long, 2) := by decide +kernel
theorem dX7_init_60 : decode cX7_init 60 = .ok (.putfield 33, 3) := by decide +kernel
theorem dX7_init_63 : decode cX7_init 63 = .ok (.aload_n 0, 1) := by decide +kernel
theorem dX7_init_64 : decode cX7_init 64 = .ok (.sipush 192, 3) := by decide +kernel
theorem dX7_init_67 : decode cX7_init 67 = .ok (.newarray .long, 2) := by decide +kernel
theorem dX7_init_69 : decode cX7_init 69 = .ok (.putfield 36, 3) := by decide +kernel
theorem dX7_init_72 : decode cX7_init 72 = .ok (.aload_n 0, 1) := by decide +kernel
theorem dX7_init_73 : decode cX7_init 73 = .ok (.sipush 12544, 3) := by decide +kernel
theorem dX7_init_76 : decode cX7_init 76 = .ok (.newarray .long, 2) := by decide +kernel
theorem dX7_init_78 : decode cX7_init 78 = .ok (.putfield 39, 3) := by decide +kernel
theorem dX7_init_81 : decode cX7_init 81 = .ok (.aload_n 0, 1) := by decide +kernel
theorem dX7_init_82 : decode cX7_init 82 = .ok (.bipush 49, 2) := by decide +kernel
theorem dX7_init_84 : decode cX7_init 84 = .ok (.newarray .long, 2) := by decide +kernel
theorem dX7_init_86 : decode cX7_init 86 = .ok (.putfield 42, 3) := by decide +kernel
theorem dX7_init_89 : decode cX7_init 89 = .ok (.aload_n 0, 1) := by decide +kernel
theorem dX7_init_90 : decode cX7_init 90 = .ok (.bipush 49, 2) := by decide +kernel
theorem dX7_init_92 : decode cX7_init 92 = .ok (.newarray .long, 2) := by decide +kernel
theorem dX7_init_94 : decode cX7_init 94 = .ok (.putfield 45, 3) := by decide +kernel
theorem dX7_init_97 : decode cX7_init 97 = .ok (.aload_n 0, 1) := by decide +kernel
theorem dX7_init_98 : decode cX7_init 98 = .ok (.bipush 49, 2) := by decide +kernel
theorem dX7_init_100 : decode cX7_init 100 = .ok (.newarray .long, 2) := by decide +kernel
theorem dX7_init_102 : decode cX7_init 102 = .ok (.putfield 48, 3) := by decide +kernel
theorem dX7_init_105 : decode cX7_init 105 = .ok (.aload_n 0, 1) := by decide +kernel
theorem dX7_init_106 : decode cX7_init 106 = .ok (.bipush 49, 2) := by decide +kernel
theorem dX7_init_108 : decode cX7_init 108 = .ok (.newarray .long, 2) := by decide +kernel
theorem dX7_init_110 : decode cX7_init 110 = .ok (.putfield 51, 3) := by decide +kernel
theorem dX7_init_113 : decode cX7_init 113 = .ok (.return_, 1) := by decide +kernel
set_option maxHeartbeats 4000000 in
set_option maxRecDepth 100000 in
theorem ct_X7_init (l : Launch) (D : va_G) (ce : Nat → ClassId) (h0 : Nat) : Ct l yX7_init cX7_init 1 none { frames := 1, cells := 14, slots := 13076, locals := 12 } 14 13076 D (TY ce) [.ref h0] ([(h0, .inr (7, [.null, .null, .int (zI 0), .int (zI 0), .int (zI 0), .null, .null, .null, .null, .null, .null, .null, .null, .null, .null, .null, .null]))]) (QV D (TY ce) (fun w1 => ∃ h : Nat → Nat, w1 = rW ce h (fun _ => 0) (fun _ _ => 0) (fun _ _ => 0) ∧ h 0 = h0)) := by
  refine Ct.ofV (by decide) (Nat.le_of_ble_eq_true rfl) ?_
  intro p e s m args below meth c A Q hX hnm hR
  refine Z.pick (lv' := [(0, .ref h0)]) [0] rfl ?_
  refine Z.aload_n hX dX7_init_0 rfl rfl ?_
  refine Z.objI hX dX7_init_1 ml_X7_1 im_obj mc_obj (by decide) (by decide) ?_
  refine Z.aload_n hX dX7_init_4 rfl rfl ?_
  refine Z.bipush hX dX7_init_5 (by decide) ?_
  refine Z.newi (N := 15) hX 0 dX7_init_7 rfl ac_0 rfl (by decide) (by decide) (by decide) ?_
  intro q1
  refine Z.putF (ty := tyX7 0) hX 7 0 0 tyX7 hnm dX7_init_9 rfl rfl inX7 tyX7_ok nmX7 (by decide) fl_X7_7 rfl rfl rfl (by decide +kernel) rfl rfl (Nat.le_of_ble_eq_true rfl) ?_
  refine Z.toW (w' := [(h0, .inr (7, [.ref q1, .null, .int (zI 0), .int (zI 0), .int (zI 0), .null, .null, .null, .null, .null, .null, .null, .null, .null, .null, .null, .null])), (q1, .inl (ce 0, 15, .inl (fun _ => 0)))]) rfl ?_
  refine Z.aload_n hX dX7_init_12 rfl rfl ?_
  refine Z.bipush hX dX7_init_13 (by decide) ?_
  refine Z.newl (N := 15) hX 1 dX7_init_15 rfl ac_1 rfl (by decide) (by decide) (by decide) ?_
  intro q2
  refine Z.putF (ty := tyX7 1) hX 7 0 1 tyX7 hnm dX7_init_17 rfl rfl inX7 tyX7_ok nmX7 (by decide) fl_X7_13 rfl rfl rfl (by decide +kernel) rfl rfl (Nat.le_of_ble_eq_true rfl) ?_
  refine Z.toW (w' := [(h0, .inr (7, [.ref q1, .ref q2, .int (zI 0), .int (zI 0), .int (zI 0), .null, .null, .null, .null, .null, .null, .null, .null, .null, .null, .null, .null])), (q1, .inl (ce 0, 15, .inl (fun _ => 0))), (q2, .inl (ce 1, 15, .inr (.inl (fun _ => 0))))]) rfl ?_
  refine Z.aload_n hX dX7_init_20 rfl rfl ?_
  refine Z.iconst hX dX7_init_21 ?_
  refine Z.newz (N := 2) hX 2 dX7_init_22 rfl ac_2 rfl (by decide) (by decide) (by decide) ?_
  intro q3
  refine Z.putF (ty := tyX7 5) hX 7 0 5 tyX7 hnm dX7_init_24 rfl rfl inX7 tyX7_ok nmX7 (by decide) fl_X7_17 rfl rfl rfl (by decide +kernel) rfl rfl (Nat.le_of_ble_eq_true rfl) ?_
  refine Z.toW (w' := [(h0, .inr (7, [.ref q1, .ref q2, .int (zI 0), .int (zI 0), .int (zI 0), .ref q3, .null, .null, .null, .null, .null, .null, .null, .null, .null, .null, .null])), (q1, .inl (ce 0, 15, .inl (fun _ => 0))), (q2, .inl (ce 1, 15, .inr (.inl (fun _ => 0)))), (q3, .inl (ce 2, 2, .inl (fun _ => 0)))]) rfl ?_
  refine Z.aload_n hX dX7_init_27 rfl rfl ?_
  refine Z.bipush hX dX7_init_28 (by decide) ?_
  refine Z.newl (N := 98) hX 1 dX7_init_30 rfl ac_1 rfl (by decide) (by decide) (by decide) ?_
  intro q4
  refine Z.putF (ty := tyX7 6) hX 7 0 6 tyX7 hnm dX7_init_32 rfl rfl inX7 tyX7_ok nmX7 (by decide) fl_X7_21 rfl rfl rfl (by decide +kernel) rfl rfl (Nat.le_of_ble_eq_true rfl) ?_
  refine Z.toW (w' := [(h0, .inr (7, [.ref q1, .ref q2, .int (zI 0), .int (zI 0), .int (zI 0), .ref q3, .ref q4, .null, .null, .null, .null, .null, .null, .null, .null, .null, .null])), (q1, .inl (ce 0, 15, .inl (fun _ => 0))), (q2, .inl (ce 1, 15, .inr (.inl (fun _ => 0)))), (q3, .inl (ce 2, 2, .inl (fun _ => 0))), (q4, .inl (ce 1, 98, .inr (.inl (fun _ => 0))))]) rfl ?_
  refine Z.aload_n hX dX7_init_35 rfl rfl ?_
  refine Z.iconst hX dX7_init_36 ?_
  refine Z.newi (N := 2) hX 0 dX7_init_37 rfl ac_0 rfl (by decide) (by decide) (by decide) ?_
  intro q5
  refine Z.putF (ty := tyX7 7) hX 7 0 7 tyX7 hnm dX7_init_39 rfl rfl inX7 tyX7_ok nmX7 (by decide) fl_X7_24 rfl rfl rfl (by decide +kernel) rfl rfl (Nat.le_of_ble_eq_true rfl) ?_
  refine Z.toW (w' := [(h0, .inr (7, [.ref q1, .ref q2, .int (zI 0), .int (zI 0), .int (zI 0), .ref q3, .ref q4, .ref q5, .null, .null, .null, .null, .null, .null, .null, .null, .null])), (q1, .inl (ce 0, 15, .inl (fun _ => 0))), (q2, .inl (ce 1, 15, .inr (.inl (fun _ => 0)))), (q3, .inl (ce 2, 2, .inl (fun _ => 0))), (q4, .inl (ce 1, 98, .inr (.inl (fun _ => 0)))), (q5, .inl (ce 0, 2, .inl (fun _ => 0)))]) rfl ?_
  refine Z.aload_n hX dX7_init_42 rfl rfl ?_
  refine Z.iconst hX dX7_init_43 ?_
  refine Z.newi (N := 2) hX 0 dX7_init_44 rfl ac_0 rfl (by decide) (by decide) (by decide) ?_
  intro q6
  refine Z.putF (ty := tyX7 8) hX 7 0 8 tyX7 hnm dX7_init_46 rfl rfl inX7 tyX7_ok nmX7 (by decide) fl_X7_27 rfl rfl rfl (by decide +kernel) rfl rfl (Nat.le_of_ble_eq_true rfl) ?_
  refine Z.toW (w' := [(h0, .inr (7, [.ref q1, .ref q2, .int (zI 0), .int (zI 0), .int (zI 0), .ref q3, .ref q4, .ref q5, .ref q6, .null, .null, .null, .null, .null, .null, .null, .null])), (q1, .inl (ce 0, 15, .inl (fun _ => 0))), (q2, .inl (ce 1, 15, .inr (.inl (fun _ => 0)))), (q3, .inl (ce 2, 2, .inl (fun _ => 0))), (q4, .inl (ce 1, 98, .inr (.inl (fun _ => 0)))), (q5, .inl (ce 0, 2, .inl (fun _ => 0))), (q6, .inl (ce 0, 2, .inl (fun _ => 0)))]) rfl ?_
  refine Z.aload_n hX dX7_init_49 rfl rfl ?_
  refine Z.iconst hX dX7_init_50 ?_
  refine Z.newl (N := 5) hX 1 dX7_init_51 rfl ac_1 rfl (by decide) (by decide) (by decide) ?_
  intro q7
  refine Z.putF (ty := tyX7 9) hX 7 0 9 tyX7 hnm dX7_init_53 rfl rfl inX7 tyX7_ok nmX7 (by decide) fl_X7_30 rfl rfl rfl (by decide +kernel) rfl rfl (Nat.le_of_ble_eq_true rfl) ?_
  refine Z.toW (w' := [(h0, .inr (7, [.ref q1, .ref q2, .int (zI 0), .int (zI 0), .int (zI 0), .ref q3, .ref q4, .ref q5, .ref q6, .ref q7, .null, .null, .null, .null, .null, .null, .null])), (q1, .inl (ce 0, 15, .inl (fun _ => 0))), (q2, .inl (ce 1, 15, .inr (.inl (fun _ => 0)))), (q3, .inl (ce 2, 2, .inl (fun _ => 0))), (q4, .inl (ce 1, 98, .inr (.inl (fun _ => 0)))), (q5, .inl (ce 0, 2, .inl (fun _ => 0))), (q6, .inl (ce 0, 2, .inl (fun _ => 0))), (q7, .inl (ce 1, 5, .inr (.inl (fun _ => 0))))]) rfl ?_
  refine Z.aload_n hX dX7_init_56 rfl rfl ?_
  refine Z.iconst hX dX7_init_57 ?_
  refine Z.newl (N := 5) hX 1 dX7_init_58 rfl ac_1 rfl (by decide) (by decide) (by decide) ?_
  intro q8
  refine Z.putF (ty := tyX7 10) hX 7 0 10 tyX7 hnm dX7_init_60 rfl rfl inX7 tyX7_ok nmX7 (by decide) fl_X7_33 rfl rfl rfl (by decide +kernel) rfl rfl (Nat.le_of_ble_eq_true rfl) ?_
  refine Z.toW (w' := [(h0, .inr (7, [.ref q1, .ref q2, .int (zI 0), .int (zI 0), .int (zI 0), .ref q3, .ref q4, .ref q5, .ref q6, .ref q7, .ref q8, .null, .null, .null, .null, .null, .null])), (q1, .inl (ce 0, 15, .inl (fun _ => 0))), (q2, .inl (ce 1, 15, .inr (.inl (fun _ => 0)))), (q3, .inl (ce 2, 2, .inl (fun _ => 0))), (q4, .inl (ce 1, 98, .inr (.inl (fun _ => 0)))), (q5, .inl (ce 0, 2, .inl (fun _ => 0))), (q6, .inl (ce 0, 2, .inl (fun _ => 0))), (q7, .inl (ce 1, 5, .inr (.inl (fun _ => 0)))), (q8, .inl (ce 1, 5, .inr (.inl (fun _ => 0))))]) rfl ?_
  refine Z.aload_n hX dX7_init_63 rfl rfl ?_
  refine Z.sipush hX dX7_init_64 (by decide) ?_
  refine Z.newl (N := 192) hX 1 dX7_init_67 rfl ac_1 rfl (by decide) (by decide) (by decide) ?_
  intro q9
  refine Z.putF (ty := tyX7 11) hX 7 0 11 tyX7 hnm dX7_init_69 rfl rfl inX7 tyX7_ok nmX7 (by decide) fl_X7_36 rfl rfl rfl (by decide +kernel) rfl rfl (Nat.le_of_ble_eq_true rfl) ?_
  refine Z.toW (w' := [(h0, .inr (7, [.ref q1, .ref q2, .int (zI 0), .int (zI 0), .int (zI 0), .ref q3, .ref q4, .ref q5, .ref q6, .ref q7, .ref q8, .ref q9, .null, .null, .null, .null, .null])), (q1, .inl (ce 0, 15, .inl (fun _ => 0))), (q2, .inl (ce 1, 15, .inr (.inl (fun _ => 0)))), (q3, .inl (ce 2, 2, .inl (fun _ => 0))), (q4, .inl (ce 1, 98, .inr (.inl (fun _ => 0)))), (q5, .inl (ce 0, 2, .inl (fun _ => 0))), (q6, .inl (ce 0, 2, .inl (fun _ => 0))), (q7, .inl (ce 1, 5, .inr (.inl (fun _ => 0)))), (q8, .inl (ce 1, 5, .inr (.inl (fun _ => 0)))), (q9, .inl (ce 1, 192, .inr (.inl (fun _ => 0))))]) rfl ?_
  refine Z.aload_n hX dX7_init_72 rfl rfl ?_
  refine Z.sipush hX dX7_init_73 (by decide) ?_
  refine Z.newl (N := 12544) hX 1 dX7_init_76 rfl ac_1 rfl (by decide) (by decide) (by decide) ?_
  intro q10
  refine Z.putF (ty := tyX7 12) hX 7 0 12 tyX7 hnm dX7_init_78 rfl rfl inX7 tyX7_ok nmX7 (by decide) fl_X7_39 rfl rfl rfl (by decide +kernel) rfl rfl (Nat.le_of_ble_eq_true rfl) ?_
  refine Z.toW (w' := [(h0, .inr (7, [.ref q1, .ref q2, .int (zI 0), .int (zI 0), .int (zI 0), .ref q3, .ref q4, .ref q5, .ref q6, .ref q7, .ref q8, .ref q9, .ref q10, .null, .null, .null, .null])), (q1, .inl (ce 0, 15, .inl (fun _ => 0))), (q2, .inl (ce 1, 15, .inr (.inl (fun _ => 0)))), (q3, .inl (ce 2, 2, .inl (fun _ => 0))), (q4, .inl (ce 1, 98, .inr (.inl (fun _ => 0)))), (q5, .inl (ce 0, 2, .inl (fun _ => 0))), (q6, .inl (ce 0, 2, .inl (fun _ => 0))), (q7, .inl (ce 1, 5, .inr (.inl (fun _ => 0)))), (q8, .inl (ce 1, 5, .inr (.inl (fun _ => 0)))), (q9, .inl (ce 1, 192, .inr (.inl (fun _ => 0)))), (q10, .inl (ce 1, 12544, .inr (.inl (fun _ => 0))))]) rfl ?_
  refine Z.aload_n hX dX7_init_81 rfl rfl ?_
  refine Z.bipush hX dX7_init_82 (by decide) ?_
  refine Z.newl (N := 49) hX 1 dX7_init_84 rfl ac_1 rfl (by decide) (by decide) (by decide) ?_
  intro q11
  refine Z.putF (ty := tyX7 13) hX 7 0 13 tyX7 hnm dX7_init_86 rfl rfl inX7 tyX7_ok nmX7 (by decide) fl_X7_42 rfl rfl rfl (by decide +kernel) rfl rfl (Nat.le_of_ble_eq_true rfl) ?_
  refine Z.toW (w' := [(h0, .inr (7, [.ref q1, .ref q2, .int (zI 0), .int (zI 0), .int (zI 0), .ref q3, .ref q4, .ref q5, .ref q6, .ref q7, .ref q8, .ref q9, .ref q10, .ref q11, .null, .null, .null])), (q1, .inl (ce 0, 15, .inl (fun _ => 0))), (q2, .inl (ce 1, 15, .inr (.inl (fun _ => 0)))), (q3, .inl (ce 2, 2, .inl (fun _ => 0))), (q4, .inl (ce 1, 98, .inr (.inl (fun _ => 0)))), (q5, .inl (ce 0, 2, .inl (fun _ => 0))), (q6, .inl (ce 0, 2, .inl (fun _ => 0))), (q7, .inl (ce 1, 5, .inr (.inl (fun _ => 0)))), (q8, .inl (ce 1, 5, .inr (.inl (fun _ => 0)))), (q9, .inl (ce 1, 192, .inr (.inl (fun _ => 0)))), (q10, .inl (ce 1, 12544, .inr (.inl (fun _ => 0)))), (q11, .inl (ce 1, 49, .inr (.inl (fun _ => 0))))]) rfl ?_
  refine Z.aload_n hX dX7_init_89 rfl rfl ?_
  refine Z.bipush hX dX7_init_90 (by decide) ?_
  refine Z.newl (N := 49) hX 1 dX7_init_92 rfl ac_1 rfl (by decide) (by decide) (by decide) ?_
  intro q12
  refine Z.putF (ty := tyX7 14) hX 7 0 14 tyX7 hnm dX7_init_94 rfl rfl inX7 tyX7_ok nmX7 (by decide) fl_X7_45 rfl rfl rfl (by decide +kernel) rfl rfl (Nat.le_of_ble_eq_true rfl) ?_
  refine Z.toW (w' := [(h0, .inr (7, [.ref q1, .ref q2, .int (zI 0), .int (zI 0), .int (zI 0), .ref q3, .ref q4, .ref q5, .ref q6, .ref q7, .ref q8, .ref q9, .ref q10, .ref q11, .ref q12, .null, .null])), (q1, .inl (ce 0, 15, .inl (fun _ => 0))), (q2, .inl (ce 1, 15, .inr (.inl (fun _ => 0)))), (q3, .inl (ce 2, 2, .inl (fun _ => 0))), (q4, .inl (ce 1, 98, .inr (.inl (fun _ => 0)))), (q5, .inl (ce 0, 2, .inl (fun _ => 0))), (q6, .inl (ce 0, 2, .inl (fun _ => 0))), (q7, .inl (ce 1, 5, .inr (.inl (fun _ => 0)))), (q8, .inl (ce 1, 5, .inr (.inl (fun _ => 0)))), (q9, .inl (ce 1, 192, .inr (.inl (fun _ => 0)))), (q10, .inl (ce 1, 12544, .inr (.inl (fun _ => 0)))), (q11, .inl (ce 1, 49, .inr (.inl (fun _ => 0)))), (q12, .inl (ce 1, 49, .inr (.inl (fun _ => 0))))]) rfl ?_
  refine Z.aload_n hX dX7_init_97 rfl rfl ?_
  refine Z.bipush hX dX7_init_98 (by decide) ?_
  refine Z.newl (N := 49) hX 1 dX7_init_100 rfl ac_1 rfl (by decide) (by decide) (by decide) ?_
  intro q13
  refine Z.putF (ty := tyX7 15) hX 7 0 15 tyX7 hnm dX7_init_102 rfl rfl inX7 tyX7_ok nmX7 (by decide) fl_X7_48 rfl rfl rfl (by decide +kernel) rfl rfl (Nat.le_of_ble_eq_true rfl) ?_
  refine Z.toW (w' := [(h0, .inr (7, [.ref q1, .ref q2, .int (zI 0), .int (zI 0), .int (zI 0), .ref q3, .ref q4, .ref q5, .ref q6, .ref q7, .ref q8, .ref q9, .ref q10, .ref q11, .ref q12, .ref q13, .null])), (q1, .inl (ce 0, 15, .inl (fun _ => 0))), (q2, .inl (ce 1, 15, .inr (.inl (fun _ => 0)))), (q3, .inl (ce 2, 2, .inl (fun _ => 0))), (q4, .inl (ce 1, 98, .inr (.inl (fun _ => 0)))), (q5, .inl (ce 0, 2, .inl (fun _ => 0))), (q6, .inl (ce 0, 2, .inl (fun _ => 0))), (q7, .inl (ce 1, 5, .inr (.inl (fun _ => 0)))), (q8, .inl (ce 1, 5, .inr (.inl (fun _ => 0)))), (q9, .inl (ce 1, 192, .inr (.inl (fun _ => 0)))), (q10, .inl (ce 1, 12544, .inr (.inl (fun _ => 0)))), (q11, .inl (ce 1, 49, .inr (.inl (fun _ => 0)))), (q12, .inl (ce 1, 49, .inr (.inl (fun _ => 0)))), (q13, .inl (ce 1, 49, .inr (.inl (fun _ => 0))))]) rfl ?_
  refine Z.aload_n hX dX7_init_105 rfl rfl ?_
  refine Z.bipush hX dX7_init_106 (by decide) ?_
  refine Z.newl (N := 49) hX 1 dX7_init_108 rfl ac_1 rfl (by decide) (by decide) (by decide) ?_
  intro q14
  refine Z.putF (ty := tyX7 16) hX 7 0 16 tyX7 hnm dX7_init_110 rfl rfl inX7 tyX7_ok nmX7 (by decide) fl_X7_51 rfl rfl rfl (by decide +kernel) rfl rfl (Nat.le_of_ble_eq_true rfl) ?_
  refine Z.toW (w' := [(h0, .inr (7, [.ref q1, .ref q2, .int (zI 0), .int (zI 0), .int (zI 0), .ref q3, .ref q4, .ref q5, .ref q6, .ref q7, .ref q8, .ref q9, .ref q10, .ref q11, .ref q12, .ref q13, .ref q14])), (q1, .inl (ce 0, 15, .inl (fun _ => 0))), (q2, .inl (ce 1, 15, .inr (.inl (fun _ => 0)))), (q3, .inl (ce 2, 2, .inl (fun _ => 0))), (q4, .inl (ce 1, 98, .inr (.inl (fun _ => 0)))), (q5, .inl (ce 0, 2, .inl (fun _ => 0))), (q6, .inl (ce 0, 2, .inl (fun _ => 0))), (q7, .inl (ce 1, 5, .inr (.inl (fun _ => 0)))), (q8, .inl (ce 1, 5, .inr (.inl (fun _ => 0)))), (q9, .inl (ce 1, 192, .inr (.inl (fun _ => 0)))), (q10, .inl (ce 1, 12544, .inr (.inl (fun _ => 0)))), (q11, .inl (ce 1, 49, .inr (.inl (fun _ => 0)))), (q12, .inl (ce 1, 49, .inr (.inl (fun _ => 0)))), (q13, .inl (ce 1, 49, .inr (.inl (fun _ => 0)))), (q14, .inl (ce 1, 49, .inr (.inl (fun _ => 0))))]) rfl ?_
  exact hR _ _ _ dX7_init_113 ⟨fun k => ([h0, q1, q2, q3, q4, q5, q6, q7, q8, q9, q10, q11, q12, q13, q14] : List Nat).getD k 0, rfl, rfl⟩
end
section
/-! the class's cells: 24 of its own, 42 planes as one family -/
def tri (n : Nat) : Nat := ([0, 1, 2, 3, 1, 4, 5, 6, 2, 5, 7, 8, 3, 6, 8, 9] : List Nat).getD n 0
def cFix (ce : Nat → ClassId) (h pl : Nat → Nat) (G : Nat → Int) (L : Nat → Nat → Int64) : va_W :=
  [(h 0, .inr (6, [.ref (h 1), .ref (h 2), .ref (h 3), .ref (h 4), .ref (h 5), .ref (h 6), .ref (h 7), .ref (h 8), .int (zI (G 0))])), (h 1, .inr (5, [.ref (h 9)])), (h 2, .inr (5, [.ref (h 10)])), (h 3, .inr (1, [.ref (h 11), .ref (h 12), .ref (h 13)])), (h 4, .inr (2, [.ref (h 14), .ref (h 15), .ref (h 16), .ref (h 17)])),
   (h 5, .inr (4, [.ref (pl 36), .ref (pl 37), .ref (pl 38), .ref (pl 39)])), (h 6, .inr (0, [.ref (pl 40), .int (zI (G 1)), .int (zI (G 2)), .int (zI (G 3))])), (h 7, .inr (0, [.ref (pl 41), .int (zI (G 4)), .int (zI (G 5)), .int (zI (G 6))])), (h 8, .inl (ce 1, 3, .inr (.inl (L 9)))),
   (h 9, .inl (ce 3, 3, .inr (.inr (.inr (.inr (fun i => some (h (18 + i)))))))), (h 10, .inl (ce 3, 3, .inr (.inr (.inr (.inr (fun i => some (h (18 + (3 + i))))))))), (h 11, .inl (ce 1, 5, .inr (.inl (L 6)))), (h 12, .inl (ce 1, 5, .inr (.inl (L 7)))), (h 13, .inl (ce 1, 5, .inr (.inl (L 8)))),
   (h 14, .inl (ce 4, 5, .inr (.inr (.inr (.inr (fun i => some (pl i))))))), (h 15, .inl (ce 4, 5, .inr (.inr (.inr (.inr (fun i => some (pl (5 + i)))))))), (h 16, .inl (ce 4, 16, .inr (.inr (.inr (.inr (fun i => some (pl (10 + tri i)))))))), (h 17, .inl (ce 4, 16, .inr (.inr (.inr (.inr (fun i => some (pl (20 + i)))))))),
   (h 18, .inl (ce 1, 5, .inr (.inl (L 0)))), (h 19, .inl (ce 1, 5, .inr (.inl (L 1)))), (h 20, .inl (ce 1, 5, .inr (.inl (L 2)))), (h 21, .inl (ce 1, 5, .inr (.inl (L 3)))), (h 22, .inl (ce 1, 5, .inr (.inl (L 4)))), (h 23, .inl (ce 1, 5, .inr (.inl (L 5))))]
def cPl (pl ar : Nat → Nat) (B : Nat → Int) : va_W := (List.range 42).map (fun k => (pl k, .inr (3, [.ref (ar k), .int (zI (B k))])))
def cAr (ce : Nat → ClassId) (ar : Nat → Nat) (J : Nat → Nat → Int64) : va_W := (List.range 42).map (fun k => (ar k, .inl (ce 1, 28, .inr (.inl (J k)))))
def cW (ce : Nat → ClassId) (h pl ar : Nat → Nat) (G : Nat → Int) (L : Nat → Nat → Int64) (B : Nat → Int) (J : Nat → Nat → Int64) : va_W := cFix ce h pl G L ++ (cPl pl ar B ++ cAr ce ar J)
section CWR
variable {ce : Nat → ClassId} {h pl ar : Nat → Nat} {G : Nat → Int} {L : Nat → Nat → Int64} {B : Nat → Int} {J : Nat → Nat → Int64}
theorem cFix_len : (cFix ce h pl G L).length = 24 := rfl
theorem cPl_len : (cPl pl ar B).length = 42 := by simp [cPl]
theorem cAr_len : (cAr ce ar J).length = 42 := by simp [cAr]
theorem cW_pl {k : Nat} (hk : k < 42) : (cW ce h pl ar G L B J)[24 + k]? = some (pl k, .inr (3, [.ref (ar k), .int (zI (B k))])) := by
  unfold cW
  rw [List.getElem?_append_right (by rw [cFix_len]; omega), cFix_len, List.getElem?_append_left (by rw [cPl_len]; omega)]
  rw [show 24 + k - 24 = k by omega]
  simp [cPl, hk]
theorem cW_ar {k : Nat} (hk : k < 42) : (cW ce h pl ar G L B J)[66 + k]? = some (ar k, .inl (ce 1, 28, .inr (.inl (J k)))) := by
  unfold cW
  rw [List.getElem?_append_right (by rw [cFix_len]; omega), cFix_len, List.getElem?_append_right (by rw [cPl_len]; omega), cPl_len]
  rw [show 66 + k - 24 - 42 = k by omega]
  simp [cAr, hk]
theorem cW_in {k : Nat} (hk : k < 6) : (cW ce h pl ar G L B J)[18 + k]? = some (h (18 + k), .inl (ce 1, 5, .inr (.inl (L k)))) := by
  match k, hk with
  | 0, _ => rfl
  | 1, _ => rfl
  | 2, _ => rfl
  | 3, _ => rfl
  | 4, _ => rfl
  | 5, _ => rfl
theorem cW_setL {k : Nat} (hk : k < 6) {f : Nat → Int64} : (cW ce h pl ar G L B J).set (18 + k) (h (18 + k), .inl (ce 1, 5, .inr (.inl f))) = cW ce h pl ar G (va_up L k f) B J := by
  match k, hk with
  | 0, _ => rfl
  | 1, _ => rfl
  | 2, _ => rfl
  | 3, _ => rfl
  | 4, _ => rfl
  | 5, _ => rfl
theorem mp_set {α : Type} (g : Nat → α) (n k : Nat) (x : α) : ((List.range n).map g).set k x = (List.range n).map (fun j => if j = k then x else g j) := by
  apply List.ext_getElem (by simp)
  intro i h1 h2
  simp at h1
  rw [List.getElem_set]
  simp
  by_cases e : k = i
  · rw [if_pos e, if_pos e.symm]
  · rw [if_neg e, if_neg (fun q => e q.symm)]
theorem cW_setB {k : Nat} (hk : k < 42) {v : Int} : (cW ce h pl ar G L B J).set (24 + k) (pl k, .inr (3, [.ref (ar k), .int (zI v)])) = cW ce h pl ar G L (va_up B k v) J := by
  unfold cW
  rw [List.set_append_right _ _ (by rw [cFix_len]; omega), cFix_len, List.set_append_left _ _ (by rw [cPl_len]; omega), show 24 + k - 24 = k by omega]
  congr 2
  unfold cPl
  rw [mp_set]
  apply List.map_congr_left
  intro j _
  unfold va_up
  by_cases e : j = k
  · rw [if_pos e, if_pos e, e]
  · rw [if_neg e, if_neg e]
theorem cW_setJ {k : Nat} (hk : k < 42) {f : Nat → Int64} : (cW ce h pl ar G L B J).set (66 + k) (ar k, .inl (ce 1, 28, .inr (.inl f))) = cW ce h pl ar G L B (va_up J k f) := by
  unfold cW
  rw [List.set_append_right _ _ (by rw [cFix_len]; omega), cFix_len, List.set_append_right _ _ (by rw [cPl_len]; omega), cPl_len, show 66 + k - 24 - 42 = k by omega]
  congr 2
  unfold cAr
  rw [mp_set]
  apply List.map_congr_left
  intro j _
  unfold va_up
  by_cases e : j = k
  · rw [if_pos e, if_pos e, e]
  · rw [if_neg e, if_neg e]
end CWR
theorem tri_lt (n : Nat) : tri n < 10 := by
  unfold tri
  by_cases h : n < 16
  · have : ∀ m : Fin 16, ([0, 1, 2, 3, 1, 4, 5, 6, 2, 5, 7, 8, 3, 6, 8, 9] : List Nat).getD m.val 0 < 10 := by decide
    exact this ⟨n, h⟩
  · have : ([0, 1, 2, 3, 1, 4, 5, 6, 2, 5, 7, 8, 3, 6, 8, 9] : List Nat)[n]? = none := List.getElem?_eq_none (by simp; omega)
    rw [List.getD_eq_getElem?_getD, this]; decide
section ZR6
variable {p : Program} {l : Launch} {e : Env} {R : Room} {s : State} {m : MethodId} {args : Array Value} {below : List Frame} {meth : Method} {c : Code} {D : va_G} {A : Nat → Prop} {nL cells slots : Nat} {Q : State → Prop}
variable {cc : ByteArray} {own : String} {tys : List (ClassId × FieldType)} {pc : Nat} {lv : List (Nat × Value)} {st : List Value} {w : va_W}
theorem Z.aaload (hX : Zf p m c cc nL s args own D tys A) (q0 t0 : Nat) {a a1 : Nat} {cA : ClassId} {n : Nat} {f : Nat → Option Nat} {z : Int} {ty : FieldType} (hd : decode cc pc = .ok (.aaload, 1)) (ha : w[q0]? = some (a, .inl (cA, n, .inr (.inr (.inr (.inr f)))))) (ht : tys[t0]? = some (cA, ty)) (hty : ty.isReference = true) (h1 : 0 ≤ z) (h2 : z < n) (hn : n < 2147483648) (hf : f z.toNat = some a1) (k : Z p l e R s m args below meth c D A nL cells slots Q (pc + 1) lv (.ref a1 :: st) w) : Z p l e R s m args below meth c D A nL cells slots Q pc lv (.int (zI z) :: .ref a :: st) w := by
  intro H locs ls hP hD hS hv
  have hin := zI_in h1 h2 hn
  have hlt : (zI z).toNatClampNeg < n := Nat.not_le.mp fun q => hin (Or.inr q)
  have hv1 : va_rf (f (zI z).toNatClampNeg) = .ref a1 := by rw [zI_cl h1 (by omega), hf]; rfl
  exact W.aald (v := .ref a1) (ty := ty) hX.1 hX.2.1 (hP q0 _ ha) ((hX.2.2.2.2.2.1.2 t0 _ ht).1 n (fun j => va_rf (f j))) hty (fun q => by cases q) (by show ¬ (zI z < 0 ∨ (arrV _ _ _).slots.size ≤ _); rw [arrV_size]; exact hin) (by show (arrV _ _ _).slots[_]? = _; rw [arrV_read _ _ hlt, hv1]) rfl rfl hd (k H locs ls hP hD hS hv)
theorem Z.alen (hX : Zf p m c cc nL s args own D tys A) (q0 t0 : Nat) {a : Nat} {cA : ClassId} {x : vp_A} {ty : FieldType} (hd : decode cc pc = .ok (.arraylength, 1)) (ha : w[q0]? = some (a, .inl (cA, x))) (ht : tys[t0]? = some (cA, ty)) (k : Z p l e R s m args below meth c D A nL cells slots Q (pc + 1) lv (.int (zI (x.1 : Int)) :: st) w) : Z p l e R s m args below meth c D A nL cells slots Q pc lv (.ref a :: st) w := fun H locs ls hP hD hS hv => va_alen hX.1 hX.2.1 hX.2.2.2.2.2.1 hP q0 t0 ha ht (v := zI (x.1 : Int)) rfl hd (k H locs ls hP hD hS hv)
theorem Z.callSNi (hX : Zf p m c cc nL s args own D tys A) {y : MethodName} {bytes : ByteArray} {maxL index : Nat} {ret : Option FieldType} {rm : Room} {As rest : List Value} {post : Int32 → va_W → Prop} {host : String} (hM : Ct l y bytes maxL ret rm 0 0 D tys As [] (QI D tys post)) (hcode : Cond.code y bytes maxL ret ∈ lw_g) (hlk : (own, index, y, host) ∈ nst) (hst : Cond.static y ∈ lw_g) (hini : Cond.initialized y.cls ∈ lw_g) (hdd : y.cls ≠ "java/lang/invoke/MethodHandle" ∧ y.cls ≠ "java/lang/invoke/VarHandle" ∧ (parseMethodDescriptor y.desc).map (fun d => d.parameters.length) = some As.length) (hR : rm.frames + 1 ≤ R.frames ∧ 8 + (maxL + 11) + rm.locals ≤ R.locals) (hcs : rm.cells = 0 ∧ rm.slots = 0) (hroom : cells ≤ R.cells ∧ slots ≤ R.slots) (hstk : st = As.reverse ++ rest) (hcat : (rest.map fun v => v.category).sum ≤ 8) (hd : decode cc pc = .ok (.invokestatic index, 3)) (k : ∀ (r : Int32) (w1 : va_W), post r w1 → w1 = [] ∧ Z p l e R s m args below meth c D A nL cells slots Q (pc + 3) lv (.int r :: rest) w) : Z p l e R s m args below meth c D A nL cells slots Q pc lv st w := by
  intro H locs ls hP hD hS hv
  obtain ⟨hx, hb, hml, hown, hts, hK, hA, hN⟩ := id hX
  have hPc : va_P D vwCl [] H := fun k q h => by simp at h
  have hDc : va_D A [] := ⟨fun i j p q h => by simp at h, fun k q h => by simp at h⟩
  have hFc : ∀ q, va_A [] H.size q → A q := fun q h => by
    rcases h with ⟨k, e, h⟩ | h
    · simp at h
    · exact hA q (Nat.le_trans hS.1 h)
  have hCB : va_CN R s args own index y host bytes maxL ret (.code y bytes maxL ret :: lw_g) rm 0 0 As.length := va_cnB As.length hts (z_goodC hcode) rfl hcs.1 hcs.2 (hN.1 _ hlk) (hts _ hini) hdd hR
  refine va_calli (va_runSN (As := As) (rest := rest) ⟨hx, hb, hml, hown, hts⟩ (hM H.size) ⟨hCB, hts _ hst, trivial⟩ ⟨fun a U g mk q => by obtain ⟨q0, q1, qP, qK, qD, qN⟩ := q; exact ⟨q0, q1, qP, va_K.moved (u := U) (U := U.calling g mk a) (Vm.Alike.refl U.vm) qK, qD, NW.same qN rfl⟩, fun U hU hW => ⟨rfl, by rw [hU], by rw [hU]; exact hPc, va_K.moved hW.alike hK, hDc.weaken (fun _ _ _ _ => trivial), hN.warm hW⟩⟩ rfl rfl hv.1 hstk (lv_room hcat) hd hroom) hS (fun q _ h => hFc q h) hFc (fun r u t H1 locs1 ht hvm hw hB hz1 hk1 hS1 => ?_)
  obtain ⟨h1, h2⟩ := k r u hw
  refine h2 H1 locs1 ls (hP.kept fun k q hq => hk1 q.1 (hP k q hq).lt ?_) hD hS1 hv
  rintro (⟨k, e, h⟩ | h)
  · simp at h
  · have := (hP _ q hq).lt
    omega
theorem Z.callSNl (hX : Zf p m c cc nL s args own D tys A) {y : MethodName} {bytes : ByteArray} {maxL index : Nat} {ret : Option FieldType} {rm : Room} {As rest : List Value} {post : Int64 → va_W → Prop} {host : String} (hM : Ct l y bytes maxL ret rm 0 0 D tys As [] (QL D tys post)) (hcode : Cond.code y bytes maxL ret ∈ lw_g) (hlk : (own, index, y, host) ∈ nst) (hst : Cond.static y ∈ lw_g) (hini : Cond.initialized y.cls ∈ lw_g) (hdd : y.cls ≠ "java/lang/invoke/MethodHandle" ∧ y.cls ≠ "java/lang/invoke/VarHandle" ∧ (parseMethodDescriptor y.desc).map (fun d => d.parameters.length) = some As.length) (hR : rm.frames + 1 ≤ R.frames ∧ 8 + (maxL + 11) + rm.locals ≤ R.locals) (hcs : rm.cells = 0 ∧ rm.slots = 0) (hroom : cells ≤ R.cells ∧ slots ≤ R.slots) (hstk : st = As.reverse ++ rest) (hcat : (rest.map fun v => v.category).sum ≤ 8) (hd : decode cc pc = .ok (.invokestatic index, 3)) (k : ∀ (r : Int64) (w1 : va_W), post r w1 → w1 = [] ∧ Z p l e R s m args below meth c D A nL cells slots Q (pc + 3) lv (.long r :: rest) w) : Z p l e R s m args below meth c D A nL cells slots Q pc lv st w := by
  intro H locs ls hP hD hS hv
  obtain ⟨hx, hb, hml, hown, hts, hK, hA, hN⟩ := id hX
  have hPc : va_P D vwCl [] H := fun k q h => by simp at h
  have hDc : va_D A [] := ⟨fun i j p q h => by simp at h, fun k q h => by simp at h⟩
  have hFc : ∀ q, va_A [] H.size q → A q := fun q h => by
    rcases h with ⟨k, e, h⟩ | h
    · simp at h
    · exact hA q (Nat.le_trans hS.1 h)
  have hCB : va_CN R s args own index y host bytes maxL ret (.code y bytes maxL ret :: lw_g) rm 0 0 As.length := va_cnB As.length hts (z_goodC hcode) rfl hcs.1 hcs.2 (hN.1 _ hlk) (hts _ hini) hdd hR
  refine va_calll (va_runSN (As := As) (rest := rest) ⟨hx, hb, hml, hown, hts⟩ (hM H.size) ⟨hCB, hts _ hst, trivial⟩ ⟨fun a U g mk q => by obtain ⟨q0, q1, qP, qK, qD, qN⟩ := q; exact ⟨q0, q1, qP, va_K.moved (u := U) (U := U.calling g mk a) (Vm.Alike.refl U.vm) qK, qD, NW.same qN rfl⟩, fun U hU hW => ⟨rfl, by rw [hU], by rw [hU]; exact hPc, va_K.moved hW.alike hK, hDc.weaken (fun _ _ _ _ => trivial), hN.warm hW⟩⟩ rfl rfl hv.1 hstk (lv_room hcat) hd hroom) hS (fun q _ h => hFc q h) hFc (fun r u t H1 locs1 ht hvm hw hB hz1 hk1 hS1 => ?_)
  obtain ⟨h1, h2⟩ := k r u hw
  refine h2 H1 locs1 ls (hP.kept fun k q hq => hk1 q.1 (hP k q hq).lt ?_) hD hS1 hv
  rintro (⟨k, e, h⟩ | h)
  · simp at h
  · have := (hP _ q hq).lt
    omega
end ZR6
end
section
set_option maxRecDepth 100000 in
theorem ini_X6 : Cond.initialized RX6 ∈ lw_g := z_mem (k := 31) rfl rfl
theorem inX6 : ∀ x ∈ u_ws RX6 TX6 9, x ∈ lw_g := by
  have h : (u_ws RX6 TX6 9).all (fun x => decide (x ∈ lw_tbl) && goodWord x) = true := by decide +kernel
  intro x hx
  have h1 := List.all_eq_true.mp h x hx
  simp only [Bool.and_eq_true, decide_eq_true_eq] at h1
  exact z_memD h1.1 h1.2
set_option maxRecDepth 100000 in
theorem ini_X0 : Cond.initialized RX0 ∈ lw_g := z_mem (k := 37) rfl rfl
theorem inX0 : ∀ x ∈ u_ws RX0 TX0 4, x ∈ lw_g := by
  have h : (u_ws RX0 TX0 4).all (fun x => decide (x ∈ lw_tbl) && goodWord x) = true := by decide +kernel
  intro x hx
  have h1 := List.all_eq_true.mp h x hx
  simp only [Bool.and_eq_true, decide_eq_true_eq] at h1
  exact z_memD h1.1 h1.2
set_option maxRecDepth 100000 in
theorem ini_X1 : Cond.initialized RX1 ∈ lw_g := z_mem (k := 33) rfl rfl
theorem inX1 : ∀ x ∈ u_ws RX1 TX1 3, x ∈ lw_g := by
  have h : (u_ws RX1 TX1 3).all (fun x => decide (x ∈ lw_tbl) && goodWord x) = true := by decide +kernel
  intro x hx
  have h1 := List.all_eq_true.mp h x hx
  simp only [Bool.and_eq_true, decide_eq_true_eq] at h1
  exact z_memD h1.1 h1.2
set_option maxRecDepth 100000 in
theorem ini_X2 : Cond.initialized RX2 ∈ lw_g := z_mem (k := 34) rfl rfl
theorem inX2 : ∀ x ∈ u_ws RX2 TX2 4, x ∈ lw_g := by
  have h : (u_ws RX2 TX2 4).all (fun x => decide (x ∈ lw_tbl) && goodWord x) = true := by decide +kernel
  intro x hx
  have h1 := List.all_eq_true.mp h x hx
  simp only [Bool.and_eq_true, decide_eq_true_eq] at h1
  exact z_memD h1.1 h1.2
set_option maxRecDepth 100000 in
theorem ini_X3 : Cond.initialized RX3 ∈ lw_g := z_mem (k := 35) rfl rfl
theorem inX3 : ∀ x ∈ u_ws RX3 TX3 2, x ∈ lw_g := by
  have h : (u_ws RX3 TX3 2).all (fun x => decide (x ∈ lw_tbl) && goodWord x) = true := by decide +kernel
  intro x hx
  have h1 := List.all_eq_true.mp h x hx
  simp only [Bool.and_eq_true, decide_eq_true_eq] at h1
  exact z_memD h1.1 h1.2
set_option maxRecDepth 100000 in
theorem ini_X4 : Cond.initialized RX4 ∈ lw_g := z_mem (k := 36) rfl rfl
theorem inX4 : ∀ x ∈ u_ws RX4 TX4 4, x ∈ lw_g := by
  have h : (u_ws RX4 TX4 4).all (fun x => decide (x ∈ lw_tbl) && goodWord x) = true := by decide +kernel
  intro x hx
  have h1 := List.all_eq_true.mp h x hx
  simp only [Bool.and_eq_true, decide_eq_true_eq] at h1
  exact z_memD h1.1 h1.2
set_option maxRecDepth 100000 in
theorem ini_X5 : Cond.initialized RX5 ∈ lw_g := z_mem (k := 32) rfl rfl
theorem inX5 : ∀ x ∈ u_ws RX5 TX5 1, x ∈ lw_g := by
  have h : (u_ws RX5 TX5 1).all (fun x => decide (x ∈ lw_tbl) && goodWord x) = true := by decide +kernel
  intro x hx
  have h1 := List.all_eq_true.mp h x hx
  simp only [Bool.and_eq_true, decide_eq_true_eq] at h1
  exact z_memD h1.1 h1.2
set_option maxRecDepth 100000 in
theorem ini_J6 : Cond.initialized RJ6 ∈ lw_g := z_mem (k := 42) rfl rfl
set_option maxRecDepth 100000 in
theorem ini_J9 : Cond.initialized RJ9 ∈ lw_g := z_mem (k := 41) rfl rfl
set_option maxRecDepth 100000 in
theorem ini_J7 : Cond.initialized RJ7 ∈ lw_g := z_mem (k := 39) rfl rfl
theorem ns_X6_9 : (RX6, 9, yX5_init, "EliminateLoci") ∈ nst := by decide +kernel
set_option maxRecDepth 100000 in
theorem fl_X5_11 : Cond.fieldLink RX5 11 "EliminateLoci$Row" "parts" "[[J" ∈ lw_g := z_mem (k := 59) rfl rfl
set_option maxRecDepth 100000 in
theorem fl_X1_27 : Cond.fieldLink RX1 27 "EliminateLoci$Row" "parts" "[[J" ∈ lw_g := z_mem (k := 60) rfl rfl
set_option maxRecDepth 100000 in
theorem fl_X6_69 : Cond.fieldLink RX6 69 "EliminateLoci$Row" "parts" "[[J" ∈ lw_g := z_mem (k := 61) rfl rfl
set_option maxRecDepth 100000 in
theorem fl_X2_37 : Cond.fieldLink RX2 37 "EliminateLoci$Row" "parts" "[[J" ∈ lw_g := z_mem (k := 62) rfl rfl
theorem ns_X6_21 : (RX6, 21, yX1_init, "EliminateLoci") ∈ nst := by decide +kernel
set_option maxRecDepth 100000 in
theorem fl_X1_9 : Cond.fieldLink RX1 9 "EliminateLoci$Divisor" "shared" "[J" ∈ lw_g := z_mem (k := 73) rfl rfl
set_option maxRecDepth 100000 in
theorem fl_X1_15 : Cond.fieldLink RX1 15 "EliminateLoci$Divisor" "other" "[J" ∈ lw_g := z_mem (k := 74) rfl rfl
set_option maxRecDepth 100000 in
theorem fl_X1_18 : Cond.fieldLink RX1 18 "EliminateLoci$Divisor" "spare" "[J" ∈ lw_g := z_mem (k := 75) rfl rfl
set_option maxRecDepth 100000 in
theorem ml_X6_28 : Cond.methodLink RX6 28 yX2_init ∈ lw_g := z_mem (k := 85) rfl rfl
theorem ns_X2_26 : (RX2, 26, yX3_init, "EliminateLoci") ∈ nst := by decide +kernel
set_option maxRecDepth 100000 in
theorem fl_X3_9 : Cond.fieldLink RX3 9 "EliminateLoci$Plane" "cells" "[J" ∈ lw_g := z_mem (k := 96) rfl rfl
set_option maxRecDepth 100000 in
theorem fl_X4_57 : Cond.fieldLink RX4 57 "EliminateLoci$Plane" "cells" "[J" ∈ lw_g := z_mem (k := 97) rfl rfl
set_option maxRecDepth 100000 in
theorem fl_X2_56 : Cond.fieldLink RX2 56 "EliminateLoci$Plane" "cells" "[J" ∈ lw_g := z_mem (k := 98) rfl rfl
set_option maxRecDepth 100000 in
theorem fl_X6_122 : Cond.fieldLink RX6 122 "EliminateLoci$Plane" "cells" "[J" ∈ lw_g := z_mem (k := 99) rfl rfl
set_option maxRecDepth 100000 in
theorem fl_X3_15 : Cond.fieldLink RX3 15 "EliminateLoci$Plane" "bound" "I" ∈ lw_g := z_mem (k := 100) rfl rfl
set_option maxRecDepth 100000 in
theorem fl_X4_32 : Cond.fieldLink RX4 32 "EliminateLoci$Plane" "bound" "I" ∈ lw_g := z_mem (k := 101) rfl rfl
set_option maxRecDepth 100000 in
theorem fl_X6_113 : Cond.fieldLink RX6 113 "EliminateLoci$Plane" "bound" "I" ∈ lw_g := z_mem (k := 102) rfl rfl
set_option maxRecDepth 100000 in
theorem fl_X2_11 : Cond.fieldLink RX2 11 "EliminateLoci$Eliminant" "first" "[LEliminateLoci$Plane;" ∈ lw_g := z_mem (k := 108) rfl rfl
set_option maxRecDepth 100000 in
theorem fl_X2_17 : Cond.fieldLink RX2 17 "EliminateLoci$Eliminant" "second" "[LEliminateLoci$Plane;" ∈ lw_g := z_mem (k := 109) rfl rfl
set_option maxRecDepth 100000 in
theorem fl_X2_20 : Cond.fieldLink RX2 20 "EliminateLoci$Eliminant" "entries" "[LEliminateLoci$Plane;" ∈ lw_g := z_mem (k := 110) rfl rfl
set_option maxRecDepth 100000 in
theorem fl_X2_23 : Cond.fieldLink RX2 23 "EliminateLoci$Eliminant" "minors" "[LEliminateLoci$Plane;" ∈ lw_g := z_mem (k := 111) rfl rfl
theorem ns_X6_35 : (RX6, 35, yX4_init, "EliminateLoci") ∈ nst := by decide +kernel
theorem ns_X4_9 : (RX4, 9, yX3_init, "EliminateLoci") ∈ nst := by decide +kernel
set_option maxRecDepth 100000 in
theorem fl_X4_10 : Cond.fieldLink RX4 10 "EliminateLoci$RootFinder" "whole" "LEliminateLoci$Plane;" ∈ lw_g := z_mem (k := 129) rfl rfl
set_option maxRecDepth 100000 in
theorem fl_X4_16 : Cond.fieldLink RX4 16 "EliminateLoci$RootFinder" "root" "LEliminateLoci$Plane;" ∈ lw_g := z_mem (k := 130) rfl rfl
set_option maxRecDepth 100000 in
theorem fl_X4_19 : Cond.fieldLink RX4 19 "EliminateLoci$RootFinder" "raised" "LEliminateLoci$Plane;" ∈ lw_g := z_mem (k := 131) rfl rfl
set_option maxRecDepth 100000 in
theorem fl_X4_22 : Cond.fieldLink RX4 22 "EliminateLoci$RootFinder" "spare" "LEliminateLoci$Plane;" ∈ lw_g := z_mem (k := 132) rfl rfl
theorem ns_X6_42 : (RX6, 42, yX0_init, "EliminateLoci") ∈ nst := by decide +kernel
theorem ns_X0_9 : (RX0, 9, yX3_init, "EliminateLoci") ∈ nst := by decide +kernel
set_option maxRecDepth 100000 in
theorem fl_X0_10 : Cond.fieldLink RX0 10 "EliminateLoci$Curve" "root" "LEliminateLoci$Plane;" ∈ lw_g := z_mem (k := 150) rfl rfl
set_option maxRecDepth 100000 in
theorem fl_X4_47 : Cond.fieldLink RX4 47 "EliminateLoci$Curve" "root" "LEliminateLoci$Plane;" ∈ lw_g := z_mem (k := 151) rfl rfl
set_option maxRecDepth 100000 in
theorem fl_X6_109 : Cond.fieldLink RX6 109 "EliminateLoci$Curve" "root" "LEliminateLoci$Plane;" ∈ lw_g := z_mem (k := 152) rfl rfl
set_option maxRecDepth 100000 in
theorem fl_X0_16 : Cond.fieldLink RX0 16 "EliminateLoci$Curve" "power" "I" ∈ lw_g := z_mem (k := 153) rfl rfl
set_option maxRecDepth 100000 in
theorem fl_X4_50 : Cond.fieldLink RX4 50 "EliminateLoci$Curve" "power" "I" ∈ lw_g := z_mem (k := 154) rfl rfl
set_option maxRecDepth 100000 in
theorem fl_X6_119 : Cond.fieldLink RX6 119 "EliminateLoci$Curve" "power" "I" ∈ lw_g := z_mem (k := 155) rfl rfl
set_option maxRecDepth 100000 in
theorem fl_X0_20 : Cond.fieldLink RX0 20 "EliminateLoci$Curve" "known" "Z" ∈ lw_g := z_mem (k := 156) rfl rfl
set_option maxRecDepth 100000 in
theorem fl_X6_144 : Cond.fieldLink RX6 144 "EliminateLoci$Curve" "known" "Z" ∈ lw_g := z_mem (k := 157) rfl rfl
set_option maxRecDepth 100000 in
theorem fl_X0_24 : Cond.fieldLink RX0 24 "EliminateLoci$Curve" "found" "Z" ∈ lw_g := z_mem (k := 158) rfl rfl
set_option maxRecDepth 100000 in
theorem fl_X6_106 : Cond.fieldLink RX6 106 "EliminateLoci$Curve" "found" "Z" ∈ lw_g := z_mem (k := 159) rfl rfl
set_option maxRecDepth 100000 in
theorem fl_X6_10 : Cond.fieldLink RX6 10 "EliminateLoci" "row" "LEliminateLoci$Row;" ∈ lw_g := z_mem (k := 169) rfl rfl
set_option maxRecDepth 100000 in
theorem fl_X6_16 : Cond.fieldLink RX6 16 "EliminateLoci" "freedRow" "LEliminateLoci$Row;" ∈ lw_g := z_mem (k := 170) rfl rfl
set_option maxRecDepth 100000 in
theorem fl_X6_22 : Cond.fieldLink RX6 22 "EliminateLoci" "divisor" "LEliminateLoci$Divisor;" ∈ lw_g := z_mem (k := 171) rfl rfl
set_option maxRecDepth 100000 in
theorem fl_X6_29 : Cond.fieldLink RX6 29 "EliminateLoci" "eliminant" "LEliminateLoci$Eliminant;" ∈ lw_g := z_mem (k := 172) rfl rfl
set_option maxRecDepth 100000 in
theorem fl_X6_36 : Cond.fieldLink RX6 36 "EliminateLoci" "finder" "LEliminateLoci$RootFinder;" ∈ lw_g := z_mem (k := 173) rfl rfl
set_option maxRecDepth 100000 in
theorem fl_X6_43 : Cond.fieldLink RX6 43 "EliminateLoci" "locus" "LEliminateLoci$Curve;" ∈ lw_g := z_mem (k := 174) rfl rfl
set_option maxRecDepth 100000 in
theorem fl_X6_47 : Cond.fieldLink RX6 47 "EliminateLoci" "envelope" "LEliminateLoci$Curve;" ∈ lw_g := z_mem (k := 175) rfl rfl
set_option maxRecDepth 100000 in
theorem fl_X6_50 : Cond.fieldLink RX6 50 "EliminateLoci" "spot" "[J" ∈ lw_g := z_mem (k := 176) rfl rfl
set_option maxRecDepth 100000 in
theorem fl_X6_54 : Cond.fieldLink RX6 54 "EliminateLoci" "freedKnown" "Z" ∈ lw_g := z_mem (k := 177) rfl rfl
set_option maxRecDepth 100000 in
theorem ml_X6_58 : Cond.methodLink RX6 58 yX6_isPart ∈ lw_g := z_mem (k := 201) rfl rfl
set_option maxRecDepth 100000 in
theorem ml_X6_62 : Cond.methodLink RX6 62 yX6_isPower ∈ lw_g := z_mem (k := 204) rfl rfl
set_option maxRecDepth 100000 in
theorem ml_X6_65 : Cond.methodLink RX6 65 yX6_isWithin ∈ lw_g := z_mem (k := 207) rfl rfl
set_option maxRecDepth 100000 in
theorem ml_X6_73 : Cond.methodLink RX6 73 yX6_forget ∈ lw_g := z_mem (k := 210) rfl rfl
set_option maxRecDepth 100000 in
theorem ml_X6_76 : Cond.methodLink RX6 76 yX5_countAndErase ∈ lw_g := z_mem (k := 218) rfl rfl
set_option maxRecDepth 100000 in
theorem ml_X6_80 : Cond.methodLink RX6 80 yX5_highestPower ∈ lw_g := z_mem (k := 226) rfl rfl
set_option maxRecDepth 100000 in
theorem ml_X6_83 : Cond.methodLink RX6 83 yX6_freeRow ∈ lw_g := z_mem (k := 230) rfl rfl
set_option maxRecDepth 100000 in
theorem ml_X6_147 : Cond.methodLink RX6 147 yX1_free ∈ lw_g := z_mem (k := 234) rfl rfl
set_option maxRecDepth 100000 in
theorem ml_X1_21 : Cond.methodLink RX1 21 yJ7_fill_d0a16 ∈ lw_g := z_mem (k := 238) rfl rfl
set_option maxRecDepth 100000 in
theorem ml_X1_39 : Cond.methodLink RX1 39 yX1_shareWithOther ∈ lw_g := z_mem (k := 244) rfl rfl
set_option maxRecDepth 100000 in
theorem ml_X1_46 : Cond.methodLink RX1 46 yX5_topOf ∈ lw_g := z_mem (k := 248) rfl rfl
set_option maxRecDepth 100000 in
theorem ml_X1_53 : Cond.methodLink RX1 53 yX1_swap ∈ lw_g := z_mem (k := 251) rfl rfl
set_option maxRecDepth 100000 in
theorem ml_X1_56 : Cond.methodLink RX1 56 yX1_lowerShared ∈ lw_g := z_mem (k := 255) rfl rfl
theorem ns_X1_60 : (RX1, 60, yX6_commonOf, "EliminateLoci") ∈ nst := by decide +kernel
set_option maxRecDepth 100000 in
theorem ml_X1_42 : Cond.methodLink RX1 42 yX1_makePrimitive ∈ lw_g := z_mem (k := 262) rfl rfl
set_option maxRecDepth 100000 in
theorem ml_X1_50 : Cond.methodLink RX1 50 yX1_divideByShared ∈ lw_g := z_mem (k := 266) rfl rfl
set_option maxRecDepth 100000 in
theorem co_X6_87 : Cond.constant RX6 87 (-1000000) ∈ lw_g := z_mem (k := 274) rfl rfl
set_option maxRecDepth 100000 in
theorem ml_X6_88 : Cond.methodLink RX6 88 yX6_isParameter ∈ lw_g := z_mem (k := 279) rfl rfl
set_option maxRecDepth 100000 in
theorem ml_X6_91 : Cond.methodLink RX6 91 yX6_moveTo ∈ lw_g := z_mem (k := 282) rfl rfl
set_option maxRecDepth 100000 in
theorem ml_X6_166 : Cond.methodLink RX6 166 yX6_powerOf ∈ lw_g := z_mem (k := 286) rfl rfl
set_option maxRecDepth 100000 in
theorem ml_X6_95 : Cond.methodLink RX6 95 yX6_commonOf ∈ lw_g := z_mem (k := 289) rfl rfl
set_option maxRecDepth 100000 in
theorem ml_X6_99 : Cond.methodLink RX6 99 yX6_isSort ∈ lw_g := z_mem (k := 294) rfl rfl
set_option maxRecDepth 100000 in
theorem ml_X6_102 : Cond.methodLink RX6 102 yX6_curveOf ∈ lw_g := z_mem (k := 297) rfl rfl
set_option maxRecDepth 100000 in
theorem ml_X6_151 : Cond.methodLink RX6 151 yX2_takeMover ∈ lw_g := z_mem (k := 301) rfl rfl
set_option maxRecDepth 100000 in
theorem ml_X2_27 : Cond.methodLink RX2 27 yX5_isZero ∈ lw_g := z_mem (k := 305) rfl rfl
set_option maxRecDepth 100000 in
theorem ml_X5_16 : Cond.methodLink RX5 16 yX5_topOf ∈ lw_g := z_mem (k := 309) rfl rfl
set_option maxRecDepth 100000 in
theorem ml_X2_33 : Cond.methodLink RX2 33 yX5_highestPower ∈ lw_g := z_mem (k := 310) rfl rfl
set_option maxRecDepth 100000 in
theorem ml_X2_41 : Cond.methodLink RX2 41 yX3_setLine ∈ lw_g := z_mem (k := 311) rfl rfl
set_option maxRecDepth 100000 in
theorem ml_X3_25 : Cond.methodLink RX3 25 yX3_erase ∈ lw_g := z_mem (k := 315) rfl rfl
set_option maxRecDepth 100000 in
theorem ml_X3_19 : Cond.methodLink RX3 19 yJ7_fill_d0a16 ∈ lw_g := z_mem (k := 319) rfl rfl
theorem ns_X3_28 : (RX3, 28, yX6_slotOf, "EliminateLoci") ∈ nst := by decide +kernel
set_option maxRecDepth 100000 in
theorem ml_X6_155 : Cond.methodLink RX6 155 yX2_takeLines ∈ lw_g := z_mem (k := 323) rfl rfl
set_option maxRecDepth 100000 in
theorem ml_X2_45 : Cond.methodLink RX2 45 yX2_setScaledLine ∈ lw_g := z_mem (k := 327) rfl rfl
set_option maxRecDepth 100000 in
theorem ml_X6_158 : Cond.methodLink RX6 158 yX2_resultant ∈ lw_g := z_mem (k := 330) rfl rfl
set_option maxRecDepth 100000 in
theorem ml_X2_49 : Cond.methodLink RX2 49 yX2_fillEntry ∈ lw_g := z_mem (k := 334) rfl rfl
set_option maxRecDepth 100000 in
theorem ml_X2_53 : Cond.methodLink RX2 53 yX3_erase ∈ lw_g := z_mem (k := 338) rfl rfl
set_option maxRecDepth 100000 in
theorem ml_X2_64 : Cond.methodLink RX2 64 yJ9_min_7cf53 ∈ lw_g := z_mem (k := 339) rfl rfl
set_option maxRecDepth 100000 in
theorem ml_X2_70 : Cond.methodLink RX2 70 yX3_addProduct ∈ lw_g := z_mem (k := 342) rfl rfl
set_option maxRecDepth 100000 in
theorem co_X2_74 : Cond.constantLong RX2 74 (-1) ∈ lw_g := z_mem (k := 346) rfl rfl
set_option maxRecDepth 100000 in
theorem ml_X2_76 : Cond.methodLink RX2 76 yX3_tighten ∈ lw_g := z_mem (k := 347) rfl rfl
set_option maxRecDepth 100000 in
theorem ml_X3_38 : Cond.methodLink RX3 38 yX3_firstOfBound ∈ lw_g := z_mem (k := 351) rfl rfl
set_option maxRecDepth 100000 in
theorem ml_X2_60 : Cond.methodLink RX2 60 yX2_fillMinor ∈ lw_g := z_mem (k := 355) rfl rfl
set_option maxRecDepth 100000 in
theorem ml_X2_79 : Cond.methodLink RX2 79 yJ6_bitCount_0f7a4 ∈ lw_g := z_mem (k := 359) rfl rfl
set_option maxRecDepth 100000 in
theorem co_J6_265 : Cond.constant RJ6 265 (1431655765) ∈ lw_g := z_mem (k := 362) rfl rfl
set_option maxRecDepth 100000 in
theorem co_J6_266 : Cond.constant RJ6 266 (858993459) ∈ lw_g := z_mem (k := 363) rfl rfl
set_option maxRecDepth 100000 in
theorem co_J6_267 : Cond.constant RJ6 267 (252645135) ∈ lw_g := z_mem (k := 364) rfl rfl
set_option maxRecDepth 100000 in
theorem ml_X6_162 : Cond.methodLink RX6 162 yX4_findRoot ∈ lw_g := z_mem (k := 365) rfl rfl
set_option maxRecDepth 100000 in
theorem ml_X4_25 : Cond.methodLink RX4 25 yX3_copy ∈ lw_g := z_mem (k := 369) rfl rfl
set_option maxRecDepth 100000 in
theorem ml_X4_29 : Cond.methodLink RX4 29 yX3_makePrimitive ∈ lw_g := z_mem (k := 374) rfl rfl
set_option maxRecDepth 100000 in
theorem ml_X3_42 : Cond.methodLink RX3 42 yX3_tighten ∈ lw_g := z_mem (k := 378) rfl rfl
theorem ns_X3_45 : (RX3, 45, yX6_commonOf, "EliminateLoci") ∈ nst := by decide +kernel
set_option maxRecDepth 100000 in
theorem ml_X4_36 : Cond.methodLink RX4 36 yX4_startRoot ∈ lw_g := z_mem (k := 380) rfl rfl
set_option maxRecDepth 100000 in
theorem ml_X4_53 : Cond.methodLink RX4 53 yX3_firstOfBound ∈ lw_g := z_mem (k := 384) rfl rfl
theorem ns_X4_61 : (RX4, 61, yX6_slotOf, "EliminateLoci") ∈ nst := by decide +kernel
theorem ns_X4_67 : (RX4, 67, yX6_rootOf, "EliminateLoci") ∈ nst := by decide +kernel
set_option maxRecDepth 100000 in
theorem ml_X6_170 : Cond.methodLink RX6 170 yX6_isPowerWithin ∈ lw_g := z_mem (k := 389) rfl rfl
set_option maxRecDepth 100000 in
theorem ml_X4_71 : Cond.methodLink RX4 71 yX3_erase ∈ lw_g := z_mem (k := 392) rfl rfl
theorem ns_X4_74 : (RX4, 74, yX6_powerOf, "EliminateLoci") ∈ nst := by decide +kernel
set_option maxRecDepth 100000 in
theorem ml_X4_40 : Cond.methodLink RX4 40 yX4_completeRoot ∈ lw_g := z_mem (k := 394) rfl rfl
set_option maxRecDepth 100000 in
theorem ml_X4_77 : Cond.methodLink RX4 77 yX3_sumOfSizes ∈ lw_g := z_mem (k := 398) rfl rfl
set_option maxRecDepth 100000 in
theorem ml_X3_49 : Cond.methodLink RX3 49 yJ9_abs_067f4 ∈ lw_g := z_mem (k := 402) rfl rfl
set_option maxRecDepth 100000 in
theorem ml_X4_81 : Cond.methodLink RX4 81 yX4_raiseRoot ∈ lw_g := z_mem (k := 405) rfl rfl
set_option maxRecDepth 100000 in
theorem ml_X4_85 : Cond.methodLink RX4 85 yX3_addProduct ∈ lw_g := z_mem (k := 409) rfl rfl
set_option maxRecDepth 100000 in
theorem ml_X4_43 : Cond.methodLink RX4 43 yX3_isSame ∈ lw_g := z_mem (k := 410) rfl rfl
set_option maxRecDepth 100000 in
theorem ml_X6_125 : Cond.methodLink RX6 125 yX6_slotOf ∈ lw_g := z_mem (k := 422) rfl rfl
set_option maxRecDepth 100000 in
theorem ml_X6_129 : Cond.methodLink RX6 129 yX6_isPlace ∈ lw_g := z_mem (k := 427) rfl rfl
set_option maxRecDepth 100000 in
theorem ml_X6_133 : Cond.methodLink RX6 133 yX3_scaledValue ∈ lw_g := z_mem (k := 430) rfl rfl
theorem ns_X3_55 : (RX3, 55, yX6_powerOf, "EliminateLoci") ∈ nst := by decide +kernel
set_option maxRecDepth 100000 in
theorem ml_X6_137 : Cond.methodLink RX6 137 yX6_slopeByU ∈ lw_g := z_mem (k := 447) rfl rfl
set_option maxRecDepth 100000 in
theorem ml_X6_141 : Cond.methodLink RX6 141 yX6_slopeByV ∈ lw_g := z_mem (k := 451) rfl rfl
set_option maxRecDepth 100000 in
theorem mc_X0_init : Cond.code yX0_init cX0_init 1 none ∈ lw_g := z_mem (k := 146) rfl rfl
theorem nd_X0_init : yX0_init.cls ≠ "java/lang/invoke/MethodHandle" ∧ yX0_init.cls ≠ "java/lang/invoke/VarHandle" ∧ (parseMethodDescriptor yX0_init.desc).map (fun d => d.parameters.length) = some 0 := by decide +kernel
set_option maxRecDepth 100000 in
theorem im_X0_init : Cond.instanceMethod yX0_init ∈ lw_g := z_mem (k := 145) rfl rfl
set_option maxRecDepth 100000 in
theorem mc_X1_init : Cond.code yX1_init cX1_init 1 none ∈ lw_g := z_mem (k := 71) rfl rfl
theorem nd_X1_init : yX1_init.cls ≠ "java/lang/invoke/MethodHandle" ∧ yX1_init.cls ≠ "java/lang/invoke/VarHandle" ∧ (parseMethodDescriptor yX1_init.desc).map (fun d => d.parameters.length) = some 0 := by decide +kernel
set_option maxRecDepth 100000 in
theorem im_X1_init : Cond.instanceMethod yX1_init ∈ lw_g := z_mem (k := 70) rfl rfl
set_option maxRecDepth 100000 in
theorem mc_X1_free : Cond.code yX1_free cX1_free 4 none ∈ lw_g := z_mem (k := 237) rfl rfl
theorem nd_X1_free : yX1_free.cls ≠ "java/lang/invoke/MethodHandle" ∧ yX1_free.cls ≠ "java/lang/invoke/VarHandle" ∧ (parseMethodDescriptor yX1_free.desc).map (fun d => d.parameters.length) = some 2 := by decide +kernel
set_option maxRecDepth 100000 in
theorem im_X1_free : Cond.instanceMethod yX1_free ∈ lw_g := z_mem (k := 235) rfl rfl
set_option maxRecDepth 100000 in
theorem se_X1_free : Cond.selects RX1 yX1_free yX1_free ∈ lw_g := z_mem (k := 236) rfl rfl
set_option maxRecDepth 100000 in
theorem mc_X1_shareWithOther : Cond.code yX1_shareWithOther cX1_shareWithOther 4 none ∈ lw_g := z_mem (k := 247) rfl rfl
theorem nd_X1_shareWithOther : yX1_shareWithOther.cls ≠ "java/lang/invoke/MethodHandle" ∧ yX1_shareWithOther.cls ≠ "java/lang/invoke/VarHandle" ∧ (parseMethodDescriptor yX1_shareWithOther.desc).map (fun d => d.parameters.length) = some 0 := by decide +kernel
set_option maxRecDepth 100000 in
theorem im_X1_shareWithOther : Cond.instanceMethod yX1_shareWithOther ∈ lw_g := z_mem (k := 246) rfl rfl
set_option maxRecDepth 100000 in
theorem se_X1_shareWithOther : Cond.selects RX1 yX1_shareWithOther yX1_shareWithOther ∈ lw_g := z_mem (k := 2) rfl rfl
set_option maxRecDepth 100000 in
theorem mc_X1_swap : Cond.code yX1_swap cX1_swap 1 none ∈ lw_g := z_mem (k := 254) rfl rfl
theorem nd_X1_swap : yX1_swap.cls ≠ "java/lang/invoke/MethodHandle" ∧ yX1_swap.cls ≠ "java/lang/invoke/VarHandle" ∧ (parseMethodDescriptor yX1_swap.desc).map (fun d => d.parameters.length) = some 0 := by decide +kernel
set_option maxRecDepth 100000 in
theorem im_X1_swap : Cond.instanceMethod yX1_swap ∈ lw_g := z_mem (k := 253) rfl rfl
set_option maxRecDepth 100000 in
theorem se_X1_swap : Cond.selects RX1 yX1_swap yX1_swap ∈ lw_g := z_mem (k := 3) rfl rfl
set_option maxRecDepth 100000 in
theorem mc_X1_lowerShared : Cond.code yX1_lowerShared cX1_lowerShared 13 none ∈ lw_g := z_mem (k := 258) rfl rfl
theorem nd_X1_lowerShared : yX1_lowerShared.cls ≠ "java/lang/invoke/MethodHandle" ∧ yX1_lowerShared.cls ≠ "java/lang/invoke/VarHandle" ∧ (parseMethodDescriptor yX1_lowerShared.desc).map (fun d => d.parameters.length) = some 2 := by decide +kernel
set_option maxRecDepth 100000 in
theorem im_X1_lowerShared : Cond.instanceMethod yX1_lowerShared ∈ lw_g := z_mem (k := 257) rfl rfl
set_option maxRecDepth 100000 in
theorem se_X1_lowerShared : Cond.selects RX1 yX1_lowerShared yX1_lowerShared ∈ lw_g := z_mem (k := 4) rfl rfl
set_option maxRecDepth 100000 in
theorem mc_X1_makePrimitive : Cond.code yX1_makePrimitive cX1_makePrimitive 6 none ∈ lw_g := z_mem (k := 265) rfl rfl
theorem nd_X1_makePrimitive : yX1_makePrimitive.cls ≠ "java/lang/invoke/MethodHandle" ∧ yX1_makePrimitive.cls ≠ "java/lang/invoke/VarHandle" ∧ (parseMethodDescriptor yX1_makePrimitive.desc).map (fun d => d.parameters.length) = some 1 := by decide +kernel
set_option maxRecDepth 100000 in
theorem im_X1_makePrimitive : Cond.instanceMethod yX1_makePrimitive ∈ lw_g := z_mem (k := 264) rfl rfl
set_option maxRecDepth 100000 in
theorem se_X1_makePrimitive : Cond.selects RX1 yX1_makePrimitive yX1_makePrimitive ∈ lw_g := z_mem (k := 5) rfl rfl
set_option maxRecDepth 100000 in
theorem mc_X1_divideByShared : Cond.code yX1_divideByShared cX1_divideByShared 7 none ∈ lw_g := z_mem (k := 269) rfl rfl
theorem nd_X1_divideByShared : yX1_divideByShared.cls ≠ "java/lang/invoke/MethodHandle" ∧ yX1_divideByShared.cls ≠ "java/lang/invoke/VarHandle" ∧ (parseMethodDescriptor yX1_divideByShared.desc).map (fun d => d.parameters.length) = some 1 := by decide +kernel
set_option maxRecDepth 100000 in
theorem im_X1_divideByShared : Cond.instanceMethod yX1_divideByShared ∈ lw_g := z_mem (k := 268) rfl rfl
set_option maxRecDepth 100000 in
theorem se_X1_divideByShared : Cond.selects RX1 yX1_divideByShared yX1_divideByShared ∈ lw_g := z_mem (k := 6) rfl rfl
set_option maxRecDepth 100000 in
theorem mc_X2_init : Cond.code yX2_init cX2_init 4 none ∈ lw_g := z_mem (k := 87) rfl rfl
theorem nd_X2_init : yX2_init.cls ≠ "java/lang/invoke/MethodHandle" ∧ yX2_init.cls ≠ "java/lang/invoke/VarHandle" ∧ (parseMethodDescriptor yX2_init.desc).map (fun d => d.parameters.length) = some 0 := by decide +kernel
set_option maxRecDepth 100000 in
theorem im_X2_init : Cond.instanceMethod yX2_init ∈ lw_g := z_mem (k := 86) rfl rfl
set_option maxRecDepth 100000 in
theorem mc_X2_takeMover : Cond.code yX2_takeMover cX2_takeMover 4 (some .int) ∈ lw_g := z_mem (k := 304) rfl rfl
theorem nd_X2_takeMover : yX2_takeMover.cls ≠ "java/lang/invoke/MethodHandle" ∧ yX2_takeMover.cls ≠ "java/lang/invoke/VarHandle" ∧ (parseMethodDescriptor yX2_takeMover.desc).map (fun d => d.parameters.length) = some 1 := by decide +kernel
set_option maxRecDepth 100000 in
theorem im_X2_takeMover : Cond.instanceMethod yX2_takeMover ∈ lw_g := z_mem (k := 302) rfl rfl
set_option maxRecDepth 100000 in
theorem se_X2_takeMover : Cond.selects RX2 yX2_takeMover yX2_takeMover ∈ lw_g := z_mem (k := 303) rfl rfl
set_option maxRecDepth 100000 in
theorem mc_X2_takeLines : Cond.code yX2_takeLines cX2_takeLines 4 (some .int) ∈ lw_g := z_mem (k := 326) rfl rfl
theorem nd_X2_takeLines : yX2_takeLines.cls ≠ "java/lang/invoke/MethodHandle" ∧ yX2_takeLines.cls ≠ "java/lang/invoke/VarHandle" ∧ (parseMethodDescriptor yX2_takeLines.desc).map (fun d => d.parameters.length) = some 1 := by decide +kernel
set_option maxRecDepth 100000 in
theorem im_X2_takeLines : Cond.instanceMethod yX2_takeLines ∈ lw_g := z_mem (k := 324) rfl rfl
set_option maxRecDepth 100000 in
theorem se_X2_takeLines : Cond.selects RX2 yX2_takeLines yX2_takeLines ∈ lw_g := z_mem (k := 325) rfl rfl
set_option maxRecDepth 100000 in
theorem mc_X2_setScaledLine : Cond.code yX2_setScaledLine cX2_setScaledLine 5 none ∈ lw_g := z_mem (k := 329) rfl rfl
theorem nd_X2_setScaledLine : yX2_setScaledLine.cls ≠ "java/lang/invoke/MethodHandle" ∧ yX2_setScaledLine.cls ≠ "java/lang/invoke/VarHandle" ∧ (parseMethodDescriptor yX2_setScaledLine.desc).map (fun d => d.parameters.length) = some 4 := by decide +kernel
set_option maxRecDepth 100000 in
theorem st_X2_setScaledLine : Cond.static yX2_setScaledLine ∈ lw_g := z_mem (k := 328) rfl rfl
set_option maxRecDepth 100000 in
theorem mc_X2_resultant : Cond.code yX2_resultant cX2_resultant 4 (some (.object "EliminateLoci$Plane")) ∈ lw_g := z_mem (k := 333) rfl rfl
theorem nd_X2_resultant : yX2_resultant.cls ≠ "java/lang/invoke/MethodHandle" ∧ yX2_resultant.cls ≠ "java/lang/invoke/VarHandle" ∧ (parseMethodDescriptor yX2_resultant.desc).map (fun d => d.parameters.length) = some 1 := by decide +kernel
set_option maxRecDepth 100000 in
theorem im_X2_resultant : Cond.instanceMethod yX2_resultant ∈ lw_g := z_mem (k := 331) rfl rfl
set_option maxRecDepth 100000 in
theorem se_X2_resultant : Cond.selects RX2 yX2_resultant yX2_resultant ∈ lw_g := z_mem (k := 332) rfl rfl
set_option maxRecDepth 100000 in
theorem mc_X2_fillEntry : Cond.code yX2_fillEntry cX2_fillEntry 7 none ∈ lw_g := z_mem (k := 337) rfl rfl
theorem nd_X2_fillEntry : yX2_fillEntry.cls ≠ "java/lang/invoke/MethodHandle" ∧ yX2_fillEntry.cls ≠ "java/lang/invoke/VarHandle" ∧ (parseMethodDescriptor yX2_fillEntry.desc).map (fun d => d.parameters.length) = some 3 := by decide +kernel
set_option maxRecDepth 100000 in
theorem im_X2_fillEntry : Cond.instanceMethod yX2_fillEntry ∈ lw_g := z_mem (k := 336) rfl rfl
set_option maxRecDepth 100000 in
theorem se_X2_fillEntry : Cond.selects RX2 yX2_fillEntry yX2_fillEntry ∈ lw_g := z_mem (k := 9) rfl rfl
set_option maxRecDepth 100000 in
theorem mc_X2_fillMinor : Cond.code yX2_fillMinor cX2_fillMinor 7 none ∈ lw_g := z_mem (k := 358) rfl rfl
theorem nd_X2_fillMinor : yX2_fillMinor.cls ≠ "java/lang/invoke/MethodHandle" ∧ yX2_fillMinor.cls ≠ "java/lang/invoke/VarHandle" ∧ (parseMethodDescriptor yX2_fillMinor.desc).map (fun d => d.parameters.length) = some 2 := by decide +kernel
set_option maxRecDepth 100000 in
theorem im_X2_fillMinor : Cond.instanceMethod yX2_fillMinor ∈ lw_g := z_mem (k := 357) rfl rfl
set_option maxRecDepth 100000 in
theorem se_X2_fillMinor : Cond.selects RX2 yX2_fillMinor yX2_fillMinor ∈ lw_g := z_mem (k := 10) rfl rfl
set_option maxRecDepth 100000 in
theorem mc_X3_init : Cond.code yX3_init cX3_init 1 none ∈ lw_g := z_mem (k := 94) rfl rfl
theorem nd_X3_init : yX3_init.cls ≠ "java/lang/invoke/MethodHandle" ∧ yX3_init.cls ≠ "java/lang/invoke/VarHandle" ∧ (parseMethodDescriptor yX3_init.desc).map (fun d => d.parameters.length) = some 0 := by decide +kernel
set_option maxRecDepth 100000 in
theorem im_X3_init : Cond.instanceMethod yX3_init ∈ lw_g := z_mem (k := 93) rfl rfl
set_option maxRecDepth 100000 in
theorem mc_X3_erase : Cond.code yX3_erase cX3_erase 1 none ∈ lw_g := z_mem (k := 318) rfl rfl
theorem nd_X3_erase : yX3_erase.cls ≠ "java/lang/invoke/MethodHandle" ∧ yX3_erase.cls ≠ "java/lang/invoke/VarHandle" ∧ (parseMethodDescriptor yX3_erase.desc).map (fun d => d.parameters.length) = some 0 := by decide +kernel
set_option maxRecDepth 100000 in
theorem im_X3_erase : Cond.instanceMethod yX3_erase ∈ lw_g := z_mem (k := 316) rfl rfl
set_option maxRecDepth 100000 in
theorem se_X3_erase : Cond.selects RX3 yX3_erase yX3_erase ∈ lw_g := z_mem (k := 317) rfl rfl
set_option maxRecDepth 100000 in
theorem mc_X3_setLine : Cond.code yX3_setLine cX3_setLine 7 none ∈ lw_g := z_mem (k := 314) rfl rfl
theorem nd_X3_setLine : yX3_setLine.cls ≠ "java/lang/invoke/MethodHandle" ∧ yX3_setLine.cls ≠ "java/lang/invoke/VarHandle" ∧ (parseMethodDescriptor yX3_setLine.desc).map (fun d => d.parameters.length) = some 3 := by decide +kernel
set_option maxRecDepth 100000 in
theorem im_X3_setLine : Cond.instanceMethod yX3_setLine ∈ lw_g := z_mem (k := 312) rfl rfl
set_option maxRecDepth 100000 in
theorem se_X3_setLine : Cond.selects RX3 yX3_setLine yX3_setLine ∈ lw_g := z_mem (k := 313) rfl rfl
set_option maxRecDepth 100000 in
theorem mc_X3_copy : Cond.code yX3_copy cX3_copy 2 none ∈ lw_g := z_mem (k := 372) rfl rfl
theorem nd_X3_copy : yX3_copy.cls ≠ "java/lang/invoke/MethodHandle" ∧ yX3_copy.cls ≠ "java/lang/invoke/VarHandle" ∧ (parseMethodDescriptor yX3_copy.desc).map (fun d => d.parameters.length) = some 1 := by decide +kernel
set_option maxRecDepth 100000 in
theorem im_X3_copy : Cond.instanceMethod yX3_copy ∈ lw_g := z_mem (k := 370) rfl rfl
set_option maxRecDepth 100000 in
theorem se_X3_copy : Cond.selects RX3 yX3_copy yX3_copy ∈ lw_g := z_mem (k := 371) rfl rfl
set_option maxRecDepth 100000 in
theorem mc_X3_addProduct : Cond.code yX3_addProduct cX3_addProduct 15 none ∈ lw_g := z_mem (k := 345) rfl rfl
theorem nd_X3_addProduct : yX3_addProduct.cls ≠ "java/lang/invoke/MethodHandle" ∧ yX3_addProduct.cls ≠ "java/lang/invoke/VarHandle" ∧ (parseMethodDescriptor yX3_addProduct.desc).map (fun d => d.parameters.length) = some 3 := by decide +kernel
set_option maxRecDepth 100000 in
theorem im_X3_addProduct : Cond.instanceMethod yX3_addProduct ∈ lw_g := z_mem (k := 343) rfl rfl
set_option maxRecDepth 100000 in
theorem se_X3_addProduct : Cond.selects RX3 yX3_addProduct yX3_addProduct ∈ lw_g := z_mem (k := 344) rfl rfl
set_option maxRecDepth 100000 in
theorem mc_X3_tighten : Cond.code yX3_tighten cX3_tighten 1 none ∈ lw_g := z_mem (k := 350) rfl rfl
theorem nd_X3_tighten : yX3_tighten.cls ≠ "java/lang/invoke/MethodHandle" ∧ yX3_tighten.cls ≠ "java/lang/invoke/VarHandle" ∧ (parseMethodDescriptor yX3_tighten.desc).map (fun d => d.parameters.length) = some 0 := by decide +kernel
set_option maxRecDepth 100000 in
theorem im_X3_tighten : Cond.instanceMethod yX3_tighten ∈ lw_g := z_mem (k := 348) rfl rfl
set_option maxRecDepth 100000 in
theorem se_X3_tighten : Cond.selects RX3 yX3_tighten yX3_tighten ∈ lw_g := z_mem (k := 349) rfl rfl
set_option maxRecDepth 100000 in
theorem mc_X3_firstOfBound : Cond.code yX3_firstOfBound cX3_firstOfBound 2 (some .int) ∈ lw_g := z_mem (k := 354) rfl rfl
theorem nd_X3_firstOfBound : yX3_firstOfBound.cls ≠ "java/lang/invoke/MethodHandle" ∧ yX3_firstOfBound.cls ≠ "java/lang/invoke/VarHandle" ∧ (parseMethodDescriptor yX3_firstOfBound.desc).map (fun d => d.parameters.length) = some 0 := by decide +kernel
set_option maxRecDepth 100000 in
theorem im_X3_firstOfBound : Cond.instanceMethod yX3_firstOfBound ∈ lw_g := z_mem (k := 352) rfl rfl
set_option maxRecDepth 100000 in
theorem se_X3_firstOfBound : Cond.selects RX3 yX3_firstOfBound yX3_firstOfBound ∈ lw_g := z_mem (k := 353) rfl rfl
set_option maxRecDepth 100000 in
theorem mc_X3_makePrimitive : Cond.code yX3_makePrimitive cX3_makePrimitive 5 none ∈ lw_g := z_mem (k := 377) rfl rfl
theorem nd_X3_makePrimitive : yX3_makePrimitive.cls ≠ "java/lang/invoke/MethodHandle" ∧ yX3_makePrimitive.cls ≠ "java/lang/invoke/VarHandle" ∧ (parseMethodDescriptor yX3_makePrimitive.desc).map (fun d => d.parameters.length) = some 0 := by decide +kernel
set_option maxRecDepth 100000 in
theorem im_X3_makePrimitive : Cond.instanceMethod yX3_makePrimitive ∈ lw_g := z_mem (k := 375) rfl rfl
set_option maxRecDepth 100000 in
theorem se_X3_makePrimitive : Cond.selects RX3 yX3_makePrimitive yX3_makePrimitive ∈ lw_g := z_mem (k := 376) rfl rfl
set_option maxRecDepth 100000 in
theorem mc_X3_sumOfSizes : Cond.code yX3_sumOfSizes cX3_sumOfSizes 4 (some .long) ∈ lw_g := z_mem (k := 401) rfl rfl
theorem nd_X3_sumOfSizes : yX3_sumOfSizes.cls ≠ "java/lang/invoke/MethodHandle" ∧ yX3_sumOfSizes.cls ≠ "java/lang/invoke/VarHandle" ∧ (parseMethodDescriptor yX3_sumOfSizes.desc).map (fun d => d.parameters.length) = some 0 := by decide +kernel
set_option maxRecDepth 100000 in
theorem im_X3_sumOfSizes : Cond.instanceMethod yX3_sumOfSizes ∈ lw_g := z_mem (k := 399) rfl rfl
set_option maxRecDepth 100000 in
theorem se_X3_sumOfSizes : Cond.selects RX3 yX3_sumOfSizes yX3_sumOfSizes ∈ lw_g := z_mem (k := 400) rfl rfl
set_option maxRecDepth 100000 in
theorem mc_X3_isSame : Cond.code yX3_isSame cX3_isSame 3 (some .boolean) ∈ lw_g := z_mem (k := 413) rfl rfl
theorem nd_X3_isSame : yX3_isSame.cls ≠ "java/lang/invoke/MethodHandle" ∧ yX3_isSame.cls ≠ "java/lang/invoke/VarHandle" ∧ (parseMethodDescriptor yX3_isSame.desc).map (fun d => d.parameters.length) = some 1 := by decide +kernel
set_option maxRecDepth 100000 in
theorem im_X3_isSame : Cond.instanceMethod yX3_isSame ∈ lw_g := z_mem (k := 411) rfl rfl
set_option maxRecDepth 100000 in
theorem se_X3_isSame : Cond.selects RX3 yX3_isSame yX3_isSame ∈ lw_g := z_mem (k := 412) rfl rfl
set_option maxRecDepth 100000 in
theorem mc_X3_scaledValue : Cond.code yX3_scaledValue cX3_scaledValue 15 (some .long) ∈ lw_g := z_mem (k := 433) rfl rfl
theorem nd_X3_scaledValue : yX3_scaledValue.cls ≠ "java/lang/invoke/MethodHandle" ∧ yX3_scaledValue.cls ≠ "java/lang/invoke/VarHandle" ∧ (parseMethodDescriptor yX3_scaledValue.desc).map (fun d => d.parameters.length) = some 3 := by decide +kernel
set_option maxRecDepth 100000 in
theorem im_X3_scaledValue : Cond.instanceMethod yX3_scaledValue ∈ lw_g := z_mem (k := 431) rfl rfl
set_option maxRecDepth 100000 in
theorem se_X3_scaledValue : Cond.selects RX3 yX3_scaledValue yX3_scaledValue ∈ lw_g := z_mem (k := 432) rfl rfl
set_option maxRecDepth 100000 in
theorem mc_X4_init : Cond.code yX4_init cX4_init 1 none ∈ lw_g := z_mem (k := 125) rfl rfl
theorem nd_X4_init : yX4_init.cls ≠ "java/lang/invoke/MethodHandle" ∧ yX4_init.cls ≠ "java/lang/invoke/VarHandle" ∧ (parseMethodDescriptor yX4_init.desc).map (fun d => d.parameters.length) = some 0 := by decide +kernel
set_option maxRecDepth 100000 in
theorem im_X4_init : Cond.instanceMethod yX4_init ∈ lw_g := z_mem (k := 124) rfl rfl
set_option maxRecDepth 100000 in
theorem mc_X4_findRoot : Cond.code yX4_findRoot cX4_findRoot 4 (some .boolean) ∈ lw_g := z_mem (k := 368) rfl rfl
theorem nd_X4_findRoot : yX4_findRoot.cls ≠ "java/lang/invoke/MethodHandle" ∧ yX4_findRoot.cls ≠ "java/lang/invoke/VarHandle" ∧ (parseMethodDescriptor yX4_findRoot.desc).map (fun d => d.parameters.length) = some 2 := by decide +kernel
set_option maxRecDepth 100000 in
theorem im_X4_findRoot : Cond.instanceMethod yX4_findRoot ∈ lw_g := z_mem (k := 366) rfl rfl
set_option maxRecDepth 100000 in
theorem se_X4_findRoot : Cond.selects RX4 yX4_findRoot yX4_findRoot ∈ lw_g := z_mem (k := 367) rfl rfl
set_option maxRecDepth 100000 in
theorem mc_X4_startRoot : Cond.code yX4_startRoot cX4_startRoot 7 (some .boolean) ∈ lw_g := z_mem (k := 383) rfl rfl
theorem nd_X4_startRoot : yX4_startRoot.cls ≠ "java/lang/invoke/MethodHandle" ∧ yX4_startRoot.cls ≠ "java/lang/invoke/VarHandle" ∧ (parseMethodDescriptor yX4_startRoot.desc).map (fun d => d.parameters.length) = some 1 := by decide +kernel
set_option maxRecDepth 100000 in
theorem im_X4_startRoot : Cond.instanceMethod yX4_startRoot ∈ lw_g := z_mem (k := 382) rfl rfl
set_option maxRecDepth 100000 in
theorem se_X4_startRoot : Cond.selects RX4 yX4_startRoot yX4_startRoot ∈ lw_g := z_mem (k := 11) rfl rfl
set_option maxRecDepth 100000 in
theorem mc_X4_completeRoot : Cond.code yX4_completeRoot cX4_completeRoot 14 (some .boolean) ∈ lw_g := z_mem (k := 397) rfl rfl
theorem nd_X4_completeRoot : yX4_completeRoot.cls ≠ "java/lang/invoke/MethodHandle" ∧ yX4_completeRoot.cls ≠ "java/lang/invoke/VarHandle" ∧ (parseMethodDescriptor yX4_completeRoot.desc).map (fun d => d.parameters.length) = some 1 := by decide +kernel
set_option maxRecDepth 100000 in
theorem im_X4_completeRoot : Cond.instanceMethod yX4_completeRoot ∈ lw_g := z_mem (k := 396) rfl rfl
set_option maxRecDepth 100000 in
theorem se_X4_completeRoot : Cond.selects RX4 yX4_completeRoot yX4_completeRoot ∈ lw_g := z_mem (k := 12) rfl rfl
set_option maxRecDepth 100000 in
theorem mc_X4_raiseRoot : Cond.code yX4_raiseRoot cX4_raiseRoot 3 none ∈ lw_g := z_mem (k := 408) rfl rfl
theorem nd_X4_raiseRoot : yX4_raiseRoot.cls ≠ "java/lang/invoke/MethodHandle" ∧ yX4_raiseRoot.cls ≠ "java/lang/invoke/VarHandle" ∧ (parseMethodDescriptor yX4_raiseRoot.desc).map (fun d => d.parameters.length) = some 1 := by decide +kernel
set_option maxRecDepth 100000 in
theorem im_X4_raiseRoot : Cond.instanceMethod yX4_raiseRoot ∈ lw_g := z_mem (k := 407) rfl rfl
set_option maxRecDepth 100000 in
theorem se_X4_raiseRoot : Cond.selects RX4 yX4_raiseRoot yX4_raiseRoot ∈ lw_g := z_mem (k := 13) rfl rfl
set_option maxRecDepth 100000 in
theorem mc_X5_init : Cond.code yX5_init cX5_init 1 none ∈ lw_g := z_mem (k := 55) rfl rfl
theorem nd_X5_init : yX5_init.cls ≠ "java/lang/invoke/MethodHandle" ∧ yX5_init.cls ≠ "java/lang/invoke/VarHandle" ∧ (parseMethodDescriptor yX5_init.desc).map (fun d => d.parameters.length) = some 0 := by decide +kernel
set_option maxRecDepth 100000 in
theorem im_X5_init : Cond.instanceMethod yX5_init ∈ lw_g := z_mem (k := 54) rfl rfl
set_option maxRecDepth 100000 in
theorem mc_X5_highestPower : Cond.code yX5_highestPower cX5_highestPower 2 (some .int) ∈ lw_g := z_mem (k := 229) rfl rfl
theorem nd_X5_highestPower : yX5_highestPower.cls ≠ "java/lang/invoke/MethodHandle" ∧ yX5_highestPower.cls ≠ "java/lang/invoke/VarHandle" ∧ (parseMethodDescriptor yX5_highestPower.desc).map (fun d => d.parameters.length) = some 0 := by decide +kernel
set_option maxRecDepth 100000 in
theorem im_X5_highestPower : Cond.instanceMethod yX5_highestPower ∈ lw_g := z_mem (k := 227) rfl rfl
set_option maxRecDepth 100000 in
theorem se_X5_highestPower : Cond.selects RX5 yX5_highestPower yX5_highestPower ∈ lw_g := z_mem (k := 228) rfl rfl
set_option maxRecDepth 100000 in
theorem mc_X5_isZero : Cond.code yX5_isZero cX5_isZero 2 (some .boolean) ∈ lw_g := z_mem (k := 308) rfl rfl
theorem nd_X5_isZero : yX5_isZero.cls ≠ "java/lang/invoke/MethodHandle" ∧ yX5_isZero.cls ≠ "java/lang/invoke/VarHandle" ∧ (parseMethodDescriptor yX5_isZero.desc).map (fun d => d.parameters.length) = some 1 := by decide +kernel
set_option maxRecDepth 100000 in
theorem im_X5_isZero : Cond.instanceMethod yX5_isZero ∈ lw_g := z_mem (k := 306) rfl rfl
set_option maxRecDepth 100000 in
theorem se_X5_isZero : Cond.selects RX5 yX5_isZero yX5_isZero ∈ lw_g := z_mem (k := 307) rfl rfl
set_option maxRecDepth 100000 in
theorem mc_X5_countAndErase : Cond.code yX5_countAndErase cX5_countAndErase 4 (some .int) ∈ lw_g := z_mem (k := 221) rfl rfl
theorem nd_X5_countAndErase : yX5_countAndErase.cls ≠ "java/lang/invoke/MethodHandle" ∧ yX5_countAndErase.cls ≠ "java/lang/invoke/VarHandle" ∧ (parseMethodDescriptor yX5_countAndErase.desc).map (fun d => d.parameters.length) = some 0 := by decide +kernel
set_option maxRecDepth 100000 in
theorem im_X5_countAndErase : Cond.instanceMethod yX5_countAndErase ∈ lw_g := z_mem (k := 219) rfl rfl
set_option maxRecDepth 100000 in
theorem se_X5_countAndErase : Cond.selects RX5 yX5_countAndErase yX5_countAndErase ∈ lw_g := z_mem (k := 220) rfl rfl
set_option maxRecDepth 100000 in
theorem mc_X5_topOf : Cond.code yX5_topOf cX5_topOf 2 (some .int) ∈ lw_g := z_mem (k := 250) rfl rfl
theorem nd_X5_topOf : yX5_topOf.cls ≠ "java/lang/invoke/MethodHandle" ∧ yX5_topOf.cls ≠ "java/lang/invoke/VarHandle" ∧ (parseMethodDescriptor yX5_topOf.desc).map (fun d => d.parameters.length) = some 1 := by decide +kernel
set_option maxRecDepth 100000 in
theorem st_X5_topOf : Cond.static yX5_topOf ∈ lw_g := z_mem (k := 249) rfl rfl
set_option maxRecDepth 100000 in
theorem mc_X6_init : Cond.code yX6_init cX6_init 1 none ∈ lw_g := z_mem (k := 47) rfl rfl
theorem nd_X6_init : yX6_init.cls ≠ "java/lang/invoke/MethodHandle" ∧ yX6_init.cls ≠ "java/lang/invoke/VarHandle" ∧ (parseMethodDescriptor yX6_init.desc).map (fun d => d.parameters.length) = some 0 := by decide +kernel
set_option maxRecDepth 100000 in
theorem im_X6_init : Cond.instanceMethod yX6_init ∈ lw_g := z_mem (k := 46) rfl rfl
set_option maxRecDepth 100000 in
theorem mc_X6_term : Cond.code yX6_term cX6_term 5 (some .int) ∈ lw_g := z_mem (k := 200) rfl rfl
theorem nd_X6_term : yX6_term.cls ≠ "java/lang/invoke/MethodHandle" ∧ yX6_term.cls ≠ "java/lang/invoke/VarHandle" ∧ (parseMethodDescriptor yX6_term.desc).map (fun d => d.parameters.length) = some 3 := by decide +kernel
set_option maxRecDepth 100000 in
theorem im_X6_term : Cond.instanceMethod yX6_term ∈ lw_g := z_mem (k := 198) rfl rfl
set_option maxRecDepth 100000 in
theorem se_X6_term : Cond.selects RX6 yX6_term yX6_term ∈ lw_g := z_mem (k := 199) rfl rfl
set_option maxRecDepth 100000 in
theorem mc_X6_clear : Cond.code yX6_clear cX6_clear 2 (some .int) ∈ lw_g := z_mem (k := 217) rfl rfl
theorem nd_X6_clear : yX6_clear.cls ≠ "java/lang/invoke/MethodHandle" ∧ yX6_clear.cls ≠ "java/lang/invoke/VarHandle" ∧ (parseMethodDescriptor yX6_clear.desc).map (fun d => d.parameters.length) = some 0 := by decide +kernel
set_option maxRecDepth 100000 in
theorem im_X6_clear : Cond.instanceMethod yX6_clear ∈ lw_g := z_mem (k := 215) rfl rfl
set_option maxRecDepth 100000 in
theorem se_X6_clear : Cond.selects RX6 yX6_clear yX6_clear ∈ lw_g := z_mem (k := 216) rfl rfl
set_option maxRecDepth 100000 in
theorem mc_X6_degree : Cond.code yX6_degree cX6_degree 4 (some .int) ∈ lw_g := z_mem (k := 225) rfl rfl
theorem nd_X6_degree : yX6_degree.cls ≠ "java/lang/invoke/MethodHandle" ∧ yX6_degree.cls ≠ "java/lang/invoke/VarHandle" ∧ (parseMethodDescriptor yX6_degree.desc).map (fun d => d.parameters.length) = some 1 := by decide +kernel
set_option maxRecDepth 100000 in
theorem im_X6_degree : Cond.instanceMethod yX6_degree ∈ lw_g := z_mem (k := 223) rfl rfl
set_option maxRecDepth 100000 in
theorem se_X6_degree : Cond.selects RX6 yX6_degree yX6_degree ∈ lw_g := z_mem (k := 224) rfl rfl
set_option maxRecDepth 100000 in
theorem mc_X6_freed : Cond.code yX6_freed cX6_freed 3 (some .int) ∈ lw_g := z_mem (k := 273) rfl rfl
theorem nd_X6_freed : yX6_freed.cls ≠ "java/lang/invoke/MethodHandle" ∧ yX6_freed.cls ≠ "java/lang/invoke/VarHandle" ∧ (parseMethodDescriptor yX6_freed.desc).map (fun d => d.parameters.length) = some 2 := by decide +kernel
set_option maxRecDepth 100000 in
theorem im_X6_freed : Cond.instanceMethod yX6_freed ∈ lw_g := z_mem (k := 271) rfl rfl
set_option maxRecDepth 100000 in
theorem se_X6_freed : Cond.selects RX6 yX6_freed yX6_freed ∈ lw_g := z_mem (k := 272) rfl rfl
set_option maxRecDepth 100000 in
theorem mc_X6_value : Cond.code yX6_value cX6_value 6 (some .int) ∈ lw_g := z_mem (k := 278) rfl rfl
theorem nd_X6_value : yX6_value.cls ≠ "java/lang/invoke/MethodHandle" ∧ yX6_value.cls ≠ "java/lang/invoke/VarHandle" ∧ (parseMethodDescriptor yX6_value.desc).map (fun d => d.parameters.length) = some 3 := by decide +kernel
set_option maxRecDepth 100000 in
theorem im_X6_value : Cond.instanceMethod yX6_value ∈ lw_g := z_mem (k := 276) rfl rfl
set_option maxRecDepth 100000 in
theorem se_X6_value : Cond.selects RX6 yX6_value yX6_value ∈ lw_g := z_mem (k := 277) rfl rfl
set_option maxRecDepth 100000 in
theorem mc_X6_trace : Cond.code yX6_trace cX6_trace 3 (some .int) ∈ lw_g := z_mem (k := 293) rfl rfl
theorem nd_X6_trace : yX6_trace.cls ≠ "java/lang/invoke/MethodHandle" ∧ yX6_trace.cls ≠ "java/lang/invoke/VarHandle" ∧ (parseMethodDescriptor yX6_trace.desc).map (fun d => d.parameters.length) = some 1 := by decide +kernel
set_option maxRecDepth 100000 in
theorem im_X6_trace : Cond.instanceMethod yX6_trace ∈ lw_g := z_mem (k := 291) rfl rfl
set_option maxRecDepth 100000 in
theorem se_X6_trace : Cond.selects RX6 yX6_trace yX6_trace ∈ lw_g := z_mem (k := 292) rfl rfl
set_option maxRecDepth 100000 in
theorem mc_X6_times : Cond.code yX6_times cX6_times 3 (some .int) ∈ lw_g := z_mem (k := 417) rfl rfl
theorem nd_X6_times : yX6_times.cls ≠ "java/lang/invoke/MethodHandle" ∧ yX6_times.cls ≠ "java/lang/invoke/VarHandle" ∧ (parseMethodDescriptor yX6_times.desc).map (fun d => d.parameters.length) = some 1 := by decide +kernel
set_option maxRecDepth 100000 in
theorem im_X6_times : Cond.instanceMethod yX6_times ∈ lw_g := z_mem (k := 415) rfl rfl
set_option maxRecDepth 100000 in
theorem se_X6_times : Cond.selects RX6 yX6_times yX6_times ∈ lw_g := z_mem (k := 416) rfl rfl
set_option maxRecDepth 100000 in
theorem mc_X6_coefficient : Cond.code yX6_coefficient cX6_coefficient 5 (some .long) ∈ lw_g := z_mem (k := 421) rfl rfl
theorem nd_X6_coefficient : yX6_coefficient.cls ≠ "java/lang/invoke/MethodHandle" ∧ yX6_coefficient.cls ≠ "java/lang/invoke/VarHandle" ∧ (parseMethodDescriptor yX6_coefficient.desc).map (fun d => d.parameters.length) = some 3 := by decide +kernel
set_option maxRecDepth 100000 in
theorem im_X6_coefficient : Cond.instanceMethod yX6_coefficient ∈ lw_g := z_mem (k := 419) rfl rfl
set_option maxRecDepth 100000 in
theorem se_X6_coefficient : Cond.selects RX6 yX6_coefficient yX6_coefficient ∈ lw_g := z_mem (k := 420) rfl rfl
set_option maxRecDepth 100000 in
theorem mc_X6_side : Cond.code yX6_side cX6_side 8 (some .int) ∈ lw_g := z_mem (k := 426) rfl rfl
theorem nd_X6_side : yX6_side.cls ≠ "java/lang/invoke/MethodHandle" ∧ yX6_side.cls ≠ "java/lang/invoke/VarHandle" ∧ (parseMethodDescriptor yX6_side.desc).map (fun d => d.parameters.length) = some 4 := by decide +kernel
set_option maxRecDepth 100000 in
theorem im_X6_side : Cond.instanceMethod yX6_side ∈ lw_g := z_mem (k := 424) rfl rfl
set_option maxRecDepth 100000 in
theorem se_X6_side : Cond.selects RX6 yX6_side yX6_side ∈ lw_g := z_mem (k := 425) rfl rfl
set_option maxRecDepth 100000 in
theorem mc_X6_at : Cond.code yX6_at cX6_at 7 (some .int) ∈ lw_g := z_mem (k := 438) rfl rfl
theorem nd_X6_at : yX6_at.cls ≠ "java/lang/invoke/MethodHandle" ∧ yX6_at.cls ≠ "java/lang/invoke/VarHandle" ∧ (parseMethodDescriptor yX6_at.desc).map (fun d => d.parameters.length) = some 5 := by decide +kernel
set_option maxRecDepth 100000 in
theorem im_X6_at : Cond.instanceMethod yX6_at ∈ lw_g := z_mem (k := 436) rfl rfl
set_option maxRecDepth 100000 in
theorem se_X6_at : Cond.selects RX6 yX6_at yX6_at ∈ lw_g := z_mem (k := 437) rfl rfl
set_option maxRecDepth 100000 in
theorem mc_X6_follows : Cond.code yX6_follows cX6_follows 3 (some .int) ∈ lw_g := z_mem (k := 442) rfl rfl
theorem nd_X6_follows : yX6_follows.cls ≠ "java/lang/invoke/MethodHandle" ∧ yX6_follows.cls ≠ "java/lang/invoke/VarHandle" ∧ (parseMethodDescriptor yX6_follows.desc).map (fun d => d.parameters.length) = some 2 := by decide +kernel
set_option maxRecDepth 100000 in
theorem im_X6_follows : Cond.instanceMethod yX6_follows ∈ lw_g := z_mem (k := 440) rfl rfl
set_option maxRecDepth 100000 in
theorem se_X6_follows : Cond.selects RX6 yX6_follows yX6_follows ∈ lw_g := z_mem (k := 441) rfl rfl
set_option maxRecDepth 100000 in
theorem mc_X6_touches : Cond.code yX6_touches cX6_touches 6 (some .int) ∈ lw_g := z_mem (k := 446) rfl rfl
theorem nd_X6_touches : yX6_touches.cls ≠ "java/lang/invoke/MethodHandle" ∧ yX6_touches.cls ≠ "java/lang/invoke/VarHandle" ∧ (parseMethodDescriptor yX6_touches.desc).map (fun d => d.parameters.length) = some 2 := by decide +kernel
set_option maxRecDepth 100000 in
theorem im_X6_touches : Cond.instanceMethod yX6_touches ∈ lw_g := z_mem (k := 444) rfl rfl
set_option maxRecDepth 100000 in
theorem se_X6_touches : Cond.selects RX6 yX6_touches yX6_touches ∈ lw_g := z_mem (k := 445) rfl rfl
set_option maxRecDepth 100000 in
theorem mc_X6_isPart : Cond.code yX6_isPart cX6_isPart 1 (some .boolean) ∈ lw_g := z_mem (k := 203) rfl rfl
theorem nd_X6_isPart : yX6_isPart.cls ≠ "java/lang/invoke/MethodHandle" ∧ yX6_isPart.cls ≠ "java/lang/invoke/VarHandle" ∧ (parseMethodDescriptor yX6_isPart.desc).map (fun d => d.parameters.length) = some 1 := by decide +kernel
set_option maxRecDepth 100000 in
theorem st_X6_isPart : Cond.static yX6_isPart ∈ lw_g := z_mem (k := 202) rfl rfl
set_option maxRecDepth 100000 in
theorem mc_X6_isPower : Cond.code yX6_isPower cX6_isPower 1 (some .boolean) ∈ lw_g := z_mem (k := 206) rfl rfl
theorem nd_X6_isPower : yX6_isPower.cls ≠ "java/lang/invoke/MethodHandle" ∧ yX6_isPower.cls ≠ "java/lang/invoke/VarHandle" ∧ (parseMethodDescriptor yX6_isPower.desc).map (fun d => d.parameters.length) = some 1 := by decide +kernel
set_option maxRecDepth 100000 in
theorem st_X6_isPower : Cond.static yX6_isPower ∈ lw_g := z_mem (k := 205) rfl rfl
set_option maxRecDepth 100000 in
theorem mc_X6_isSort : Cond.code yX6_isSort cX6_isSort 1 (some .boolean) ∈ lw_g := z_mem (k := 296) rfl rfl
theorem nd_X6_isSort : yX6_isSort.cls ≠ "java/lang/invoke/MethodHandle" ∧ yX6_isSort.cls ≠ "java/lang/invoke/VarHandle" ∧ (parseMethodDescriptor yX6_isSort.desc).map (fun d => d.parameters.length) = some 1 := by decide +kernel
set_option maxRecDepth 100000 in
theorem st_X6_isSort : Cond.static yX6_isSort ∈ lw_g := z_mem (k := 295) rfl rfl
set_option maxRecDepth 100000 in
theorem mc_X6_isWithin : Cond.code yX6_isWithin cX6_isWithin 2 (some .boolean) ∈ lw_g := z_mem (k := 209) rfl rfl
theorem nd_X6_isWithin : yX6_isWithin.cls ≠ "java/lang/invoke/MethodHandle" ∧ yX6_isWithin.cls ≠ "java/lang/invoke/VarHandle" ∧ (parseMethodDescriptor yX6_isWithin.desc).map (fun d => d.parameters.length) = some 2 := by decide +kernel
set_option maxRecDepth 100000 in
theorem st_X6_isWithin : Cond.static yX6_isWithin ∈ lw_g := z_mem (k := 208) rfl rfl
set_option maxRecDepth 100000 in
theorem mc_X6_isParameter : Cond.code yX6_isParameter cX6_isParameter 2 (some .boolean) ∈ lw_g := z_mem (k := 281) rfl rfl
theorem nd_X6_isParameter : yX6_isParameter.cls ≠ "java/lang/invoke/MethodHandle" ∧ yX6_isParameter.cls ≠ "java/lang/invoke/VarHandle" ∧ (parseMethodDescriptor yX6_isParameter.desc).map (fun d => d.parameters.length) = some 2 := by decide +kernel
set_option maxRecDepth 100000 in
theorem st_X6_isParameter : Cond.static yX6_isParameter ∈ lw_g := z_mem (k := 280) rfl rfl
set_option maxRecDepth 100000 in
theorem mc_X6_isPlace : Cond.code yX6_isPlace cX6_isPlace 3 (some .boolean) ∈ lw_g := z_mem (k := 429) rfl rfl
theorem nd_X6_isPlace : yX6_isPlace.cls ≠ "java/lang/invoke/MethodHandle" ∧ yX6_isPlace.cls ≠ "java/lang/invoke/VarHandle" ∧ (parseMethodDescriptor yX6_isPlace.desc).map (fun d => d.parameters.length) = some 3 := by decide +kernel
set_option maxRecDepth 100000 in
theorem st_X6_isPlace : Cond.static yX6_isPlace ∈ lw_g := z_mem (k := 428) rfl rfl
set_option maxRecDepth 100000 in
theorem mc_X6_forget : Cond.code yX6_forget cX6_forget 1 none ∈ lw_g := z_mem (k := 213) rfl rfl
theorem nd_X6_forget : yX6_forget.cls ≠ "java/lang/invoke/MethodHandle" ∧ yX6_forget.cls ≠ "java/lang/invoke/VarHandle" ∧ (parseMethodDescriptor yX6_forget.desc).map (fun d => d.parameters.length) = some 0 := by decide +kernel
set_option maxRecDepth 100000 in
theorem im_X6_forget : Cond.instanceMethod yX6_forget ∈ lw_g := z_mem (k := 212) rfl rfl
set_option maxRecDepth 100000 in
theorem se_X6_forget : Cond.selects RX6 yX6_forget yX6_forget ∈ lw_g := z_mem (k := 0) rfl rfl
set_option maxRecDepth 100000 in
theorem mc_X6_freeRow : Cond.code yX6_freeRow cX6_freeRow 1 (some (.object "EliminateLoci$Row")) ∈ lw_g := z_mem (k := 233) rfl rfl
theorem nd_X6_freeRow : yX6_freeRow.cls ≠ "java/lang/invoke/MethodHandle" ∧ yX6_freeRow.cls ≠ "java/lang/invoke/VarHandle" ∧ (parseMethodDescriptor yX6_freeRow.desc).map (fun d => d.parameters.length) = some 0 := by decide +kernel
set_option maxRecDepth 100000 in
theorem im_X6_freeRow : Cond.instanceMethod yX6_freeRow ∈ lw_g := z_mem (k := 232) rfl rfl
set_option maxRecDepth 100000 in
theorem se_X6_freeRow : Cond.selects RX6 yX6_freeRow yX6_freeRow ∈ lw_g := z_mem (k := 1) rfl rfl
set_option maxRecDepth 100000 in
theorem mc_X6_curveOf : Cond.code yX6_curveOf cX6_curveOf 4 (some (.object "EliminateLoci$Curve")) ∈ lw_g := z_mem (k := 300) rfl rfl
theorem nd_X6_curveOf : yX6_curveOf.cls ≠ "java/lang/invoke/MethodHandle" ∧ yX6_curveOf.cls ≠ "java/lang/invoke/VarHandle" ∧ (parseMethodDescriptor yX6_curveOf.desc).map (fun d => d.parameters.length) = some 1 := by decide +kernel
set_option maxRecDepth 100000 in
theorem im_X6_curveOf : Cond.instanceMethod yX6_curveOf ∈ lw_g := z_mem (k := 299) rfl rfl
set_option maxRecDepth 100000 in
theorem se_X6_curveOf : Cond.selects RX6 yX6_curveOf yX6_curveOf ∈ lw_g := z_mem (k := 8) rfl rfl
set_option maxRecDepth 100000 in
theorem mc_X6_moveTo : Cond.code yX6_moveTo cX6_moveTo 8 none ∈ lw_g := z_mem (k := 285) rfl rfl
theorem nd_X6_moveTo : yX6_moveTo.cls ≠ "java/lang/invoke/MethodHandle" ∧ yX6_moveTo.cls ≠ "java/lang/invoke/VarHandle" ∧ (parseMethodDescriptor yX6_moveTo.desc).map (fun d => d.parameters.length) = some 2 := by decide +kernel
set_option maxRecDepth 100000 in
theorem im_X6_moveTo : Cond.instanceMethod yX6_moveTo ∈ lw_g := z_mem (k := 284) rfl rfl
set_option maxRecDepth 100000 in
theorem se_X6_moveTo : Cond.selects RX6 yX6_moveTo yX6_moveTo ∈ lw_g := z_mem (k := 7) rfl rfl
set_option maxRecDepth 100000 in
theorem mc_X6_slopeByU : Cond.code yX6_slopeByU cX6_slopeByU 8 (some .long) ∈ lw_g := z_mem (k := 450) rfl rfl
theorem nd_X6_slopeByU : yX6_slopeByU.cls ≠ "java/lang/invoke/MethodHandle" ∧ yX6_slopeByU.cls ≠ "java/lang/invoke/VarHandle" ∧ (parseMethodDescriptor yX6_slopeByU.desc).map (fun d => d.parameters.length) = some 4 := by decide +kernel
set_option maxRecDepth 100000 in
theorem im_X6_slopeByU : Cond.instanceMethod yX6_slopeByU ∈ lw_g := z_mem (k := 449) rfl rfl
set_option maxRecDepth 100000 in
theorem se_X6_slopeByU : Cond.selects RX6 yX6_slopeByU yX6_slopeByU ∈ lw_g := z_mem (k := 14) rfl rfl
set_option maxRecDepth 100000 in
theorem mc_X6_slopeByV : Cond.code yX6_slopeByV cX6_slopeByV 8 (some .long) ∈ lw_g := z_mem (k := 454) rfl rfl
theorem nd_X6_slopeByV : yX6_slopeByV.cls ≠ "java/lang/invoke/MethodHandle" ∧ yX6_slopeByV.cls ≠ "java/lang/invoke/VarHandle" ∧ (parseMethodDescriptor yX6_slopeByV.desc).map (fun d => d.parameters.length) = some 4 := by decide +kernel
set_option maxRecDepth 100000 in
theorem im_X6_slopeByV : Cond.instanceMethod yX6_slopeByV ∈ lw_g := z_mem (k := 453) rfl rfl
set_option maxRecDepth 100000 in
theorem se_X6_slopeByV : Cond.selects RX6 yX6_slopeByV yX6_slopeByV ∈ lw_g := z_mem (k := 15) rfl rfl
set_option maxRecDepth 100000 in
theorem mc_X6_powerOf : Cond.code yX6_powerOf cX6_powerOf 6 (some .long) ∈ lw_g := z_mem (k := 288) rfl rfl
theorem nd_X6_powerOf : yX6_powerOf.cls ≠ "java/lang/invoke/MethodHandle" ∧ yX6_powerOf.cls ≠ "java/lang/invoke/VarHandle" ∧ (parseMethodDescriptor yX6_powerOf.desc).map (fun d => d.parameters.length) = some 2 := by decide +kernel
set_option maxRecDepth 100000 in
theorem st_X6_powerOf : Cond.static yX6_powerOf ∈ lw_g := z_mem (k := 287) rfl rfl
set_option maxRecDepth 100000 in
theorem mc_X6_commonOf : Cond.code yX6_commonOf cX6_commonOf 11 (some .long) ∈ lw_g := z_mem (k := 261) rfl rfl
theorem nd_X6_commonOf : yX6_commonOf.cls ≠ "java/lang/invoke/MethodHandle" ∧ yX6_commonOf.cls ≠ "java/lang/invoke/VarHandle" ∧ (parseMethodDescriptor yX6_commonOf.desc).map (fun d => d.parameters.length) = some 2 := by decide +kernel
set_option maxRecDepth 100000 in
theorem st_X6_commonOf : Cond.static yX6_commonOf ∈ lw_g := z_mem (k := 260) rfl rfl
set_option maxRecDepth 100000 in
theorem mc_X6_rootOf : Cond.code yX6_rootOf cX6_rootOf 8 (some .long) ∈ lw_g := z_mem (k := 388) rfl rfl
theorem nd_X6_rootOf : yX6_rootOf.cls ≠ "java/lang/invoke/MethodHandle" ∧ yX6_rootOf.cls ≠ "java/lang/invoke/VarHandle" ∧ (parseMethodDescriptor yX6_rootOf.desc).map (fun d => d.parameters.length) = some 2 := by decide +kernel
set_option maxRecDepth 100000 in
theorem st_X6_rootOf : Cond.static yX6_rootOf ∈ lw_g := z_mem (k := 387) rfl rfl
set_option maxRecDepth 100000 in
theorem mc_X6_isPowerWithin : Cond.code yX6_isPowerWithin cX6_isPowerWithin 8 (some .boolean) ∈ lw_g := z_mem (k := 391) rfl rfl
theorem nd_X6_isPowerWithin : yX6_isPowerWithin.cls ≠ "java/lang/invoke/MethodHandle" ∧ yX6_isPowerWithin.cls ≠ "java/lang/invoke/VarHandle" ∧ (parseMethodDescriptor yX6_isPowerWithin.desc).map (fun d => d.parameters.length) = some 3 := by decide +kernel
set_option maxRecDepth 100000 in
theorem st_X6_isPowerWithin : Cond.static yX6_isPowerWithin ∈ lw_g := z_mem (k := 390) rfl rfl
set_option maxRecDepth 100000 in
theorem mc_X6_slotOf : Cond.code yX6_slotOf cX6_slotOf 2 (some .int) ∈ lw_g := z_mem (k := 322) rfl rfl
theorem nd_X6_slotOf : yX6_slotOf.cls ≠ "java/lang/invoke/MethodHandle" ∧ yX6_slotOf.cls ≠ "java/lang/invoke/VarHandle" ∧ (parseMethodDescriptor yX6_slotOf.desc).map (fun d => d.parameters.length) = some 2 := by decide +kernel
set_option maxRecDepth 100000 in
theorem st_X6_slotOf : Cond.static yX6_slotOf ∈ lw_g := z_mem (k := 321) rfl rfl
set_option maxRecDepth 100000 in
theorem mc_J6_bitCount_0f7a4 : Cond.code yJ6_bitCount_0f7a4 cJ6_bitCount_0f7a4 1 (some .int) ∈ lw_g := z_mem (k := 361) rfl rfl
theorem nd_J6_bitCount_0f7a4 : yJ6_bitCount_0f7a4.cls ≠ "java/lang/invoke/MethodHandle" ∧ yJ6_bitCount_0f7a4.cls ≠ "java/lang/invoke/VarHandle" ∧ (parseMethodDescriptor yJ6_bitCount_0f7a4.desc).map (fun d => d.parameters.length) = some 1 := by decide +kernel
set_option maxRecDepth 100000 in
theorem st_J6_bitCount_0f7a4 : Cond.static yJ6_bitCount_0f7a4 ∈ lw_g := z_mem (k := 360) rfl rfl
set_option maxRecDepth 100000 in
theorem mc_J9_abs_067f4 : Cond.code yJ9_abs_067f4 cJ9_abs_067f4 2 (some .long) ∈ lw_g := z_mem (k := 404) rfl rfl
theorem nd_J9_abs_067f4 : yJ9_abs_067f4.cls ≠ "java/lang/invoke/MethodHandle" ∧ yJ9_abs_067f4.cls ≠ "java/lang/invoke/VarHandle" ∧ (parseMethodDescriptor yJ9_abs_067f4.desc).map (fun d => d.parameters.length) = some 1 := by decide +kernel
set_option maxRecDepth 100000 in
theorem st_J9_abs_067f4 : Cond.static yJ9_abs_067f4 ∈ lw_g := z_mem (k := 403) rfl rfl
set_option maxRecDepth 100000 in
theorem mc_J9_min_7cf53 : Cond.code yJ9_min_7cf53 cJ9_min_7cf53 2 (some .int) ∈ lw_g := z_mem (k := 341) rfl rfl
theorem nd_J9_min_7cf53 : yJ9_min_7cf53.cls ≠ "java/lang/invoke/MethodHandle" ∧ yJ9_min_7cf53.cls ≠ "java/lang/invoke/VarHandle" ∧ (parseMethodDescriptor yJ9_min_7cf53.desc).map (fun d => d.parameters.length) = some 2 := by decide +kernel
set_option maxRecDepth 100000 in
theorem st_J9_min_7cf53 : Cond.static yJ9_min_7cf53 ∈ lw_g := z_mem (k := 340) rfl rfl
set_option maxRecDepth 100000 in
theorem mc_J7_fill_d0a16 : Cond.code yJ7_fill_d0a16 cJ7_fill_d0a16 5 none ∈ lw_g := z_mem (k := 240) rfl rfl
theorem nd_J7_fill_d0a16 : yJ7_fill_d0a16.cls ≠ "java/lang/invoke/MethodHandle" ∧ yJ7_fill_d0a16.cls ≠ "java/lang/invoke/VarHandle" ∧ (parseMethodDescriptor yJ7_fill_d0a16.desc).map (fun d => d.parameters.length) = some 2 := by decide +kernel
set_option maxRecDepth 100000 in
theorem st_J7_fill_d0a16 : Cond.static yJ7_fill_d0a16 ∈ lw_g := z_mem (k := 239) rfl rfl
end
section
/-! numbers under the class's small methods -/
/-- Euclid's way takes no more steps than the class counts -/
def cgP (x y : Int64) (i : Int) : Prop := i = 0 ∨ (y.toInt.natAbs ≤ x.toInt.natAbs ∧ x.toInt.natAbs * y.toInt.natAbs * 2 ^ (i - 1).toNat ≤ 2 ^ 126)
theorem abs_le63 (x : Int64) : x.toInt.natAbs ≤ 2 ^ 63 := by
  have h1 := Int64.le_toInt x
  have h2 := Int64.toInt_lt x
  omega
theorem cgP_s {x y : Int64} {i : Int} (hi : 0 ≤ i) (hy : ¬ y = 0) (h : cgP x y i) : cgP y (x - x / y * y) (i + 1) := by
  have hy0 : y.toInt.natAbs ≠ 0 := fun q => hy (Int64.toInt_inj.mp (by rw [l0]; omega))
  have e1 : (x - x / y * y).toInt.natAbs = x.toInt.natAbs % y.toInt.natAbs := by rw [l_rem, Int.natAbs_tmod]
  right
  rw [e1]
  have hlt := Nat.mod_lt x.toInt.natAbs (Nat.pos_of_ne_zero hy0)
  refine ⟨Nat.le_of_lt hlt, ?_⟩
  have e2 : (i + 1 - 1).toNat = i.toNat := by omega
  rw [e2]
  rcases h with h | ⟨h1, h2⟩
  · rw [h]
    show _ * 1 ≤ _
    rw [Nat.mul_one]
    have a1 := abs_le63 y
    have a2 : x.toInt.natAbs % y.toInt.natAbs ≤ 2 ^ 63 := by omega
    calc y.toInt.natAbs * (x.toInt.natAbs % y.toInt.natAbs) ≤ 2 ^ 63 * 2 ^ 63 := Nat.mul_le_mul a1 a2
      _ = 2 ^ 126 := by decide
  · rcases Nat.eq_zero_or_pos i.toNat with q | q
    · have a1 := abs_le63 y
      have a2 : x.toInt.natAbs % y.toInt.natAbs ≤ 2 ^ 63 := by omega
      rw [q]
      show _ * 1 ≤ _
      rw [Nat.mul_one]
      calc y.toInt.natAbs * (x.toInt.natAbs % y.toInt.natAbs) ≤ 2 ^ 63 * 2 ^ 63 := Nat.mul_le_mul a1 a2
        _ = 2 ^ 126 := by decide
    · have e3 : i.toNat = (i - 1).toNat + 1 := by omega
      rw [e3, Nat.pow_succ]
      have hhalf : x.toInt.natAbs % y.toInt.natAbs * 2 ≤ x.toInt.natAbs := by
        have d1 := Nat.div_add_mod x.toInt.natAbs y.toInt.natAbs
        have d2 : 1 ≤ x.toInt.natAbs / y.toInt.natAbs := (Nat.one_le_div_iff (Nat.pos_of_ne_zero hy0)).mpr h1
        have d3 : y.toInt.natAbs * 1 ≤ y.toInt.natAbs * (x.toInt.natAbs / y.toInt.natAbs) := Nat.mul_le_mul_left _ d2
        omega
      calc y.toInt.natAbs * (x.toInt.natAbs % y.toInt.natAbs) * (2 ^ (i - 1).toNat * 2) = (x.toInt.natAbs % y.toInt.natAbs * 2) * y.toInt.natAbs * 2 ^ (i - 1).toNat := by
            rw [Nat.mul_comm y.toInt.natAbs, Nat.mul_comm (2 ^ (i - 1).toNat) 2, ← Nat.mul_assoc, Nat.mul_right_comm _ y.toInt.natAbs 2]
        _ ≤ x.toInt.natAbs * y.toInt.natAbs * 2 ^ (i - 1).toNat := Nat.mul_le_mul_right _ (Nat.mul_le_mul_right _ hhalf)
        _ ≤ 2 ^ 126 := h2
theorem cgP_e {x y : Int64} {i : Int} (hi : 128 ≤ i) (h : cgP x y i) : y = 0 := by
  rcases h with h | ⟨h1, h2⟩
  · omega
  · have h3 : 2 ^ 127 ≤ 2 ^ (i - 1).toNat := Nat.pow_le_pow_right (by decide) (by omega)
    have hz : x.toInt.natAbs * y.toInt.natAbs = 0 := by
      rcases Nat.eq_zero_or_pos (x.toInt.natAbs * y.toInt.natAbs) with q | q
      · exact q
      · have h4 : 1 * 2 ^ 127 ≤ x.toInt.natAbs * y.toInt.natAbs * 2 ^ (i - 1).toNat := Nat.mul_le_mul q h3
        have h5 : (2 : Nat) ^ 126 < 1 * 2 ^ 127 := by decide
        omega
    rcases Nat.mul_eq_zero.mp hz with q | q
    · exact Int64.toInt_inj.mp (by rw [l0]; omega)
    · exact Int64.toInt_inj.mp (by rw [l0]; omega)
def sl (d : Int) : Int := d * (d + 1) / 2
theorem sl_m {d : Int} (h : 0 ≤ d ∧ d ≤ 6) : 0 ≤ d * (d + 1) ∧ d * (d + 1) ≤ 42 := by
  have h1 : d = 0 ∨ d = 1 ∨ d = 2 ∨ d = 3 ∨ d = 4 ∨ d = 5 ∨ d = 6 := by omega
  rcases h1 with rfl | rfl | rfl | rfl | rfl | rfl | rfl <;> decide
theorem sl_b {d : Int} (h : 0 ≤ d ∧ d ≤ 6) : 0 ≤ sl d ∧ sl d + d ≤ 27 := by
  have h1 : d = 0 ∨ d = 1 ∨ d = 2 ∨ d = 3 ∨ d = 4 ∨ d = 5 ∨ d = 6 := by omega
  rcases h1 with rfl | rfl | rfl | rfl | rfl | rfl | rfl <;> decide
theorem fl_s {f f' : Nat → Int64} {k : Int} {v : Int64} (hk : 0 ≤ k) (e : f' = vp_updL f k.toNat v) (hz : ∀ q : Int, 0 ≤ q → q < k → f q.toNat = v) : ∀ q : Int, 0 ≤ q → q < k + 1 → f' q.toNat = v := by
  intro q h1 h2
  rw [e, up_at hk h1]
  by_cases r : q = k
  · rw [if_pos r]
  · rw [if_neg r]; exact hz q h1 (by omega)
end
section
theorem dX6_isPart_0 : decode cX6_isPart 0 = .ok (.iload_n 0, 1) := by decide +kernel
theorem dX6_isPart_1 : decode cX6_isPart 1 = .ok (.ifCond .lt 12, 3) := by decide +kernel
theorem dX6_isPart_4 : decode cX6_isPart 4 = .ok (.iload_n 0, 1) := by decide +kernel
theorem dX6_isPart_5 : decode cX6_isPart 5 = .ok (.iconst 3, 1) := by decide +kernel
theorem dX6_isPart_6 : decode cX6_isPart 6 = .ok (.if_icmp .ge 7, 3) := by decide +kernel
theorem dX6_isPart_9 : decode cX6_isPart 9 = .ok (.iconst 1, 1) := by decide +kernel
theorem dX6_isPart_10 : decode cX6_isPart 10 = .ok (.goto 4, 3) := by decide +kernel
theorem dX6_isPart_13 : decode cX6_isPart 13 = .ok (.iconst 0, 1) := by decide +kernel
theorem dX6_isPart_14 : decode cX6_isPart 14 = .ok (.ireturn, 1) := by decide +kernel
set_option maxHeartbeats 4000000 in
set_option maxRecDepth 100000 in
theorem ct_X6_isPart (l : Launch) (D : va_G) (ce : Nat → ClassId) (a : Int) (ha : -2147483648 ≤ a ∧ a < 2147483648) : Ct l yX6_isPart cX6_isPart 1 (some .boolean) { frames := 0, cells := 0, slots := 0, locals := 0 } 0 0 D (TY ce) [.int (zI a)] ([]) (QI D (TY ce) (fun r w1 => ∃ z : Int, r = zI z ∧ w1 = [] ∧ ((z = 1 ∧ 0 ≤ a ∧ a < 3) ∨ (z = 0 ∧ ¬ (0 ≤ a ∧ a < 3))))) := by
  refine Ct.ofB (by decide) (Nat.le_of_ble_eq_true rfl) ?_
  intro p e s m args below meth c A Q hX hnm hR
  refine Z.pick (lv' := [(0, .int (zI a))]) [0] rfl ?_
  refine Z.iload_n hX dX6_isPart_0 rfl rfl ?_
  refine Z.if_lt hX 13 dX6_isPart_1 (by decide) ⟨by omega, by omega⟩ ?_ ?_
  · intro c1
    refine Z.iconst hX dX6_isPart_13 ?_
    exact hR _ _ _ _ dX6_isPart_14 rfl ⟨0, rfl, rfl, (by omega)⟩
  · intro c1
    refine Z.iload_n hX dX6_isPart_4 rfl rfl ?_
    refine Z.iconst hX dX6_isPart_5 ?_
    refine Z.icmp_ge hX 13 dX6_isPart_6 (by decide) ⟨by omega, by omega⟩ ⟨by omega, by omega⟩ ?_ ?_
    · intro c2
      refine Z.iconst hX dX6_isPart_13 ?_
      exact hR _ _ _ _ dX6_isPart_14 rfl ⟨0, rfl, rfl, (by omega)⟩
    · intro c2
      refine Z.iconst hX dX6_isPart_9 ?_
      refine Z.goto hX 14 dX6_isPart_10 (by decide) ?_
      exact hR _ _ _ _ dX6_isPart_14 rfl ⟨1, rfl, rfl, (by omega)⟩

theorem dX6_isPower_0 : decode cX6_isPower 0 = .ok (.iload_n 0, 1) := by decide +kernel
theorem dX6_isPower_1 : decode cX6_isPower 1 = .ok (.ifCond .lt 12, 3) := by decide +kernel
theorem dX6_isPower_4 : decode cX6_isPower 4 = .ok (.iload_n 0, 1) := by decide +kernel
theorem dX6_isPower_5 : decode cX6_isPower 5 = .ok (.iconst 5, 1) := by decide +kernel
theorem dX6_isPower_6 : decode cX6_isPower 6 = .ok (.if_icmp .ge 7, 3) := by decide +kernel
theorem dX6_isPower_9 : decode cX6_isPower 9 = .ok (.iconst 1, 1) := by decide +kernel
theorem dX6_isPower_10 : decode cX6_isPower 10 = .ok (.goto 4, 3) := by decide +kernel
theorem dX6_isPower_13 : decode cX6_isPower 13 = .ok (.iconst 0, 1) := by decide +kernel
theorem dX6_isPower_14 : decode cX6_isPower 14 = .ok (.ireturn, 1) := by decide +kernel
set_option maxHeartbeats 4000000 in
set_option maxRecDepth 100000 in
theorem ct_X6_isPower (l : Launch) (D : va_G) (ce : Nat → ClassId) (a : Int) (ha : -2147483648 ≤ a ∧ a < 2147483648) : Ct l yX6_isPower cX6_isPower 1 (some .boolean) { frames := 0, cells := 0, slots := 0, locals := 0 } 0 0 D (TY ce) [.int (zI a)] ([]) (QI D (TY ce) (fun r w1 => ∃ z : Int, r = zI z ∧ w1 = [] ∧ ((z = 1 ∧ 0 ≤ a ∧ a < 5) ∨ (z = 0 ∧ ¬ (0 ≤ a ∧ a < 5))))) := by
  refine Ct.ofB (by decide) (Nat.le_of_ble_eq_true rfl) ?_
  intro p e s m args below meth c A Q hX hnm hR
  refine Z.pick (lv' := [(0, .int (zI a))]) [0] rfl ?_
  refine Z.iload_n hX dX6_isPower_0 rfl rfl ?_
  refine Z.if_lt hX 13 dX6_isPower_1 (by decide) ⟨by omega, by omega⟩ ?_ ?_
  · intro c1
    refine Z.iconst hX dX6_isPower_13 ?_
    exact hR _ _ _ _ dX6_isPower_14 rfl ⟨0, rfl, rfl, (by omega)⟩
  · intro c1
    refine Z.iload_n hX dX6_isPower_4 rfl rfl ?_
    refine Z.iconst hX dX6_isPower_5 ?_
    refine Z.icmp_ge hX 13 dX6_isPower_6 (by decide) ⟨by omega, by omega⟩ ⟨by omega, by omega⟩ ?_ ?_
    · intro c2
      refine Z.iconst hX dX6_isPower_13 ?_
      exact hR _ _ _ _ dX6_isPower_14 rfl ⟨0, rfl, rfl, (by omega)⟩
    · intro c2
      refine Z.iconst hX dX6_isPower_9 ?_
      refine Z.goto hX 14 dX6_isPower_10 (by decide) ?_
      exact hR _ _ _ _ dX6_isPower_14 rfl ⟨1, rfl, rfl, (by omega)⟩

theorem dX6_isSort_0 : decode cX6_isSort 0 = .ok (.iload_n 0, 1) := by decide +kernel
theorem dX6_isSort_1 : decode cX6_isSort 1 = .ok (.ifCond .eq 8, 3) := by decide +kernel
theorem dX6_isSort_4 : decode cX6_isSort 4 = .ok (.iload_n 0, 1) := by decide +kernel
theorem dX6_isSort_5 : decode cX6_isSort 5 = .ok (.iconst 1, 1) := by decide +kernel
theorem dX6_isSort_6 : decode cX6_isSort 6 = .ok (.if_icmp .ne 7, 3) := by decide +kernel
theorem dX6_isSort_9 : decode cX6_isSort 9 = .ok (.iconst 1, 1) := by decide +kernel
theorem dX6_isSort_10 : decode cX6_isSort 10 = .ok (.goto 4, 3) := by decide +kernel
theorem dX6_isSort_13 : decode cX6_isSort 13 = .ok (.iconst 0, 1) := by decide +kernel
theorem dX6_isSort_14 : decode cX6_isSort 14 = .ok (.ireturn, 1) := by decide +kernel
set_option maxHeartbeats 4000000 in
set_option maxRecDepth 100000 in
theorem ct_X6_isSort (l : Launch) (D : va_G) (ce : Nat → ClassId) (a : Int) (ha : -2147483648 ≤ a ∧ a < 2147483648) : Ct l yX6_isSort cX6_isSort 1 (some .boolean) { frames := 0, cells := 0, slots := 0, locals := 0 } 0 0 D (TY ce) [.int (zI a)] ([]) (QI D (TY ce) (fun r w1 => ∃ z : Int, r = zI z ∧ w1 = [] ∧ ((z = 1 ∧ (a = 0 ∨ a = 1)) ∨ (z = 0 ∧ ¬ (a = 0 ∨ a = 1))))) := by
  refine Ct.ofB (by decide) (Nat.le_of_ble_eq_true rfl) ?_
  intro p e s m args below meth c A Q hX hnm hR
  refine Z.pick (lv' := [(0, .int (zI a))]) [0] rfl ?_
  refine Z.iload_n hX dX6_isSort_0 rfl rfl ?_
  refine Z.if_eq hX 9 dX6_isSort_1 (by decide) ⟨by omega, by omega⟩ ?_ ?_
  · intro c1
    refine Z.iconst hX dX6_isSort_9 ?_
    refine Z.goto hX 14 dX6_isSort_10 (by decide) ?_
    exact hR _ _ _ _ dX6_isSort_14 rfl ⟨1, rfl, rfl, (by omega)⟩
  · intro c1
    refine Z.iload_n hX dX6_isSort_4 rfl rfl ?_
    refine Z.iconst hX dX6_isSort_5 ?_
    refine Z.icmp_ne hX 13 dX6_isSort_6 (by decide) ⟨by omega, by omega⟩ ⟨by omega, by omega⟩ ?_ ?_
    · intro c2
      refine Z.iconst hX dX6_isSort_13 ?_
      exact hR _ _ _ _ dX6_isSort_14 rfl ⟨0, rfl, rfl, (by omega)⟩
    · intro c2
      refine Z.iconst hX dX6_isSort_9 ?_
      refine Z.goto hX 14 dX6_isSort_10 (by decide) ?_
      exact hR _ _ _ _ dX6_isSort_14 rfl ⟨1, rfl, rfl, (by omega)⟩

theorem dX6_isWithin_0 : decode cX6_isWithin 0 = .ok (.iload_n 0, 1) := by decide +kernel
theorem dX6_isWithin_1 : decode cX6_isWithin 1 = .ok (.iload_n 1, 1) := by decide +kernel
theorem dX6_isWithin_2 : decode cX6_isWithin 2 = .ok (.ineg, 1) := by decide +kernel
theorem dX6_isWithin_3 : decode cX6_isWithin 3 = .ok (.if_icmp .lt 12, 3) := by decide +kernel
theorem dX6_isWithin_6 : decode cX6_isWithin 6 = .ok (.iload_n 0, 1) := by decide +kernel
theorem dX6_isWithin_7 : decode cX6_isWithin 7 = .ok (.iload_n 1, 1) := by decide +kernel
theorem dX6_isWithin_8 : decode cX6_isWithin 8 = .ok (.if_icmp .gt 7, 3) := by decide +kernel
theorem dX6_isWithin_11 : decode cX6_isWithin 11 = .ok (.iconst 1, 1) := by decide +kernel
theorem dX6_isWithin_12 : decode cX6_isWithin 12 = .ok (.goto 4, 3) := by decide +kernel
theorem dX6_isWithin_15 : decode cX6_isWithin 15 = .ok (.iconst 0, 1) := by decide +kernel
theorem dX6_isWithin_16 : decode cX6_isWithin 16 = .ok (.ireturn, 1) := by decide +kernel
set_option maxHeartbeats 4000000 in
set_option maxRecDepth 100000 in
theorem ct_X6_isWithin (l : Launch) (D : va_G) (ce : Nat → ClassId) (a b : Int) (ha : -2147483648 ≤ a ∧ a < 2147483648) (hb : 0 ≤ b ∧ b ≤ 100) : Ct l yX6_isWithin cX6_isWithin 2 (some .boolean) { frames := 0, cells := 0, slots := 0, locals := 0 } 0 0 D (TY ce) [.int (zI a), .int (zI b)] ([]) (QI D (TY ce) (fun r w1 => ∃ z : Int, r = zI z ∧ w1 = [] ∧ ((z = 1 ∧ -b ≤ a ∧ a ≤ b) ∨ (z = 0 ∧ ¬ (-b ≤ a ∧ a ≤ b))))) := by
  refine Ct.ofB (by decide) (Nat.le_of_ble_eq_true rfl) ?_
  intro p e s m args below meth c A Q hX hnm hR
  refine Z.pick (lv' := [(0, .int (zI a)), (1, .int (zI b))]) [0, 1] rfl ?_
  refine Z.iload_n hX dX6_isWithin_0 rfl rfl ?_
  refine Z.iload_n hX dX6_isWithin_1 rfl rfl ?_
  refine Z.ineg hX dX6_isWithin_2 ?_
  refine Z.icmp_lt hX 15 dX6_isWithin_3 (by decide) ⟨by omega, by omega⟩ ⟨by omega, by omega⟩ ?_ ?_
  · intro c1
    refine Z.iconst hX dX6_isWithin_15 ?_
    exact hR _ _ _ _ dX6_isWithin_16 rfl ⟨0, rfl, rfl, (by omega)⟩
  · intro c1
    refine Z.iload_n hX dX6_isWithin_6 rfl rfl ?_
    refine Z.iload_n hX dX6_isWithin_7 rfl rfl ?_
    refine Z.icmp_gt hX 15 dX6_isWithin_8 (by decide) ⟨by omega, by omega⟩ ⟨by omega, by omega⟩ ?_ ?_
    · intro c2
      refine Z.iconst hX dX6_isWithin_15 ?_
      exact hR _ _ _ _ dX6_isWithin_16 rfl ⟨0, rfl, rfl, (by omega)⟩
    · intro c2
      refine Z.iconst hX dX6_isWithin_11 ?_
      refine Z.goto hX 16 dX6_isWithin_12 (by decide) ?_
      exact hR _ _ _ _ dX6_isWithin_16 rfl ⟨1, rfl, rfl, (by omega)⟩

theorem dX6_isParameter_0 : decode cX6_isParameter 0 = .ok (.iload_n 0, 1) := by decide +kernel
theorem dX6_isParameter_1 : decode cX6_isParameter 1 = .ok (.bipush 9, 2) := by decide +kernel
theorem dX6_isParameter_3 : decode cX6_isParameter 3 = .ok (.invokestatic 65, 3) := by decide +kernel
theorem dX6_isParameter_6 : decode cX6_isParameter 6 = .ok (.ifCond .eq 24, 3) := by decide +kernel
theorem dX6_isParameter_9 : decode cX6_isParameter 9 = .ok (.iload_n 1, 1) := by decide +kernel
theorem dX6_isParameter_10 : decode cX6_isParameter 10 = .ok (.bipush 9, 2) := by decide +kernel
theorem dX6_isParameter_12 : decode cX6_isParameter 12 = .ok (.invokestatic 65, 3) := by decide +kernel
theorem dX6_isParameter_15 : decode cX6_isParameter 15 = .ok (.ifCond .eq 15, 3) := by decide +kernel
theorem dX6_isParameter_18 : decode cX6_isParameter 18 = .ok (.iload_n 0, 1) := by decide +kernel
theorem dX6_isParameter_19 : decode cX6_isParameter 19 = .ok (.ifCond .ne 7, 3) := by decide +kernel
theorem dX6_isParameter_22 : decode cX6_isParameter 22 = .ok (.iload_n 1, 1) := by decide +kernel
theorem dX6_isParameter_23 : decode cX6_isParameter 23 = .ok (.ifCond .eq 7, 3) := by decide +kernel
theorem dX6_isParameter_26 : decode cX6_isParameter 26 = .ok (.iconst 1, 1) := by decide +kernel
theorem dX6_isParameter_27 : decode cX6_isParameter 27 = .ok (.goto 4, 3) := by decide +kernel
theorem dX6_isParameter_30 : decode cX6_isParameter 30 = .ok (.iconst 0, 1) := by decide +kernel
theorem dX6_isParameter_31 : decode cX6_isParameter 31 = .ok (.ireturn, 1) := by decide +kernel
set_option maxHeartbeats 4000000 in
set_option maxRecDepth 100000 in
theorem ct_X6_isParameter (l : Launch) (D : va_G) (ce : Nat → ClassId) (a b : Int) (ha : -2147483648 ≤ a ∧ a < 2147483648) (hb : -2147483648 ≤ b ∧ b < 2147483648) : Ct l yX6_isParameter cX6_isParameter 2 (some .boolean) { frames := 1, cells := 0, slots := 0, locals := 21 } 0 0 D (TY ce) [.int (zI a), .int (zI b)] ([]) (QI D (TY ce) (fun r w1 => ∃ z : Int, r = zI z ∧ w1 = [] ∧ ((z = 1 ∧ (-9 ≤ a ∧ a ≤ 9 ∧ -9 ≤ b ∧ b ≤ 9 ∧ ¬ (a = 0 ∧ b = 0))) ∨ (z = 0 ∧ ¬ (-9 ≤ a ∧ a ≤ 9 ∧ -9 ≤ b ∧ b ≤ 9 ∧ ¬ (a = 0 ∧ b = 0)))))) := by
  refine Ct.ofB (by decide) (Nat.le_of_ble_eq_true rfl) ?_
  intro p e s m args below meth c A Q hX hnm hR
  refine Z.pick (lv' := [(0, .int (zI a)), (1, .int (zI b))]) [0, 1] rfl ?_
  refine Z.iload_n hX dX6_isParameter_0 rfl rfl ?_
  refine Z.bipush hX dX6_isParameter_1 (by decide) ?_
  refine Z.callS0i (As := [.int (zI a), .int (zI 9)]) (rest := []) hX (ct_X6_isWithin l D ce a 9 ha (by omega)) mc_X6_isWithin ml_X6_65 st_X6_isWithin ini_X6 nd_X6_isWithin ⟨Nat.le_of_ble_eq_true rfl, Nat.le_of_ble_eq_true rfl⟩ ⟨rfl, rfl⟩ ⟨Nat.le_refl _, Nat.le_refl _⟩ rfl (Nat.le_of_ble_eq_true rfl) dX6_isParameter_3 ?_
  rintro r_1 w1 ⟨z2, hr_, hw_, hq3⟩
  subst hr_
  refine ⟨hw_, ?_⟩
  refine Z.if_eq hX 30 dX6_isParameter_6 (by decide) ⟨by omega, by omega⟩ ?_ ?_
  · intro c4
    refine Z.iconst hX dX6_isParameter_30 ?_
    exact hR _ _ _ _ dX6_isParameter_31 rfl ⟨0, rfl, rfl, (by omega)⟩
  · intro c4
    refine Z.iload_n hX dX6_isParameter_9 rfl rfl ?_
    refine Z.bipush hX dX6_isParameter_10 (by decide) ?_
    refine Z.callS0i (As := [.int (zI b), .int (zI 9)]) (rest := []) hX (ct_X6_isWithin l D ce b 9 hb (by omega)) mc_X6_isWithin ml_X6_65 st_X6_isWithin ini_X6 nd_X6_isWithin ⟨Nat.le_of_ble_eq_true rfl, Nat.le_of_ble_eq_true rfl⟩ ⟨rfl, rfl⟩ ⟨Nat.le_refl _, Nat.le_refl _⟩ rfl (Nat.le_of_ble_eq_true rfl) dX6_isParameter_12 ?_
    rintro r_5 w1 ⟨z6, hr_, hw_, hq7⟩
    subst hr_
    refine ⟨hw_, ?_⟩
    refine Z.if_eq hX 30 dX6_isParameter_15 (by decide) ⟨by omega, by omega⟩ ?_ ?_
    · intro c8
      refine Z.iconst hX dX6_isParameter_30 ?_
      exact hR _ _ _ _ dX6_isParameter_31 rfl ⟨0, rfl, rfl, (by omega)⟩
    · intro c8
      refine Z.iload_n hX dX6_isParameter_18 rfl rfl ?_
      refine Z.if_ne hX 26 dX6_isParameter_19 (by decide) ⟨by omega, by omega⟩ ?_ ?_
      · intro c9
        refine Z.iconst hX dX6_isParameter_26 ?_
        refine Z.goto hX 31 dX6_isParameter_27 (by decide) ?_
        exact hR _ _ _ _ dX6_isParameter_31 rfl ⟨1, rfl, rfl, (by omega)⟩
      · intro c9
        refine Z.iload_n hX dX6_isParameter_22 rfl rfl ?_
        refine Z.if_eq hX 30 dX6_isParameter_23 (by decide) ⟨by omega, by omega⟩ ?_ ?_
        · intro c10
          refine Z.iconst hX dX6_isParameter_30 ?_
          exact hR _ _ _ _ dX6_isParameter_31 rfl ⟨0, rfl, rfl, (by omega)⟩
        · intro c10
          refine Z.iconst hX dX6_isParameter_26 ?_
          refine Z.goto hX 31 dX6_isParameter_27 (by decide) ?_
          exact hR _ _ _ _ dX6_isParameter_31 rfl ⟨1, rfl, rfl, (by omega)⟩

theorem dX6_isPlace_0 : decode cX6_isPlace 0 = .ok (.iload_n 0, 1) := by decide +kernel
theorem dX6_isPlace_1 : decode cX6_isPlace 1 = .ok (.bipush 20, 2) := by decide +kernel
theorem dX6_isPlace_3 : decode cX6_isPlace 3 = .ok (.invokestatic 65, 3) := by decide +kernel
theorem dX6_isPlace_6 : decode cX6_isPlace 6 = .ok (.ifCond .eq 27, 3) := by decide +kernel
theorem dX6_isPlace_9 : decode cX6_isPlace 9 = .ok (.iload_n 1, 1) := by decide +kernel
theorem dX6_isPlace_10 : decode cX6_isPlace 10 = .ok (.bipush 20, 2) := by decide +kernel
theorem dX6_isPlace_12 : decode cX6_isPlace 12 = .ok (.invokestatic 65, 3) := by decide +kernel
theorem dX6_isPlace_15 : decode cX6_isPlace 15 = .ok (.ifCond .eq 18, 3) := by decide +kernel
theorem dX6_isPlace_18 : decode cX6_isPlace 18 = .ok (.iload_n 2, 1) := by decide +kernel
theorem dX6_isPlace_19 : decode cX6_isPlace 19 = .ok (.iconst 1, 1) := by decide +kernel
theorem dX6_isPlace_20 : decode cX6_isPlace 20 = .ok (.if_icmp .lt 13, 3) := by decide +kernel
theorem dX6_isPlace_23 : decode cX6_isPlace 23 = .ok (.iload_n 2, 1) := by decide +kernel
theorem dX6_isPlace_24 : decode cX6_isPlace 24 = .ok (.bipush 9, 2) := by decide +kernel
theorem dX6_isPlace_26 : decode cX6_isPlace 26 = .ok (.if_icmp .gt 7, 3) := by decide +kernel
theorem dX6_isPlace_29 : decode cX6_isPlace 29 = .ok (.iconst 1, 1) := by decide +kernel
theorem dX6_isPlace_30 : decode cX6_isPlace 30 = .ok (.goto 4, 3) := by decide +kernel
theorem dX6_isPlace_33 : decode cX6_isPlace 33 = .ok (.iconst 0, 1) := by decide +kernel
theorem dX6_isPlace_34 : decode cX6_isPlace 34 = .ok (.ireturn, 1) := by decide +kernel
set_option maxHeartbeats 4000000 in
set_option maxRecDepth 100000 in
theorem ct_X6_isPlace (l : Launch) (D : va_G) (ce : Nat → ClassId) (a b d : Int) (ha : -2147483648 ≤ a ∧ a < 2147483648) (hb : -2147483648 ≤ b ∧ b < 2147483648) (hd : -2147483648 ≤ d ∧ d < 2147483648) : Ct l yX6_isPlace cX6_isPlace 3 (some .boolean) { frames := 1, cells := 0, slots := 0, locals := 21 } 0 0 D (TY ce) [.int (zI a), .int (zI b), .int (zI d)] ([]) (QI D (TY ce) (fun r w1 => ∃ z : Int, r = zI z ∧ w1 = [] ∧ ((z = 1 ∧ (-20 ≤ a ∧ a ≤ 20 ∧ -20 ≤ b ∧ b ≤ 20 ∧ 1 ≤ d ∧ d ≤ 9)) ∨ (z = 0 ∧ ¬ (-20 ≤ a ∧ a ≤ 20 ∧ -20 ≤ b ∧ b ≤ 20 ∧ 1 ≤ d ∧ d ≤ 9))))) := by
  refine Ct.ofB (by decide) (Nat.le_of_ble_eq_true rfl) ?_
  intro p e s m args below meth c A Q hX hnm hR
  refine Z.pick (lv' := [(0, .int (zI a)), (1, .int (zI b)), (2, .int (zI d))]) [0, 1, 2] rfl ?_
  refine Z.iload_n hX dX6_isPlace_0 rfl rfl ?_
  refine Z.bipush hX dX6_isPlace_1 (by decide) ?_
  refine Z.callS0i (As := [.int (zI a), .int (zI 20)]) (rest := []) hX (ct_X6_isWithin l D ce a 20 ha (by omega)) mc_X6_isWithin ml_X6_65 st_X6_isWithin ini_X6 nd_X6_isWithin ⟨Nat.le_of_ble_eq_true rfl, Nat.le_of_ble_eq_true rfl⟩ ⟨rfl, rfl⟩ ⟨Nat.le_refl _, Nat.le_refl _⟩ rfl (Nat.le_of_ble_eq_true rfl) dX6_isPlace_3 ?_
  rintro r_1 w1 ⟨z2, hr_, hw_, hq3⟩
  subst hr_
  refine ⟨hw_, ?_⟩
  refine Z.if_eq hX 33 dX6_isPlace_6 (by decide) ⟨by omega, by omega⟩ ?_ ?_
  · intro c4
    refine Z.iconst hX dX6_isPlace_33 ?_
    exact hR _ _ _ _ dX6_isPlace_34 rfl ⟨0, rfl, rfl, (by omega)⟩
  · intro c4
    refine Z.iload_n hX dX6_isPlace_9 rfl rfl ?_
    refine Z.bipush hX dX6_isPlace_10 (by decide) ?_
    refine Z.callS0i (As := [.int (zI b), .int (zI 20)]) (rest := []) hX (ct_X6_isWithin l D ce b 20 hb (by omega)) mc_X6_isWithin ml_X6_65 st_X6_isWithin ini_X6 nd_X6_isWithin ⟨Nat.le_of_ble_eq_true rfl, Nat.le_of_ble_eq_true rfl⟩ ⟨rfl, rfl⟩ ⟨Nat.le_refl _, Nat.le_refl _⟩ rfl (Nat.le_of_ble_eq_true rfl) dX6_isPlace_12 ?_
    rintro r_5 w1 ⟨z6, hr_, hw_, hq7⟩
    subst hr_
    refine ⟨hw_, ?_⟩
    refine Z.if_eq hX 33 dX6_isPlace_15 (by decide) ⟨by omega, by omega⟩ ?_ ?_
    · intro c8
      refine Z.iconst hX dX6_isPlace_33 ?_
      exact hR _ _ _ _ dX6_isPlace_34 rfl ⟨0, rfl, rfl, (by omega)⟩
    · intro c8
      refine Z.iload_n hX dX6_isPlace_18 rfl rfl ?_
      refine Z.iconst hX dX6_isPlace_19 ?_
      refine Z.icmp_lt hX 33 dX6_isPlace_20 (by decide) ⟨by omega, by omega⟩ ⟨by omega, by omega⟩ ?_ ?_
      · intro c9
        refine Z.iconst hX dX6_isPlace_33 ?_
        exact hR _ _ _ _ dX6_isPlace_34 rfl ⟨0, rfl, rfl, (by omega)⟩
      · intro c9
        refine Z.iload_n hX dX6_isPlace_23 rfl rfl ?_
        refine Z.bipush hX dX6_isPlace_24 (by decide) ?_
        refine Z.icmp_gt hX 33 dX6_isPlace_26 (by decide) ⟨by omega, by omega⟩ ⟨by omega, by omega⟩ ?_ ?_
        · intro c10
          refine Z.iconst hX dX6_isPlace_33 ?_
          exact hR _ _ _ _ dX6_isPlace_34 rfl ⟨0, rfl, rfl, (by omega)⟩
        · intro c10
          refine Z.iconst hX dX6_isPlace_29 ?_
          refine Z.goto hX 34 dX6_isPlace_30 (by decide) ?_
          exact hR _ _ _ _ dX6_isPlace_34 rfl ⟨1, rfl, rfl, (by omega)⟩

theorem dX6_powerOf_0 : decode cX6_powerOf 0 = .ok (.lconst 1, 1) := by decide +kernel
theorem dX6_powerOf_1 : decode cX6_powerOf 1 = .ok (.lstore_n 3, 1) := by decide +kernel
theorem dX6_powerOf_2 : decode cX6_powerOf 2 = .ok (.iconst 0, 1) := by decide +kernel
theorem dX6_powerOf_3 : decode cX6_powerOf 3 = .ok (.istore 5, 2) := by decide +kernel
theorem dX6_powerOf_5 : decode cX6_powerOf 5 = .ok (.iload 5, 2) := by decide +kernel
theorem dX6_powerOf_7 : decode cX6_powerOf 7 = .ok (.iload_n 2, 1) := by decide +kernel
theorem dX6_powerOf_8 : decode cX6_powerOf 8 = .ok (.if_icmp .ge 13, 3) := by decide +kernel
theorem dX6_powerOf_11 : decode cX6_powerOf 11 = .ok (.lload_n 3, 1) := by decide +kernel
theorem dX6_powerOf_12 : decode cX6_powerOf 12 = .ok (.lload_n 0, 1) := by decide +kernel
theorem dX6_powerOf_13 : decode cX6_powerOf 13 = .ok (.lmul, 1) := by decide +kernel
theorem dX6_powerOf_14 : decode cX6_powerOf 14 = .ok (.lstore_n 3, 1) := by decide +kernel
theorem dX6_powerOf_15 : decode cX6_powerOf 15 = .ok (.iinc 5 1, 3) := by decide +kernel
theorem dX6_powerOf_18 : decode cX6_powerOf 18 = .ok (.goto (-13), 3) := by decide +kernel
theorem dX6_powerOf_21 : decode cX6_powerOf 21 = .ok (.lload_n 3, 1) := by decide +kernel
theorem dX6_powerOf_22 : decode cX6_powerOf 22 = .ok (.lreturn, 1) := by decide +kernel
set_option maxHeartbeats 4000000 in
set_option maxRecDepth 100000 in
theorem ct_X6_powerOf (l : Launch) (D : va_G) (ce : Nat → ClassId) (b : Int64) (n : Int) (hn : -2147483648 ≤ n ∧ n < 2147483648) : Ct l yX6_powerOf cX6_powerOf 6 (some .long) { frames := 0, cells := 0, slots := 0, locals := 0 } 0 0 D (TY ce) [.long b, .int (zI n)] ([]) (QL D (TY ce) (fun r w1 => ∃ r0 : Int64, r = r0 ∧ w1 = [] ∧ (r0 = lpow b n.toNat))) := by
  refine Ct.ofL (by decide) (Nat.le_of_ble_eq_true rfl) ?_
  intro p e s m args below meth c A Q hX hnm hR
  refine Z.pick (lv' := [(0, .long b), (2, .int (zI n))]) [0, 1] rfl ?_
  refine Z.lconst (v := 1) hX dX6_powerOf_0 rfl ?_
  refine Z.lstore_n (lv' := [(3, .long 1), (0, .long b), (2, .int (zI n))]) hX dX6_powerOf_1 rfl (by decide) rfl ?_
  refine Z.iconst hX dX6_powerOf_2 ?_
  refine Z.istore (lv' := [(5, .int (zI 0)), (3, .long 1), (0, .long b), (2, .int (zI n))]) hX dX6_powerOf_3 (by decide) rfl ?_
  have key_5 : ∀ (N : Nat), ∀ (k : Int) (r : Int64), (n - k).toNat < N → (hk : 0 ≤ k ∧ (k ≤ n ∨ k = 0)) → (hr : r = lpow b k.toNat) → Z p l e { frames := 0, cells := 0, slots := 0, locals := 0 } s m args below meth c D A 6 0 0 Q 5 [(5, .int (zI k)), (3, .long r), (0, .long b), (2, .int (zI n))] [] ([]) := by
    intro N
    induction N with
    | zero => intro k r hm; exact absurd hm (Nat.not_lt_zero _)
    | succ N ih_5 =>
      intro k r hm hk hr
      refine Z.iload hX dX6_powerOf_5 rfl ?_
      refine Z.iload_n hX dX6_powerOf_7 rfl rfl ?_
      refine Z.icmp_ge hX 21 dX6_powerOf_8 (by decide) ⟨by omega, by omega⟩ ⟨by omega, by omega⟩ ?_ ?_
      · intro c1
        refine Z.lload_n hX dX6_powerOf_21 rfl rfl ?_
        exact hR _ _ _ _ dX6_powerOf_22 ⟨r, rfl, rfl, by rw [hr]; congr 1; omega⟩
      · intro c1
        refine Z.lload_n hX dX6_powerOf_11 rfl rfl ?_
        refine Z.lload_n hX dX6_powerOf_12 rfl rfl ?_
        refine Z.lmul hX dX6_powerOf_13 ?_
        refine Z.lstore_n (lv' := [(3, .long (r * b)), (5, .int (zI k)), (0, .long b), (2, .int (zI n))]) hX dX6_powerOf_14 rfl (by decide) rfl ?_
        refine Z.iinc (lv' := [(5, .int (zI (k + 1))), (3, .long (r * b)), (0, .long b), (2, .int (zI n))]) hX dX6_powerOf_15 rfl (by decide) rfl ?_
        refine Z.goto hX 5 dX6_powerOf_18 (by decide) ?_
        refine Z.pick [0, 1, 2, 3] rfl ?_
        exact ih_5 _ _ (by omega) (by omega) (by rw [hr]; exact lpow_s hk.1)
  refine Z.pick [0, 1, 2, 3] rfl ?_
  exact key_5 _ _ _ (Nat.lt_succ_self _) (by omega) rfl

theorem dX6_commonOf_0 : decode cX6_commonOf 0 = .ok (.lload_n 0, 1) := by decide +kernel
theorem dX6_commonOf_1 : decode cX6_commonOf 1 = .ok (.lconst 0, 1) := by decide +kernel
theorem dX6_commonOf_2 : decode cX6_commonOf 2 = .ok (.lcmp, 1) := by decide +kernel
theorem dX6_commonOf_3 : decode cX6_commonOf 3 = .ok (.ifCond .ge 8, 3) := by decide +kernel
theorem dX6_commonOf_6 : decode cX6_commonOf 6 = .ok (.lload_n 0, 1) := by decide +kernel
theorem dX6_commonOf_7 : decode cX6_commonOf 7 = .ok (.lneg, 1) := by decide +kernel
theorem dX6_commonOf_8 : decode cX6_commonOf 8 = .ok (.goto 4, 3) := by decide +kernel
theorem dX6_commonOf_11 : decode cX6_commonOf 11 = .ok (.lload_n 0, 1) := by decide +kernel
theorem dX6_commonOf_12 : decode cX6_commonOf 12 = .ok (.lstore 4, 2) := by decide +kernel
theorem dX6_commonOf_14 : decode cX6_commonOf 14 = .ok (.lload_n 2, 1) := by decide +kernel
theorem dX6_commonOf_15 : decode cX6_commonOf 15 = .ok (.lconst 0, 1) := by decide +kernel
theorem dX6_commonOf_16 : decode cX6_commonOf 16 = .ok (.lcmp, 1) := by decide +kernel
theorem dX6_commonOf_17 : decode cX6_commonOf 17 = .ok (.ifCond .ge 8, 3) := by decide +kernel
theorem dX6_commonOf_20 : decode cX6_commonOf 20 = .ok (.lload_n 2, 1) := by decide +kernel
theorem dX6_commonOf_21 : decode cX6_commonOf 21 = .ok (.lneg, 1) := by decide +kernel
theorem dX6_commonOf_22 : decode cX6_commonOf 22 = .ok (.goto 4, 3) := by decide +kernel
theorem dX6_commonOf_25 : decode cX6_commonOf 25 = .ok (.lload_n 2, 1) := by decide +kernel
theorem dX6_commonOf_26 : decode cX6_commonOf 26 = .ok (.lstore 6, 2) := by decide +kernel
theorem dX6_commonOf_28 : decode cX6_commonOf 28 = .ok (.iconst 0, 1) := by decide +kernel
theorem dX6_commonOf_29 : decode cX6_commonOf 29 = .ok (.istore 8, 2) := by decide +kernel
theorem dX6_commonOf_31 : decode cX6_commonOf 31 = .ok (.iload 8, 2) := by decide +kernel
theorem dX6_commonOf_33 : decode cX6_commonOf 33 = .ok (.sipush 128, 3) := by decide +kernel
theorem dX6_commonOf_36 : decode cX6_commonOf 36 = .ok (.if_icmp .ge 31, 3) := by decide +kernel
theorem dX6_commonOf_39 : decode cX6_commonOf 39 = .ok (.lload 6, 2) := by decide +kernel
theorem dX6_commonOf_41 : decode cX6_commonOf 41 = .ok (.lconst 0, 1) := by decide +kernel
theorem dX6_commonOf_42 : decode cX6_commonOf 42 = .ok (.lcmp, 1) := by decide +kernel
theorem dX6_commonOf_43 : decode cX6_commonOf 43 = .ok (.ifCond .eq 24, 3) := by decide +kernel
theorem dX6_commonOf_46 : decode cX6_commonOf 46 = .ok (.lload 4, 2) := by decide +kernel
theorem dX6_commonOf_48 : decode cX6_commonOf 48 = .ok (.lload 6, 2) := by decide +kernel
theorem dX6_commonOf_50 : decode cX6_commonOf 50 = .ok (.lrem, 1) := by decide +kernel
theorem dX6_commonOf_51 : decode cX6_commonOf 51 = .ok (.lstore 9, 2) := by decide +kernel
theorem dX6_commonOf_53 : decode cX6_commonOf 53 = .ok (.lload 6, 2) := by decide +kernel
theorem dX6_commonOf_55 : decode cX6_commonOf 55 = .ok (.lstore 4, 2) := by decide +kernel
theorem dX6_commonOf_57 : decode cX6_commonOf 57 = .ok (.lload 9, 2) := by decide +kernel
theorem dX6_commonOf_59 : decode cX6_commonOf 59 = .ok (.lstore 6, 2) := by decide +kernel
theorem dX6_commonOf_61 : decode cX6_commonOf 61 = .ok (.iinc 8 1, 3) := by decide +kernel
theorem dX6_commonOf_64 : decode cX6_commonOf 64 = .ok (.goto (-33), 3) := by decide +kernel
theorem dX6_commonOf_67 : decode cX6_commonOf 67 = .ok (.lload 4, 2) := by decide +kernel
theorem dX6_commonOf_69 : decode cX6_commonOf 69 = .ok (.lreturn, 1) := by decide +kernel
set_option maxHeartbeats 4000000 in
set_option maxRecDepth 100000 in
theorem ct_X6_commonOf (l : Launch) (D : va_G) (ce : Nat → ClassId) (a b : Int64)  : Ct l yX6_commonOf cX6_commonOf 11 (some .long) { frames := 0, cells := 0, slots := 0, locals := 0 } 0 0 D (TY ce) [.long a, .long b] ([]) (QL D (TY ce) (fun r w1 => ∃ r0 : Int64, r = r0 ∧ w1 = [] ∧ (cgE a b r0))) := by
  refine Ct.ofL (by decide) (Nat.le_of_ble_eq_true rfl) ?_
  intro p e s m args below meth c A Q hX hnm hR
  refine Z.pick (lv' := [(0, .long a), (2, .long b)]) [0, 1] rfl ?_
  have key_12 : ∀ (x : Int64), (hx1 : x = lab a) → Z p l e { frames := 0, cells := 0, slots := 0, locals := 0 } s m args below meth c D A 11 0 0 Q 12 [(0, .long a), (2, .long b)] [.long x] ([]) := by
    intro x hx1
    refine Z.lstore (lv' := [(4, .long x), (0, .long a), (2, .long b)]) hX dX6_commonOf_12 (by decide) rfl ?_
    have key_26 : ∀ (y : Int64), (hy1 : y = lab b) → Z p l e { frames := 0, cells := 0, slots := 0, locals := 0 } s m args below meth c D A 11 0 0 Q 26 [(4, .long x)] [.long y] ([]) := by
      intro y hy1
      refine Z.lstore (lv' := [(6, .long y), (4, .long x)]) hX dX6_commonOf_26 (by decide) rfl ?_
      refine Z.iconst hX dX6_commonOf_28 ?_
      refine Z.istore (lv' := [(8, .int (zI 0)), (6, .long y), (4, .long x)]) hX dX6_commonOf_29 (by decide) rfl ?_
      have key_31 : ∀ (N : Nat), ∀ (i : Int) (x y : Int64), (128 - i).toNat < N → (hi : 0 ≤ i ∧ i ≤ 128) → (hc : cgI a b x y) → (hp : cgP x y i) → Z p l e { frames := 0, cells := 0, slots := 0, locals := 0 } s m args below meth c D A 11 0 0 Q 31 [(8, .int (zI i)), (4, .long x), (6, .long y)] [] ([]) := by
        intro N
        induction N with
        | zero => intro i x y hm; exact absurd hm (Nat.not_lt_zero _)
        | succ N ih_31 =>
          intro i x y hm hi hc hp
          refine Z.iload hX dX6_commonOf_31 rfl ?_
          refine Z.sipush hX dX6_commonOf_33 (by decide) ?_
          refine Z.icmp_ge hX 67 dX6_commonOf_36 (by decide) ⟨by omega, by omega⟩ ⟨by omega, by omega⟩ ?_ ?_
          · intro c1
            refine Z.lload hX dX6_commonOf_67 rfl ?_
            exact hR _ _ _ _ dX6_commonOf_69 ⟨x, rfl, rfl, cgI_e (by first | assumption | exact cgP_e (by assumption) hp) hc⟩
          · intro c1
            refine Z.lload hX dX6_commonOf_39 rfl ?_
            refine Z.lconst (v := 0) hX dX6_commonOf_41 rfl ?_
            refine Z.lcmp_eq hX 67 dX6_commonOf_42 dX6_commonOf_43 (by decide) ?_ ?_
            · intro c2
              refine Z.lload hX dX6_commonOf_67 rfl ?_
              exact hR _ _ _ _ dX6_commonOf_69 ⟨x, rfl, rfl, cgI_e (by first | assumption | exact cgP_e (by assumption) hp) hc⟩
            · intro c2
              refine Z.lload hX dX6_commonOf_46 rfl ?_
              refine Z.lload hX dX6_commonOf_48 rfl ?_
              refine Z.lrem hX dX6_commonOf_50 (by assumption) ?_
              refine Z.lstore (lv' := [(9, .long (x - x / y * y)), (8, .int (zI i)), (4, .long x), (6, .long y)]) hX dX6_commonOf_51 (by decide) rfl ?_
              refine Z.lload hX dX6_commonOf_53 rfl ?_
              refine Z.lstore (lv' := [(4, .long y), (9, .long (x - x / y * y)), (8, .int (zI i)), (6, .long y)]) hX dX6_commonOf_55 (by decide) rfl ?_
              refine Z.lload hX dX6_commonOf_57 rfl ?_
              refine Z.lstore (lv' := [(6, .long (x - x / y * y)), (4, .long y), (9, .long (x - x / y * y)), (8, .int (zI i))]) hX dX6_commonOf_59 (by decide) rfl ?_
              refine Z.iinc (lv' := [(8, .int (zI (i + 1))), (6, .long (x - x / y * y)), (4, .long y), (9, .long (x - x / y * y))]) hX dX6_commonOf_61 rfl (by decide) rfl ?_
              refine Z.goto hX 31 dX6_commonOf_64 (by decide) ?_
              refine Z.pick [0, 2, 1] rfl ?_
              exact ih_31 _ _ _ (by omega) (by omega) (cgI_s (by assumption) hc) (cgP_s hi.1 (by assumption) hp)
      refine Z.pick [0, 2, 1] rfl ?_
      exact key_31 _ _ _ _ (Nat.lt_succ_self _) (by omega) (by rw [hx1, hy1]; exact cgI_0 a b) (Or.inl rfl)
    refine Z.lload_n hX dX6_commonOf_14 rfl rfl ?_
    refine Z.lconst (v := 0) hX dX6_commonOf_15 rfl ?_
    refine Z.lcmp_ge hX 25 dX6_commonOf_16 dX6_commonOf_17 (by decide) ?_ ?_
    · intro c3
      refine Z.lload_n hX dX6_commonOf_25 rfl rfl ?_
      refine Z.pick [0] rfl ?_
      exact key_26 _ (lab_pos (by assumption))
    · intro c3
      refine Z.lload_n hX dX6_commonOf_20 rfl rfl ?_
      refine Z.lneg hX dX6_commonOf_21 ?_
      refine Z.goto hX 26 dX6_commonOf_22 (by decide) ?_
      refine Z.pick [0] rfl ?_
      exact key_26 _ (lab_neg (by assumption))
  refine Z.lload_n hX dX6_commonOf_0 rfl rfl ?_
  refine Z.lconst (v := 0) hX dX6_commonOf_1 rfl ?_
  refine Z.lcmp_ge hX 11 dX6_commonOf_2 dX6_commonOf_3 (by decide) ?_ ?_
  · intro c4
    refine Z.lload_n hX dX6_commonOf_11 rfl rfl ?_
    refine Z.pick [0, 1] rfl ?_
    exact key_12 _ (lab_pos (by assumption))
  · intro c4
    refine Z.lload_n hX dX6_commonOf_6 rfl rfl ?_
    refine Z.lneg hX dX6_commonOf_7 ?_
    refine Z.goto hX 12 dX6_commonOf_8 (by decide) ?_
    refine Z.pick [0, 1] rfl ?_
    exact key_12 _ (lab_neg (by assumption))

theorem dX6_isPowerWithin_0 : decode cX6_isPowerWithin 0 = .ok (.lload_n 0, 1) := by decide +kernel
theorem dX6_isPowerWithin_1 : decode cX6_isPowerWithin 1 = .ok (.lconst 1, 1) := by decide +kernel
theorem dX6_isPowerWithin_2 : decode cX6_isPowerWithin 2 = .ok (.lcmp, 1) := by decide +kernel
theorem dX6_isPowerWithin_3 : decode cX6_isPowerWithin 3 = .ok (.ifCond .ge 5, 3) := by decide +kernel
theorem dX6_isPowerWithin_6 : decode cX6_isPowerWithin 6 = .ok (.iconst 0, 1) := by decide +kernel
theorem dX6_isPowerWithin_7 : decode cX6_isPowerWithin 7 = .ok (.ireturn, 1) := by decide +kernel
theorem dX6_isPowerWithin_8 : decode cX6_isPowerWithin 8 = .ok (.lload_n 3, 1) := by decide +kernel
theorem dX6_isPowerWithin_9 : decode cX6_isPowerWithin 9 = .ok (.lstore 5, 2) := by decide +kernel
theorem dX6_isPowerWithin_11 : decode cX6_isPowerWithin 11 = .ok (.iconst 0, 1) := by decide +kernel
theorem dX6_isPowerWithin_12 : decode cX6_isPowerWithin 12 = .ok (.istore 7, 2) := by decide +kernel
theorem dX6_isPowerWithin_14 : decode cX6_isPowerWithin 14 = .ok (.iload 7, 2) := by decide +kernel
theorem dX6_isPowerWithin_16 : decode cX6_isPowerWithin 16 = .ok (.iload_n 2, 1) := by decide +kernel
theorem dX6_isPowerWithin_17 : decode cX6_isPowerWithin 17 = .ok (.if_icmp .ge 15, 3) := by decide +kernel
theorem dX6_isPowerWithin_20 : decode cX6_isPowerWithin 20 = .ok (.lload 5, 2) := by decide +kernel
theorem dX6_isPowerWithin_22 : decode cX6_isPowerWithin 22 = .ok (.lload_n 0, 1) := by decide +kernel
theorem dX6_isPowerWithin_23 : decode cX6_isPowerWithin 23 = .ok (.ldiv, 1) := by decide +kernel
theorem dX6_isPowerWithin_24 : decode cX6_isPowerWithin 24 = .ok (.lstore 5, 2) := by decide +kernel
theorem dX6_isPowerWithin_26 : decode cX6_isPowerWithin 26 = .ok (.iinc 7 1, 3) := by decide +kernel
theorem dX6_isPowerWithin_29 : decode cX6_isPowerWithin 29 = .ok (.goto (-15), 3) := by decide +kernel
theorem dX6_isPowerWithin_32 : decode cX6_isPowerWithin 32 = .ok (.lload 5, 2) := by decide +kernel
theorem dX6_isPowerWithin_34 : decode cX6_isPowerWithin 34 = .ok (.lconst 1, 1) := by decide +kernel
theorem dX6_isPowerWithin_35 : decode cX6_isPowerWithin 35 = .ok (.lcmp, 1) := by decide +kernel
theorem dX6_isPowerWithin_36 : decode cX6_isPowerWithin 36 = .ok (.ifCond .lt 7, 3) := by decide +kernel
theorem dX6_isPowerWithin_39 : decode cX6_isPowerWithin 39 = .ok (.iconst 1, 1) := by decide +kernel
theorem dX6_isPowerWithin_40 : decode cX6_isPowerWithin 40 = .ok (.goto 4, 3) := by decide +kernel
theorem dX6_isPowerWithin_43 : decode cX6_isPowerWithin 43 = .ok (.iconst 0, 1) := by decide +kernel
theorem dX6_isPowerWithin_44 : decode cX6_isPowerWithin 44 = .ok (.ireturn, 1) := by decide +kernel
set_option maxHeartbeats 4000000 in
set_option maxRecDepth 100000 in
theorem ct_X6_isPowerWithin (l : Launch) (D : va_G) (ce : Nat → ClassId) (b : Int64) (k : Int) (v : Int64) (hk : -2147483648 ≤ k ∧ k < 2147483648) : Ct l yX6_isPowerWithin cX6_isPowerWithin 8 (some .boolean) { frames := 0, cells := 0, slots := 0, locals := 0 } 0 0 D (TY ce) [.long b, .int (zI k), .long v] ([]) (QI D (TY ce) (fun r w1 => ∃ z : Int, r = zI z ∧ w1 = [] ∧ (z = 0 ∨ z = 1))) := by
  refine Ct.ofB (by decide) (Nat.le_of_ble_eq_true rfl) ?_
  intro p e s m args below meth c A Q hX hnm hR
  refine Z.pick (lv' := [(0, .long b), (2, .int (zI k)), (3, .long v)]) [0, 1, 2] rfl ?_
  refine Z.lload_n hX dX6_isPowerWithin_0 rfl rfl ?_
  refine Z.lconst (v := 1) hX dX6_isPowerWithin_1 rfl ?_
  refine Z.lcmp_ge hX 8 dX6_isPowerWithin_2 dX6_isPowerWithin_3 (by decide) ?_ ?_
  · intro c1
    have hb0 : ¬ b = 0 := fun q => by subst q; exact absurd (by assumption) (by decide : ¬ (1 : Int64) ≤ 0)
    refine Z.lload_n hX dX6_isPowerWithin_8 rfl rfl ?_
    refine Z.lstore (lv' := [(5, .long v), (0, .long b), (2, .int (zI k)), (3, .long v)]) hX dX6_isPowerWithin_9 (by decide) rfl ?_
    refine Z.iconst hX dX6_isPowerWithin_11 ?_
    refine Z.istore (lv' := [(7, .int (zI 0)), (5, .long v), (0, .long b), (2, .int (zI k)), (3, .long v)]) hX dX6_isPowerWithin_12 (by decide) rfl ?_
    have key_14 : ∀ (N : Nat), ∀ (i : Int) (x : Int64), (k - i).toNat < N → (hi : 0 ≤ i ∧ (i ≤ k ∨ i = 0)) → Z p l e { frames := 0, cells := 0, slots := 0, locals := 0 } s m args below meth c D A 8 0 0 Q 14 [(7, .int (zI i)), (5, .long x), (0, .long b), (2, .int (zI k))] [] ([]) := by
      intro N
      induction N with
      | zero => intro i x hm; exact absurd hm (Nat.not_lt_zero _)
      | succ N ih_14 =>
        intro i x hm hi
        refine Z.iload hX dX6_isPowerWithin_14 rfl ?_
        refine Z.iload_n hX dX6_isPowerWithin_16 rfl rfl ?_
        refine Z.icmp_ge hX 32 dX6_isPowerWithin_17 (by decide) ⟨by omega, by omega⟩ ⟨by omega, by omega⟩ ?_ ?_
        · intro c2
          refine Z.lload hX dX6_isPowerWithin_32 rfl ?_
          refine Z.lconst (v := 1) hX dX6_isPowerWithin_34 rfl ?_
          refine Z.lcmp_lt hX 43 dX6_isPowerWithin_35 dX6_isPowerWithin_36 (by decide) ?_ ?_
          · intro c3
            refine Z.iconst hX dX6_isPowerWithin_43 ?_
            exact hR _ _ _ _ dX6_isPowerWithin_44 rfl ⟨0, rfl, rfl, (by omega)⟩
          · intro c3
            refine Z.iconst hX dX6_isPowerWithin_39 ?_
            refine Z.goto hX 44 dX6_isPowerWithin_40 (by decide) ?_
            exact hR _ _ _ _ dX6_isPowerWithin_44 rfl ⟨1, rfl, rfl, (by omega)⟩
        · intro c2
          refine Z.lload hX dX6_isPowerWithin_20 rfl ?_
          refine Z.lload_n hX dX6_isPowerWithin_22 rfl rfl ?_
          refine Z.ldiv hX dX6_isPowerWithin_23 hb0 ?_
          refine Z.lstore (lv' := [(5, .long (x / b)), (7, .int (zI i)), (0, .long b), (2, .int (zI k))]) hX dX6_isPowerWithin_24 (by decide) rfl ?_
          refine Z.iinc (lv' := [(7, .int (zI (i + 1))), (5, .long (x / b)), (0, .long b), (2, .int (zI k))]) hX dX6_isPowerWithin_26 rfl (by decide) rfl ?_
          refine Z.goto hX 14 dX6_isPowerWithin_29 (by decide) ?_
          refine Z.pick [0, 1, 2, 3] rfl ?_
          exact ih_14 _ _ (by omega) (by omega)
    refine Z.pick [0, 1, 2, 3] rfl ?_
    exact key_14 _ _ _ (Nat.lt_succ_self _) (by omega)
  · intro c1
    refine Z.iconst hX dX6_isPowerWithin_6 ?_
    exact hR _ _ _ _ dX6_isPowerWithin_7 rfl ⟨0, rfl, rfl, (by omega)⟩

theorem dX6_rootOf_0 : decode cX6_rootOf 0 = .ok (.lconst 0, 1) := by decide +kernel
theorem dX6_rootOf_1 : decode cX6_rootOf 1 = .ok (.lstore_n 3, 1) := by decide +kernel
theorem dX6_rootOf_2 : decode cX6_rootOf 2 = .ok (.bipush 31, 2) := by decide +kernel
theorem dX6_rootOf_4 : decode cX6_rootOf 4 = .ok (.istore 5, 2) := by decide +kernel
theorem dX6_rootOf_6 : decode cX6_rootOf 6 = .ok (.iload 5, 2) := by decide +kernel
theorem dX6_rootOf_8 : decode cX6_rootOf 8 = .ok (.ifCond .lt 30, 3) := by decide +kernel
theorem dX6_rootOf_11 : decode cX6_rootOf 11 = .ok (.lload_n 3, 1) := by decide +kernel
theorem dX6_rootOf_12 : decode cX6_rootOf 12 = .ok (.lconst 1, 1) := by decide +kernel
theorem dX6_rootOf_13 : decode cX6_rootOf 13 = .ok (.iload 5, 2) := by decide +kernel
theorem dX6_rootOf_15 : decode cX6_rootOf 15 = .ok (.lshl, 1) := by decide +kernel
theorem dX6_rootOf_16 : decode cX6_rootOf 16 = .ok (.ladd, 1) := by decide +kernel
theorem dX6_rootOf_17 : decode cX6_rootOf 17 = .ok (.lstore 6, 2) := by decide +kernel
theorem dX6_rootOf_19 : decode cX6_rootOf 19 = .ok (.lload 6, 2) := by decide +kernel
theorem dX6_rootOf_21 : decode cX6_rootOf 21 = .ok (.iload_n 2, 1) := by decide +kernel
theorem dX6_rootOf_22 : decode cX6_rootOf 22 = .ok (.lload_n 0, 1) := by decide +kernel
theorem dX6_rootOf_23 : decode cX6_rootOf 23 = .ok (.invokestatic 170, 3) := by decide +kernel
theorem dX6_rootOf_26 : decode cX6_rootOf 26 = .ok (.ifCond .eq 6, 3) := by decide +kernel
theorem dX6_rootOf_29 : decode cX6_rootOf 29 = .ok (.lload 6, 2) := by decide +kernel
theorem dX6_rootOf_31 : decode cX6_rootOf 31 = .ok (.lstore_n 3, 1) := by decide +kernel
theorem dX6_rootOf_32 : decode cX6_rootOf 32 = .ok (.iinc 5 (-1), 3) := by decide +kernel
theorem dX6_rootOf_35 : decode cX6_rootOf 35 = .ok (.goto (-29), 3) := by decide +kernel
theorem dX6_rootOf_38 : decode cX6_rootOf 38 = .ok (.lload_n 3, 1) := by decide +kernel
theorem dX6_rootOf_39 : decode cX6_rootOf 39 = .ok (.lreturn, 1) := by decide +kernel
set_option maxHeartbeats 4000000 in
set_option maxRecDepth 100000 in
theorem ct_X6_rootOf (l : Launch) (D : va_G) (ce : Nat → ClassId) (v : Int64) (k : Int) (hk : -2147483648 ≤ k ∧ k < 2147483648) : Ct l yX6_rootOf cX6_rootOf 8 (some .long) { frames := 1, cells := 0, slots := 0, locals := 27 } 0 0 D (TY ce) [.long v, .int (zI k)] ([]) (QL D (TY ce) (fun r w1 => ∃ r0 : Int64, r = r0 ∧ w1 = [])) := by
  refine Ct.ofL (by decide) (Nat.le_of_ble_eq_true rfl) ?_
  intro p e s m args below meth c A Q hX hnm hR
  refine Z.pick (lv' := [(0, .long v), (2, .int (zI k))]) [0, 1] rfl ?_
  refine Z.lconst (v := 0) hX dX6_rootOf_0 rfl ?_
  refine Z.lstore_n (lv' := [(3, .long 0), (0, .long v), (2, .int (zI k))]) hX dX6_rootOf_1 rfl (by decide) rfl ?_
  refine Z.bipush hX dX6_rootOf_2 (by decide) ?_
  refine Z.istore (lv' := [(5, .int (zI 31)), (3, .long 0), (0, .long v), (2, .int (zI k))]) hX dX6_rootOf_4 (by decide) rfl ?_
  have key_6 : ∀ (N : Nat), ∀ (i : Int) (x : Int64), (i + 1).toNat < N → (hi : -1 ≤ i ∧ i ≤ 31) → Z p l e { frames := 1, cells := 0, slots := 0, locals := 27 } s m args below meth c D A 8 0 0 Q 6 [(5, .int (zI i)), (3, .long x), (0, .long v), (2, .int (zI k))] [] ([]) := by
    intro N
    induction N with
    | zero => intro i x hm; exact absurd hm (Nat.not_lt_zero _)
    | succ N ih_6 =>
      intro i x hm hi
      refine Z.iload hX dX6_rootOf_6 rfl ?_
      refine Z.if_lt hX 38 dX6_rootOf_8 (by decide) ⟨by omega, by omega⟩ ?_ ?_
      · intro c1
        refine Z.lload_n hX dX6_rootOf_38 rfl rfl ?_
        exact hR _ _ _ _ dX6_rootOf_39 ⟨x, rfl, rfl⟩
      · intro c1
        refine Z.lload_n hX dX6_rootOf_11 rfl rfl ?_
        refine Z.lconst (v := 1) hX dX6_rootOf_12 rfl ?_
        refine Z.iload hX dX6_rootOf_13 rfl ?_
        refine Z.lshl hX dX6_rootOf_15 rfl ?_
        refine Z.topl (fun y2 ey2 => ?_)
        refine Z.ladd hX dX6_rootOf_16 ?_
        refine Z.lstore (lv' := [(6, .long (x + y2)), (5, .int (zI i)), (3, .long x), (0, .long v), (2, .int (zI k))]) hX dX6_rootOf_17 (by decide) rfl ?_
        refine Z.lload hX dX6_rootOf_19 rfl ?_
        refine Z.iload_n hX dX6_rootOf_21 rfl rfl ?_
        refine Z.lload_n hX dX6_rootOf_22 rfl rfl ?_
        refine Z.callS0i (As := [.long (x + y2), .int (zI k), .long v]) (rest := []) hX (ct_X6_isPowerWithin l D ce (x + y2) k v (by omega)) mc_X6_isPowerWithin ml_X6_170 st_X6_isPowerWithin ini_X6 nd_X6_isPowerWithin ⟨Nat.le_of_ble_eq_true rfl, Nat.le_of_ble_eq_true rfl⟩ ⟨rfl, rfl⟩ ⟨Nat.le_refl _, Nat.le_refl _⟩ rfl (Nat.le_of_ble_eq_true rfl) dX6_rootOf_23 ?_
        rintro r_3 w1 ⟨z4, hr_, hw_, hq5⟩
        subst hr_
        refine ⟨hw_, ?_⟩
        refine Z.if_eq hX 32 dX6_rootOf_26 (by decide) ⟨by omega, by omega⟩ ?_ ?_
        · intro c6
          refine Z.iinc (lv' := [(5, .int (zI (i + -1))), (6, .long (x + y2)), (3, .long x), (0, .long v), (2, .int (zI k))]) hX dX6_rootOf_32 rfl (by decide) rfl ?_
          refine Z.goto hX 6 dX6_rootOf_35 (by decide) ?_
          refine Z.pick [0, 2, 3, 4] rfl ?_
          exact ih_6 _ _ (by omega) (by omega)
        · intro c6
          refine Z.lload hX dX6_rootOf_29 rfl ?_
          refine Z.lstore_n (lv' := [(3, .long (x + y2)), (6, .long (x + y2)), (5, .int (zI i)), (0, .long v), (2, .int (zI k))]) hX dX6_rootOf_31 rfl (by decide) rfl ?_
          refine Z.iinc (lv' := [(5, .int (zI (i + -1))), (3, .long (x + y2)), (6, .long (x + y2)), (0, .long v), (2, .int (zI k))]) hX dX6_rootOf_32 rfl (by decide) rfl ?_
          refine Z.goto hX 6 dX6_rootOf_35 (by decide) ?_
          refine Z.pick [0, 1, 3, 4] rfl ?_
          exact ih_6 _ _ (by omega) (by omega)
  refine Z.pick [0, 1, 2, 3] rfl ?_
  exact key_6 _ _ _ (Nat.lt_succ_self _) (by omega)

theorem dX6_slotOf_0 : decode cX6_slotOf 0 = .ok (.iload_n 0, 1) := by decide +kernel
theorem dX6_slotOf_1 : decode cX6_slotOf 1 = .ok (.iload_n 0, 1) := by decide +kernel
theorem dX6_slotOf_2 : decode cX6_slotOf 2 = .ok (.iconst 1, 1) := by decide +kernel
theorem dX6_slotOf_3 : decode cX6_slotOf 3 = .ok (.iadd, 1) := by decide +kernel
theorem dX6_slotOf_4 : decode cX6_slotOf 4 = .ok (.imul, 1) := by decide +kernel
theorem dX6_slotOf_5 : decode cX6_slotOf 5 = .ok (.iconst 2, 1) := by decide +kernel
theorem dX6_slotOf_6 : decode cX6_slotOf 6 = .ok (.idiv, 1) := by decide +kernel
theorem dX6_slotOf_7 : decode cX6_slotOf 7 = .ok (.iload_n 1, 1) := by decide +kernel
theorem dX6_slotOf_8 : decode cX6_slotOf 8 = .ok (.iadd, 1) := by decide +kernel
theorem dX6_slotOf_9 : decode cX6_slotOf 9 = .ok (.ireturn, 1) := by decide +kernel
set_option maxHeartbeats 4000000 in
set_option maxRecDepth 100000 in
theorem ct_X6_slotOf (l : Launch) (D : va_G) (ce : Nat → ClassId) (d j : Int) (hd : 0 ≤ d ∧ d ≤ 6) (hj : 0 ≤ j ∧ j ≤ 6) : Ct l yX6_slotOf cX6_slotOf 2 (some .int) { frames := 0, cells := 0, slots := 0, locals := 0 } 0 0 D (TY ce) [.int (zI d), .int (zI j)] ([]) (QI D (TY ce) (fun r w1 => ∃ z : Int, r = zI z ∧ w1 = [] ∧ (z = sl d + j) ∧ (0 ≤ sl d ∧ sl d + d ≤ 27))) := by
  refine Ct.ofI (by decide) (Nat.le_of_ble_eq_true rfl) ?_
  intro p e s m args below meth c A Q hX hnm hR
  refine Z.pick (lv' := [(0, .int (zI d)), (1, .int (zI j))]) [0, 1] rfl ?_
  have hm := sl_m hd
  have hb := sl_b hd
  refine Z.iload_n hX dX6_slotOf_0 rfl rfl ?_
  refine Z.iload_n hX dX6_slotOf_1 rfl rfl ?_
  refine Z.iconst hX dX6_slotOf_2 ?_
  refine Z.iadd hX dX6_slotOf_3 ?_
  refine Z.imul hX dX6_slotOf_4 ?_
  refine Z.iconst hX dX6_slotOf_5 ?_
  refine Z.idiv hX dX6_slotOf_6 (by omega) (by omega) (by omega) (by omega) ?_
  refine Z.iload_n hX dX6_slotOf_7 rfl rfl ?_
  refine Z.iadd hX dX6_slotOf_8 ?_
  exact hR _ _ _ _ dX6_slotOf_9 ⟨(((d * (d + 1)) / 2) + j), rfl, rfl, rfl, hb⟩

theorem dX5_topOf_0 : decode cX5_topOf 0 = .ok (.iconst 4, 1) := by decide +kernel
theorem dX5_topOf_1 : decode cX5_topOf 1 = .ok (.istore_n 1, 1) := by decide +kernel
theorem dX5_topOf_2 : decode cX5_topOf 2 = .ok (.iload_n 1, 1) := by decide +kernel
theorem dX5_topOf_3 : decode cX5_topOf 3 = .ok (.ifCond .lt 19, 3) := by decide +kernel
theorem dX5_topOf_6 : decode cX5_topOf 6 = .ok (.aload_n 0, 1) := by decide +kernel
theorem dX5_topOf_7 : decode cX5_topOf 7 = .ok (.iload_n 1, 1) := by decide +kernel
theorem dX5_topOf_8 : decode cX5_topOf 8 = .ok (.laload, 1) := by decide +kernel
theorem dX5_topOf_9 : decode cX5_topOf 9 = .ok (.lconst 0, 1) := by decide +kernel
theorem dX5_topOf_10 : decode cX5_topOf 10 = .ok (.lcmp, 1) := by decide +kernel
theorem dX5_topOf_11 : decode cX5_topOf 11 = .ok (.ifCond .eq 5, 3) := by decide +kernel
theorem dX5_topOf_14 : decode cX5_topOf 14 = .ok (.iload_n 1, 1) := by decide +kernel
theorem dX5_topOf_15 : decode cX5_topOf 15 = .ok (.ireturn, 1) := by decide +kernel
theorem dX5_topOf_16 : decode cX5_topOf 16 = .ok (.iinc 1 (-1), 3) := by decide +kernel
theorem dX5_topOf_19 : decode cX5_topOf 19 = .ok (.goto (-17), 3) := by decide +kernel
theorem dX5_topOf_22 : decode cX5_topOf 22 = .ok (.iconst (-1), 1) := by decide +kernel
theorem dX5_topOf_23 : decode cX5_topOf 23 = .ok (.ireturn, 1) := by decide +kernel
set_option maxHeartbeats 4000000 in
set_option maxRecDepth 100000 in
theorem ct_X5_topOf (l : Launch) (D : va_G) (ce : Nat → ClassId) (ad : Nat) (f : Nat → Int64)  : Ct l yX5_topOf cX5_topOf 2 (some .int) { frames := 0, cells := 0, slots := 0, locals := 0 } 0 0 D (TY ce) [.ref ad] ([(ad, .inl (ce 1, 5, .inr (.inl f)))]) (QI D (TY ce) (fun r w1 => ∃ z : Int, r = zI z ∧ w1 = [(ad, .inl (ce 1, 5, .inr (.inl f)))] ∧ (-1 ≤ z ∧ z ≤ 4) ∧ (∀ k : Int, z < k → k ≤ 4 → f k.toNat = 0) ∧ (0 ≤ z → f z.toNat ≠ 0))) := by
  refine Ct.ofI (by decide) (Nat.le_of_ble_eq_true rfl) ?_
  intro p e s m args below meth c A Q hX hnm hR
  refine Z.pick (lv' := [(0, .ref ad)]) [0] rfl ?_
  refine Z.iconst hX dX5_topOf_0 ?_
  refine Z.istore_n (lv' := [(1, .int (zI 4)), (0, .ref ad)]) hX dX5_topOf_1 rfl (by decide) rfl ?_
  have key_2 : ∀ (N : Nat), ∀ (z : Int), (z + 1).toNat < N → (h1 : -1 ≤ z ∧ z ≤ 4) → (h2 : ∀ k : Int, z < k → k ≤ 4 → f k.toNat = 0) → Z p l e { frames := 0, cells := 0, slots := 0, locals := 0 } s m args below meth c D A 2 0 0 Q 2 [(1, .int (zI z)), (0, .ref ad)] [] ([(ad, .inl (ce 1, 5, .inr (.inl f)))]) := by
    intro N
    induction N with
    | zero => intro z hm; exact absurd hm (Nat.not_lt_zero _)
    | succ N ih_2 =>
      intro z hm h1 h2
      refine Z.iload_n hX dX5_topOf_2 rfl rfl ?_
      refine Z.if_lt hX 22 dX5_topOf_3 (by decide) ⟨by omega, by omega⟩ ?_ ?_
      · intro c1
        refine Z.iconst hX dX5_topOf_22 ?_
        exact hR _ _ _ _ dX5_topOf_23 ⟨(-1), rfl, rfl, (by omega), (fun k h3 h4 => h2 k (by omega) h4), (fun h => by omega)⟩
      · intro c1
        refine Z.aload_n hX dX5_topOf_6 rfl rfl ?_
        refine Z.iload_n hX dX5_topOf_7 rfl rfl ?_
        refine Z.laload hX 0 1 dX5_topOf_8 rfl rfl (by omega) (by omega) (by decide) ?_
        refine Z.lconst (v := 0) hX dX5_topOf_9 rfl ?_
        refine Z.lcmp_eq hX 16 dX5_topOf_10 dX5_topOf_11 (by decide) ?_ ?_
        · intro c2
          refine Z.iinc (lv' := [(1, .int (zI (z + -1))), (0, .ref ad)]) hX dX5_topOf_16 rfl (by decide) rfl ?_
          refine Z.goto hX 2 dX5_topOf_19 (by decide) ?_
          refine Z.pick [0, 1] rfl ?_
          exact ih_2 _ (by omega) (by omega) (dg_ih h2 (by assumption))
        · intro c2
          refine Z.iload_n hX dX5_topOf_14 rfl rfl ?_
          exact hR _ _ _ _ dX5_topOf_15 ⟨z, rfl, rfl, h1, h2, (fun _ => by assumption)⟩
  refine Z.pick [0, 1] rfl ?_
  exact key_2 _ _ (Nat.lt_succ_self _) (by omega) (fun k h3 h4 => by omega)

theorem dJ7_fill_d0a16_0 : decode cJ7_fill_d0a16 0 = .ok (.iconst 0, 1) := by decide +kernel
theorem dJ7_fill_d0a16_1 : decode cJ7_fill_d0a16 1 = .ok (.istore_n 3, 1) := by decide +kernel
theorem dJ7_fill_d0a16_2 : decode cJ7_fill_d0a16 2 = .ok (.aload_n 0, 1) := by decide +kernel
theorem dJ7_fill_d0a16_3 : decode cJ7_fill_d0a16 3 = .ok (.arraylength, 1) := by decide +kernel
theorem dJ7_fill_d0a16_4 : decode cJ7_fill_d0a16 4 = .ok (.istore 4, 2) := by decide +kernel
theorem dJ7_fill_d0a16_6 : decode cJ7_fill_d0a16 6 = .ok (.iload_n 3, 1) := by decide +kernel
theorem dJ7_fill_d0a16_7 : decode cJ7_fill_d0a16 7 = .ok (.iload 4, 2) := by decide +kernel
theorem dJ7_fill_d0a16_9 : decode cJ7_fill_d0a16 9 = .ok (.if_icmp .ge 13, 3) := by decide +kernel
theorem dJ7_fill_d0a16_12 : decode cJ7_fill_d0a16 12 = .ok (.aload_n 0, 1) := by decide +kernel
theorem dJ7_fill_d0a16_13 : decode cJ7_fill_d0a16 13 = .ok (.iload_n 3, 1) := by decide +kernel
theorem dJ7_fill_d0a16_14 : decode cJ7_fill_d0a16 14 = .ok (.lload_n 1, 1) := by decide +kernel
theorem dJ7_fill_d0a16_15 : decode cJ7_fill_d0a16 15 = .ok (.lastore, 1) := by decide +kernel
theorem dJ7_fill_d0a16_16 : decode cJ7_fill_d0a16 16 = .ok (.iinc 3 1, 3) := by decide +kernel
theorem dJ7_fill_d0a16_19 : decode cJ7_fill_d0a16 19 = .ok (.goto (-13), 3) := by decide +kernel
theorem dJ7_fill_d0a16_22 : decode cJ7_fill_d0a16 22 = .ok (.return_, 1) := by decide +kernel
set_option maxHeartbeats 4000000 in
set_option maxRecDepth 100000 in
theorem ct_J7_fill_d0a16 (l : Launch) (D : va_G) (ce : Nat → ClassId) (ad n : Nat) (f : Nat → Int64) (v : Int64) (hn : n < 1000) : Ct l yJ7_fill_d0a16 cJ7_fill_d0a16 5 none { frames := 0, cells := 0, slots := 0, locals := 0 } 0 0 D (TY ce) [.ref ad, .long v] ([(ad, .inl (ce 1, n, .inr (.inl f)))]) (QV D (TY ce) (fun w1 => ∃ f2 : Nat → Int64, w1 = [(ad, .inl (ce 1, n, .inr (.inl f2)))] ∧ (∀ q : Int, 0 ≤ q → q < n → f2 q.toNat = v))) := by
  refine Ct.ofV (by decide) (Nat.le_of_ble_eq_true rfl) ?_
  intro p e s m args below meth c A Q hX hnm hR
  refine Z.pick (lv' := [(0, .ref ad), (1, .long v)]) [0, 1] rfl ?_
  refine Z.iconst hX dJ7_fill_d0a16_0 ?_
  refine Z.istore_n (lv' := [(3, .int (zI 0)), (0, .ref ad), (1, .long v)]) hX dJ7_fill_d0a16_1 rfl (by decide) rfl ?_
  refine Z.aload_n hX dJ7_fill_d0a16_2 rfl rfl ?_
  refine Z.alen hX 0 1 dJ7_fill_d0a16_3 rfl rfl ?_
  refine Z.istore (lv' := [(4, .int (zI ((n : Int)))), (3, .int (zI 0)), (0, .ref ad), (1, .long v)]) hX dJ7_fill_d0a16_4 (by decide) rfl ?_
  have key_6 : ∀ (N : Nat), ∀ (k : Int) (g : Nat → Int64), (n - k).toNat < N → (hk : 0 ≤ k ∧ k ≤ n) → (hz : ∀ q : Int, 0 ≤ q → q < k → g q.toNat = v) → Z p l e { frames := 0, cells := 0, slots := 0, locals := 0 } s m args below meth c D A 5 0 0 Q 6 [(3, .int (zI k)), (4, .int (zI ((n : Int)))), (1, .long v), (0, .ref ad)] [] ([(ad, .inl (ce 1, n, .inr (.inl g)))]) := by
    intro N
    induction N with
    | zero => intro k g hm; exact absurd hm (Nat.not_lt_zero _)
    | succ N ih_6 =>
      intro k g hm hk hz
      refine Z.iload_n hX dJ7_fill_d0a16_6 rfl rfl ?_
      refine Z.iload hX dJ7_fill_d0a16_7 rfl ?_
      refine Z.icmp_ge hX 22 dJ7_fill_d0a16_9 (by decide) ⟨by omega, by omega⟩ ⟨by omega, by omega⟩ ?_ ?_
      · intro c1
        exact hR _ _ _ dJ7_fill_d0a16_22 ⟨g, rfl, (fun q h1 h2 => hz q h1 (by omega))⟩
      · intro c1
        refine Z.aload_n hX dJ7_fill_d0a16_12 rfl rfl ?_
        refine Z.iload_n hX dJ7_fill_d0a16_13 rfl rfl ?_
        refine Z.lload_n hX dJ7_fill_d0a16_14 rfl rfl ?_
        refine Z.lastore hX 0 1 dJ7_fill_d0a16_15 rfl rfl (by omega) (by omega) (by omega) ?_
        obtain ⟨f2, ef2⟩ : ∃ J' : Nat → Int64, J' = vp_updL (g) (k : Int).toNat (v) := ⟨_, rfl⟩
        refine Z.toW (w' := [(ad, .inl (ce 1, n, .inr (.inl f2)))]) (by rw [ef2]; rfl) ?_
        refine Z.iinc (lv' := [(3, .int (zI (k + 1))), (4, .int (zI ((n : Int)))), (1, .long v), (0, .ref ad)]) hX dJ7_fill_d0a16_16 rfl (by decide) rfl ?_
        refine Z.goto hX 6 dJ7_fill_d0a16_19 (by decide) ?_
        refine Z.pick [0, 1, 2, 3] rfl ?_
        exact ih_6 _ _ (by omega) (by omega) (fl_s hk.1 (by rw [ef2]) hz)
  refine Z.pick [1, 0, 3, 2] rfl ?_
  exact key_6 _ _ _ (Nat.lt_succ_self _) (by omega) (fun q h1 h2 => by omega)
end
