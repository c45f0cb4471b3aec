set_option maxRecDepth 100000 in
theorem cp_nat : Cond.native arraycopyName ∈ lw_g := z_mem (k := 243) rfl rfl
set_option maxRecDepth 100000 in
theorem cp_st : Cond.static arraycopyName ∈ lw_g := z_mem (k := 242) rfl rfl
set_option maxRecDepth 100000 in
theorem cp_in : Cond.initialized "java/lang/System" ∈ lw_g := z_mem (k := 40) rfl rfl
set_option maxRecDepth 100000 in
theorem ml_X1_33 : Cond.methodLink RX1 33 arraycopyName ∈ lw_g := z_mem (k := 241) rfl rfl
set_option maxRecDepth 100000 in
theorem ml_X3_32 : Cond.methodLink RX3 32 arraycopyName ∈ lw_g := z_mem (k := 373) rfl rfl
set_option maxRecDepth 100000 in
theorem ma_st : Cond.static Lib.MathLoose.abs_long.x ∈ lw_g := z_mem (k := 403) rfl rfl
set_option maxRecDepth 100000 in
theorem ma_co : Cond.code Lib.MathLoose.abs_long.x Lib.MathLoose.abs_long.code 2 (some .long) ∈ lw_g := z_mem (k := 404) rfl rfl
set_option maxRecDepth 100000 in
theorem ma_in : Cond.initialized "java/lang/Math" ∈ lw_g := z_mem (k := 41) rfl rfl
set_option maxRecDepth 100000 in
theorem mi_st : Cond.static Lib.Math.min.name ∈ lw_g := z_mem (k := 340) rfl rfl
set_option maxRecDepth 100000 in
theorem mi_co : Cond.code Lib.Math.min.name Lib.Math.min.code 2 (some .int) ∈ lw_g := z_mem (k := 341) rfl rfl
set_option maxRecDepth 100000 in
theorem mm_X2_64 : Cond.methodLink RX2 64 Lib.Math.min.name ∈ lw_g := z_mem (k := 339) rfl rfl
set_option maxRecDepth 100000 in
theorem mm_X3_49 : Cond.methodLink RX3 49 Lib.MathLoose.abs_long.x ∈ lw_g := z_mem (k := 402) rfl rfl
def BOK (B : Nat → Int) : Prop := ∀ k : Nat, k < 42 → 0 ≤ B k ∧ B k ≤ 6
theorem BOK_s {B B2 : Nat → Int} {k : Nat} (h : BOK B) (h1 : 0 ≤ B2 k ∧ B2 k ≤ 6) (h2 : ∀ j, j ≠ k → B2 j = B j) : BOK B2 := fun j hj => by
  by_cases e : j = k
  · rw [e]; exact h1
  · rw [h2 j e]; exact h j hj
section ZR7
variable {p : Program} {l : Launch} {e : Env} {R : Room} {s : State} {m : MethodId} {args : Array Value} {below : List Frame} {meth : Method} {c : Code} {D : va_G} {A : Nat → Prop} {nL cells slots : Nat} {Q : State → Prop}
variable {cc : ByteArray} {own : String} {tys : List (ClassId × FieldType)} {pc : Nat} {lv : List (Nat × Value)} {st : List Value} {w : va_W}
theorem Z.copyA (hX : Zf p m c cc nL s args own D tys A) (q0 q1 t0 : Nat) {a0 a : Nat} {cA : ClassId} {N index : Nat} {f g : Nat → Int64} {z : Int} (hd : decode cc pc = .ok (.invokestatic index, 3)) (ha0 : w[q0]? = some (a0, .inl (cA, N, .inr (.inl f)))) (ha1 : w[q1]? = some (a, .inl (cA, N, .inr (.inl g)))) (ht : tys[t0]? = some (cA, .long)) (hz : z = N) (hN : N < 1000) (hl : Cond.methodLink own index arraycopyName ∈ lw_g) (hfr : 1 ≤ R.frames) (hlo : (st.map fun v => v.category).sum + (nativeFrameWords "java/lang/System" "arraycopy" 5 + 11) ≤ R.locals) (k : Z p l e R s m args below meth c D A nL cells slots Q (pc + 3) lv st (w.set q1 (a, .inl (cA, N, .inr (.inl (va_cpy f g 0 0 N)))))) : Z p l e R s m args below meth c D A nL cells slots Q pc lv (.int (zI z) :: .int (zI 0) :: .ref a :: .int (zI 0) :: .ref a0 :: st) w := by
  intro H locs ls hP hD hS hv
  obtain ⟨hx, hb, hml, hown, hts, hK, hA, hN0⟩ := id hX
  subst hz
  have hc : (zI (N : Int)).toNatClampNeg = N := by rw [zI_cl (by omega) (by omega)]; rfl
  have h0 : (zI 0).toNatClampNeg = 0 := rfl
  refine va_copyl (ty := .long) hx hb (by rw [hml]; exact hv.1.symm) hown (hts _ hl) (hts _ cp_nat) (hts _ cp_st) (hts _ cp_in) hK hP hD hS q0 q1 t0 t0 ha0 ha1 ht ht rfl (by decide) (by decide) ?_ (by rw [h0, hc]; omega) (by rw [h0, hc]; omega) (fun _ _ => rfl) hfr hlo hd (fun H1 locs1 hP1 hD1 hS1 => ?_)
  · intro q
    have := (zI_lt (a := (N : Int)) (b := 0) ⟨by omega, by omega⟩ zR_0).mp q
    omega
  · rw [h0, hc] at hP1 hD1
    exact k H1 locs1 ls hP1 hD1 hS1 hv
theorem Z.mabs (hX : Zf p m c cc nL s args own D tys A) {index : Nat} {x : Int64} (hd : decode cc pc = .ok (.invokestatic index, 3)) (hl : Cond.methodLink own index Lib.MathLoose.abs_long.x ∈ lw_g) (hfr : 1 ≤ R.frames) (hlo : (st.map fun v => v.category).sum + 13 ≤ R.locals) (hc : cells ≤ R.cells) (hs : slots ≤ R.slots) (k : Z p l e R s m args below meth c D A nL cells slots Q (pc + 3) lv (.long (if 0 < x then x else -x) :: st) w) : Z p l e R s m args below meth c D A nL cells slots Q pc lv (.long x :: st) w := fun H locs ls hP hD hS hv => va_mabs_long hX.1 hX.2.1 (by rw [hX.2.2.1]; exact hv.1.symm) hX.2.2.2.1 (hX.2.2.2.2.1 _ hl) (hX.2.2.2.2.1 _ ma_st) (hX.2.2.2.2.1 _ ma_in) (hX.2.2.2.2.1 _ ma_co) hfr hlo hc hs hd (k H locs ls hP hD hS hv)
theorem Z.mmin (hX : Zf p m c cc nL s args own D tys A) {index : Nat} {a b : Int} (hd : decode cc pc = .ok (.invokestatic index, 3)) (hl : Cond.methodLink own index Lib.Math.min.name ∈ lw_g) (ha : zR a) (hb : zR b) (hfr : 1 ≤ R.frames) (hlo : (st.map fun v => v.category).sum + 13 ≤ R.locals) (hc : cells ≤ R.cells) (hs : slots ≤ R.slots) (k : Z p l e R s m args below meth c D A nL cells slots Q (pc + 3) lv (.int (zI (if b < a then b else a)) :: st) w) : Z p l e R s m args below meth c D A nL cells slots Q pc lv (.int (zI b) :: .int (zI a) :: st) w := fun H locs ls hP hD hS hv => va_mmin hX.1 hX.2.1 (by rw [hX.2.2.1]; exact hv.1.symm) hX.2.2.2.1 (hX.2.2.2.2.1 _ hl) (hX.2.2.2.2.1 _ mi_st) (hX.2.2.2.2.1 _ ma_in) (hX.2.2.2.2.1 _ mi_co) hfr hlo hc hs hd (by
    have e : (if zI b < zI a then zI b else zI a) = zI (if b < a then b else a) := by
      by_cases q : b < a
      · rw [if_pos q, if_pos ((zI_lt hb ha).mpr q)]
      · rw [if_neg q, if_neg (fun r => q ((zI_lt hb ha).mp r))]
    rw [e]
    exact k H locs ls hP hD hS hv)
end ZR7
theorem set_self {w : va_W} {q : Nat} {x : Nat × va_E} (h : w[q]? = some x) : w.set q x = w := by
  obtain ⟨hl, he⟩ := List.getElem?_eq_some_iff.mp h
  rw [← he]
  exact List.set_getElem_self hl
