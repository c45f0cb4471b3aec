section ZR5
variable {p : Program} {l : Launch} {e : Env} {R : Room} {s : State} {m : MethodId} {args : Array Value} {below : List Frame} {meth : Method} {c : Code} {D : va_G} {A : Nat → Prop} {nL cells slots : Nat} {Q : State → Prop}
variable {cc : ByteArray} {own : String} {tys : List (ClassId × FieldType)} {pc : Nat} {lv : List (Nat × Value)} {st : List Value} {w : va_W}
theorem Z.newl (hX : Zf p m c cc nL s args own D tys A) (t0 : Nat) {cA : ClassId} {z : Int} {N : Nat} (hd : decode cc pc = .ok (.newarray .long, 2)) (ht : tys[t0]? = some (cA, .long)) (hc : Cond.arrayClass .long ∈ lw_g) (hz : z = N) (hN : N ≤ 60000000) (hcells : cells + 1 ≤ R.cells) (hslots : slots + N ≤ R.slots) (k : ∀ q : Nat, Z p l e R s m args below meth c D A nL (cells + 1) (slots + N) Q (pc + 2) lv (.ref q :: st) (w ++ [(q, .inl (cA, N, .inr (.inl (fun _ => 0))))])) : Z p l e R s m args below meth c D A nL cells slots Q pc lv (.int (zI z) :: st) w := by
  intro H locs ls hP hD hS hv
  obtain ⟨hx, hb, hml, hown, hts, hK, hA, hN⟩ := id hX
  subst hz
  refine va_newa (atype := .long) (ty := .long) (N' := N) (a0 := (N, .inr (.inl (fun _ => 0)))) hx hb (hts _ hc) rfl hK hP hD hS hA (fun _ => rfl) ?_ ?_ ?_ hcells hslots hd (fun q cA' H1 hK1 hP1 hD1 hS1 => ?_)
  · intro q0
    have := (zI_lt (a := (N : Int)) (b := 0) ⟨by omega, by omega⟩ zR_0).mp q0
    omega
  · rw [zI_cl (by omega) (by omega)]; rfl
  · show N * _ ≤ _
    simp only [componentBytes]
    omega
  · have h1 : s.vm.findClass ("[" ++ (.long : FieldType).toString) = some cA' := (hK1.2 tys.length (cA', .long) (by simp)).2
    have h2 : s.vm.findClass ("[" ++ (.long : FieldType).toString) = some cA := (hK.2 t0 _ ht).2
    have h3 : cA' = cA := Option.some.inj (h1.symm.trans h2)
    subst h3
    exact k q H1 locs ls hP1 hD1 hS1 hv
theorem Z.newi (hX : Zf p m c cc nL s args own D tys A) (t0 : Nat) {cA : ClassId} {z : Int} {N : Nat} (hd : decode cc pc = .ok (.newarray .int, 2)) (ht : tys[t0]? = some (cA, .int)) (hc : Cond.arrayClass .int ∈ lw_g) (hz : z = N) (hN : N ≤ 60000000) (hcells : cells + 1 ≤ R.cells) (hslots : slots + N ≤ R.slots) (k : ∀ q : Nat, Z p l e R s m args below meth c D A nL (cells + 1) (slots + N) Q (pc + 2) lv (.ref q :: st) (w ++ [(q, .inl (cA, N, .inl (fun _ => 0)))])) : Z p l e R s m args below meth c D A nL cells slots Q pc lv (.int (zI z) :: st) w := by
  intro H locs ls hP hD hS hv
  obtain ⟨hx, hb, hml, hown, hts, hK, hA, hN⟩ := id hX
  subst hz
  refine va_newa (atype := .int) (ty := .int) (N' := N) (a0 := (N, .inl (fun _ => 0))) hx hb (hts _ hc) rfl hK hP hD hS hA (fun _ => rfl) ?_ ?_ ?_ hcells hslots hd (fun q cA' H1 hK1 hP1 hD1 hS1 => ?_)
  · intro q0
    have := (zI_lt (a := (N : Int)) (b := 0) ⟨by omega, by omega⟩ zR_0).mp q0
    omega
  · rw [zI_cl (by omega) (by omega)]; rfl
  · show N * _ ≤ _
    simp only [componentBytes]
    omega
  · have h1 : s.vm.findClass ("[" ++ (.int : FieldType).toString) = some cA' := (hK1.2 tys.length (cA', .int) (by simp)).2
    have h2 : s.vm.findClass ("[" ++ (.int : FieldType).toString) = some cA := (hK.2 t0 _ ht).2
    have h3 : cA' = cA := Option.some.inj (h1.symm.trans h2)
    subst h3
    exact k q H1 locs ls hP1 hD1 hS1 hv
theorem Z.newz (hX : Zf p m c cc nL s args own D tys A) (t0 : Nat) {cA : ClassId} {z : Int} {N : Nat} (hd : decode cc pc = .ok (.newarray .boolean, 2)) (ht : tys[t0]? = some (cA, .boolean)) (hc : Cond.arrayClass .boolean ∈ lw_g) (hz : z = N) (hN : N ≤ 60000000) (hcells : cells + 1 ≤ R.cells) (hslots : slots + N ≤ R.slots) (k : ∀ q : Nat, Z p l e R s m args below meth c D A nL (cells + 1) (slots + N) Q (pc + 2) lv (.ref q :: st) (w ++ [(q, .inl (cA, N, .inl (fun _ => 0)))])) : Z p l e R s m args below meth c D A nL cells slots Q pc lv (.int (zI z) :: st) w := by
  intro H locs ls hP hD hS hv
  obtain ⟨hx, hb, hml, hown, hts, hK, hA, hN⟩ := id hX
  subst hz
  refine va_newa (atype := .boolean) (ty := .boolean) (N' := N) (a0 := (N, .inl (fun _ => 0))) hx hb (hts _ hc) rfl hK hP hD hS hA (fun _ => rfl) ?_ ?_ ?_ hcells hslots hd (fun q cA' H1 hK1 hP1 hD1 hS1 => ?_)
  · intro q0
    have := (zI_lt (a := (N : Int)) (b := 0) ⟨by omega, by omega⟩ zR_0).mp q0
    omega
  · rw [zI_cl (by omega) (by omega)]; rfl
  · show N * _ ≤ _
    simp only [componentBytes]
    omega
  · have h1 : s.vm.findClass ("[" ++ (.boolean : FieldType).toString) = some cA' := (hK1.2 tys.length (cA', .boolean) (by simp)).2
    have h2 : s.vm.findClass ("[" ++ (.boolean : FieldType).toString) = some cA := (hK.2 t0 _ ht).2
    have h3 : cA' = cA := Option.some.inj (h1.symm.trans h2)
    subst h3
    exact k q H1 locs ls hP1 hD1 hS1 hv
theorem Z.putF (hX : Zf p m c cc nL s args own D tys A) {ref C : String} {T : u_T} {N index a : Nat} (ci q0 fk : Nat) {fs : List Value} {v : Value} {ty : FieldType} (ty0 : Nat → FieldType) (hin2 : meth.name = "<init>") (hd : decode cc pc = .ok (.putfield index, 3)) (he : w[q0]? = some (a, .inr (ci, fs))) (hc : vwCl[ci]? = some (C, T, N)) (hin : ∀ x ∈ u_ws C T N, x ∈ lw_g) (hty : ∀ k, k < N → parseFieldDescriptor (T k).2.2.1 = some (ty0 k)) (hnm : ∀ a, a < N → ∀ b, b < N → a ≠ b → (T a).2.1 ≠ (T b).2.1) (hk : fk < N) (hl : Cond.fieldLink own index ref (T fk).2.1 (T fk).2.2.1 ∈ lw_g) (hs : ref = (T fk).1) (hfin : (T fk).2.2.2 = true) (hdecl : (T fk).1 = own) (hdd : parseFieldDescriptor (T fk).2.2.1 = some ty) (hn : narrow ty v = v) (hfit : fits ty v = true) (hll : fk < fs.length) (k : Z p l e R s m args below meth c D A nL cells slots Q (pc + 3) lv st (w.set q0 (a, .inr (ci, fs.set fk v)))) : Z p l e R s m args below meth c D A nL cells slots Q pc lv (v :: .ref a :: st) w := fun H locs ls hP hD hS hv => va_putF hX.1 hX.2.1 hX.2.2.2.2.1 hin ty0 hty hnm hX.2.2.2.1 hX.2.2.2.2.2.1 hP hD hS q0 he hc fk hk (hX.2.2.2.2.1 _ hl) (fun x h => by rw [hs]; exact h) hfin hin2 hdecl hdd hn hfit hll hd (fun H1 locs1 hP1 hD1 hS1 => k H1 locs1 ls hP1 hD1 hS1 hv)
theorem Z.objI (hX : Zf p m c cc nL s args own D tys A) {idx a : Nat} (hd : decode cc pc = .ok (.invokespecial idx, 3)) (hl : Cond.methodLink own idx objectInit ∈ lw_g) (hi : Cond.instanceMethod objectInit ∈ lw_g) (hc : Cond.code objectInit ⟨#[0xb1]⟩ 1 none ∈ lw_g) (hfr : 1 ≤ R.frames) (hlo : (st.map fun v => v.category).sum + 12 ≤ R.locals) (k : Z p l e R s m args below meth c D A nL cells slots Q (pc + 3) lv st w) : Z p l e R s m args below meth c D A nL cells slots Q pc lv (.ref a :: st) w := by
  intro H locs ls hP hD hS hv
  obtain ⟨hx, hb, hml, hown, hts, hK, hA, hN⟩ := id hX
  refine W.objInit hx hb hown (hts _ hl) (hts _ hi) (hts _ hc) rfl (by rw [hml]; exact hv.1) rfl hd hfr (by show 2 * (F0 m pc ls _).monitorRoom + _ + 12 ≤ _; have : (F0 m pc ls (.ref a :: st)).monitorRoom = 0 := rfl; rw [this]; omega) ?_
  exact k H locs ls hP hD hS hv
end ZR5
